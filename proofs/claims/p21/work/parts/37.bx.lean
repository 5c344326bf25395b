/-! Boxes: methods that a public call runs. Printed by wip/p20/sx/gBX.py. -/

theorem qn_X0_across {m s : Nat} {F : aq_F} {c : aq_C} {o n K : Nat} (hB : bx_0 m F o n K) {p : Int} (h0 : 0 ≤ p) (h1 : p < 2 * (n : Int)) : am_E ac_X0_across (0, [vR o, vI p], [], aq_h m s F c) (aq_P m s F c (fun r => ∃ v, r = some (vI v) ∧ ((p < (n : Int) ∧ v = p + (n : Int)) ∨ ((n : Int) ≤ p ∧ v = p - (n : Int))))) := by
  obtain ⟨hm, hn1, hn4, hK, hFo, hFd, hFs⟩ := hB
  refine am_E.go (t2 := (1, [vR o, vI p], [vI p], aq_h m s F c)) rfl rfl ?_
  refine am_E.go (t2 := (2, [vR o, vI p], [vR o, vI p], aq_h m s F c)) rfl rfl ?_
  refine aq_gf (v := vI (n : Int)) rfl (by omega) hFo (by decide) rfl ?_
  show am_E _ (5, [vR o, vI p], [vI (n : Int), vI p], aq_h m s F c) _
  refine ae_icmp rfl (fun (q_1 : (n : Int) ≤ p) => ?_) (fun (q_1 : p < (n : Int)) => ?_)
  · refine am_E.go (t2 := (18, [vR o, vI p], [vI p], aq_h m s F c)) rfl rfl ?_
    refine am_E.go (t2 := (19, [vR o, vI p], [vR o, vI p], aq_h m s F c)) rfl rfl ?_
    refine aq_gf (v := vI (n : Int)) rfl (by omega) hFo (by decide) rfl ?_
    show am_E _ (22, [vR o, vI p], [vI (n : Int), vI p], aq_h m s F c) _
    refine ae_sub rfl (am_ri (by omega) (by omega)) ?_
    show am_E _ (23, [vR o, vI p], [vI (p - (n : Int))], aq_h m s F c) _
    refine am_E.ret rfl rfl ?_
    exact ⟨rfl, _, rfl, by omega⟩
  · refine am_E.go (t2 := (9, [vR o, vI p], [vI p], aq_h m s F c)) rfl rfl ?_
    refine am_E.go (t2 := (10, [vR o, vI p], [vR o, vI p], aq_h m s F c)) rfl rfl ?_
    refine aq_gf (v := vI (n : Int)) rfl (by omega) hFo (by decide) rfl ?_
    show am_E _ (13, [vR o, vI p], [vI (n : Int), vI p], aq_h m s F c) _
    refine ae_add rfl (am_ri (by omega) (by omega)) ?_
    show am_E _ (14, [vR o, vI p], [vI (p + (n : Int))], aq_h m s F c) _
    refine am_E.go (t2 := (23, [vR o, vI p], [vI (p + (n : Int))], aq_h m s F c)) rfl rfl ?_
    refine am_E.ret rfl rfl ?_
    exact ⟨rfl, _, rfl, by omega⟩

theorem qn_X0_placeRound {m s : Nat} {F : aq_F} {c : aq_C} {o n K : Nat} (hB : bx_0 m F o n K) {p : Int} : am_E ac_X0_placeRound (0, [vR o, vI p], [], aq_h m s F c) (aq_P m s F c aq_vi) := by
  obtain ⟨hm, hn1, hn4, hK, hFo, hFd, hFs⟩ := hB
  refine am_E.go (t2 := (1, [vR o, vI p], [vI p], aq_h m s F c)) rfl rfl ?_
  refine am_E.go (t2 := (2, [vR o, vI p], [vR o, vI p], aq_h m s F c)) rfl rfl ?_
  refine aq_gf (v := vI (n : Int)) rfl (by omega) hFo (by decide) rfl ?_
  show am_E _ (5, [vR o, vI p], [vI (n : Int), vI p], aq_h m s F c) _
  refine ae_icmp rfl (fun (q_1 : (n : Int) ≤ p) => ?_) (fun (q_1 : p < (n : Int)) => ?_)
  · refine am_E.go (t2 := (13, [vR o, vI p], [vR o], aq_h m s F c)) rfl rfl ?_
    refine aq_gf (v := vI (n : Int)) rfl (by omega) hFo (by decide) rfl ?_
    show am_E _ (16, [vR o, vI p], [vI (n : Int)], aq_h m s F c) _
    refine am_E.go (t2 := (17, [vR o, vI p], [vR o, vI (n : Int)], aq_h m s F c)) rfl rfl ?_
    refine aq_gf (v := vI (2 * (n : Int))) rfl (by omega) hFo (by decide) rfl ?_
    show am_E _ (20, [vR o, vI p], [vI (2 * (n : Int)), vI (n : Int)], aq_h m s F c) _
    refine am_E.go (t2 := (21, [vR o, vI p], [vI (am_w ((n : Int) + (2 * (n : Int))))], aq_h m s F c)) rfl rfl ?_
    refine am_E.go (t2 := (22, [vR o, vI p], [vI 1, vI (am_w ((n : Int) + (2 * (n : Int))))], aq_h m s F c)) rfl rfl ?_
    refine am_E.go (t2 := (23, [vR o, vI p], [vI (am_w ((am_w ((n : Int) + (2 * (n : Int)))) - 1))], aq_h m s F c)) rfl rfl ?_
    refine am_E.go (t2 := (24, [vR o, vI p], [vI p, vI (am_w ((am_w ((n : Int) + (2 * (n : Int)))) - 1))], aq_h m s F c)) rfl rfl ?_
    refine am_E.go (t2 := (25, [vR o, vI p], [vI (am_w ((am_w ((am_w ((n : Int) + (2 * (n : Int)))) - 1)) - p))], aq_h m s F c)) rfl rfl ?_
    refine am_E.ret rfl rfl ?_
    exact ⟨rfl, _, rfl⟩
  · refine am_E.go (t2 := (9, [vR o, vI p], [vI p], aq_h m s F c)) rfl rfl ?_
    refine am_E.go (t2 := (25, [vR o, vI p], [vI p], aq_h m s F c)) rfl rfl ?_
    refine am_E.ret rfl rfl ?_
    exact ⟨rfl, _, rfl⟩

theorem qn_X0_isBetween {m s : Nat} {F : aq_F} {c : aq_C} {o n K : Nat} (hB : bx_0 m F o n K) {p q r : Int} : am_E ac_X0_isBetween (0, [vR o, vI p, vI q, vI r, vU], [], aq_h m s F c) (aq_P m s F c aq_vb) := by
  obtain ⟨hm, hn1, hn4, hK, hFo, hFd, hFs⟩ := hB
  refine am_E.go (t2 := (1, [vR o, vI p, vI q, vI r, vU], [vR o], aq_h m s F c)) rfl rfl ?_
  refine am_E.go (t2 := (2, [vR o, vI p, vI q, vI r, vU], [vI r, vR o], aq_h m s F c)) rfl rfl ?_
  refine aq_callv (y := 2) (as2 := [vI r]) (rest := []) rfl rfl (by decide) (Nat.le_of_ble_eq_true rfl) rfl rfl (Nat.le_of_ble_eq_true rfl) (by omega) hFo rfl (Nat.le_of_ble_eq_true rfl) (qn_X0_placeRound ⟨hm, hn1, hn4, hK, hFo, hFd, hFs⟩) ?_
  rintro r5 h5 ⟨rfl, v_1, rfl⟩
  show am_E _ (5, [vR o, vI p, vI q, vI r, vU], [vI v_1], aq_h m s F c) _
  refine am_E.go (t2 := (7, [vR o, vI p, vI q, vI r, vI v_1], [], aq_h m s F c)) rfl rfl ?_
  refine am_E.go (t2 := (8, [vR o, vI p, vI q, vI r, vI v_1], [vI p], aq_h m s F c)) rfl rfl ?_
  refine am_E.go (t2 := (10, [vR o, vI p, vI q, vI r, vI v_1], [vI v_1, vI p], aq_h m s F c)) rfl rfl ?_
  refine ae_icmp rfl (fun (q_2 : v_1 ≤ p) => ?_) (fun (q_2 : p < v_1) => ?_)
  · refine am_E.go (t2 := (24, [vR o, vI p, vI q, vI r, vI v_1], [vI 0], aq_h m s F c)) rfl rfl ?_
    refine am_E.ret rfl rfl ?_
    exact ⟨rfl, _, rfl, by omega⟩
  · refine am_E.go (t2 := (15, [vR o, vI p, vI q, vI r, vI v_1], [vI v_1], aq_h m s F c)) rfl rfl ?_
    refine am_E.go (t2 := (16, [vR o, vI p, vI q, vI r, vI v_1], [vI q, vI v_1], aq_h m s F c)) rfl rfl ?_
    refine ae_icmp rfl (fun (q_3 : q ≤ v_1) => ?_) (fun (q_3 : v_1 < q) => ?_)
    · refine am_E.go (t2 := (24, [vR o, vI p, vI q, vI r, vI v_1], [vI 0], aq_h m s F c)) rfl rfl ?_
      refine am_E.ret rfl rfl ?_
      exact ⟨rfl, _, rfl, by omega⟩
    · refine am_E.go (t2 := (20, [vR o, vI p, vI q, vI r, vI v_1], [vI 1], aq_h m s F c)) rfl rfl ?_
      refine am_E.go (t2 := (24, [vR o, vI p, vI q, vI r, vI v_1], [vI 1], aq_h m s F c)) rfl rfl ?_
      refine am_E.ret rfl rfl ?_
      exact ⟨rfl, _, rfl, by omega⟩

theorem qn_isPlane_in {m s : Nat} {F : aq_F} {c : aq_C} {o n K : Nat} (hB : bx_0 m F o n K) {tP : Int → Int → Int} (hP : bx_p F o n K tP) {b : Int} (hb0 : 0 ≤ b) (hbK : b < (K : Int)) : ∀ (d : Nat) (p : Int) (v4 : Int) (v5 : Int) (r : Int) (h0 : 0 ≤ r) (h1 : r ≤ 2 * (n : Int)) (hd : 2 * (n : Int) - r < (d : Int)) (K0 : ∀ (v6 : Int), am_E ac_X0_isPlane (81, [vR o, vI b, vR (o + 2 + b.toNat), vI p, vI v4, vI v5, vI v6], [], aq_h m s F c) (aq_P m s F c aq_vb)), am_E ac_X0_isPlane (36, [vR o, vI b, vR (o + 2 + b.toNat), vI p, vI v4, vI v5, vI r], [], aq_h m s F c) (aq_P m s F c aq_vb)
  | 0, p, v4, v5, r, h0, h1, hd, K0 => by exfalso; omega
  | d + 1, p, v4, v5, r, h0, h1, hd, K0 => by
    obtain ⟨hm, hn1, hn4, hK, hFo, hFd, hFs⟩ := hB
    obtain ⟨hPg, hPr, hPt⟩ := hP
    refine am_E.go (t2 := (38, [vR o, vI b, vR (o + 2 + b.toNat), vI p, vI v4, vI v5, vI r], [vI r], aq_h m s F c)) rfl rfl ?_
    refine am_E.go (t2 := (39, [vR o, vI b, vR (o + 2 + b.toNat), vI p, vI v4, vI v5, vI r], [vR o, vI r], aq_h m s F c)) rfl rfl ?_
    refine aq_gf (v := vI (2 * (n : Int))) rfl (by omega) hFo (by decide) rfl ?_
    show am_E _ (42, [vR o, vI b, vR (o + 2 + b.toNat), vI p, vI v4, vI v5, vI r], [vI (2 * (n : Int)), vI r], aq_h m s F c) _
    refine ae_icmp rfl (fun (q_1 : (2 * (n : Int)) ≤ r) => ?_) (fun (q_1 : r < (2 * (n : Int))) => ?_)
    · exact K0 r
    · refine am_E.go (t2 := (46, [vR o, vI b, vR (o + 2 + b.toNat), vI p, vI v4, vI v5, vI r], [vR o], aq_h m s F c)) rfl rfl ?_
      refine am_E.go (t2 := (48, [vR o, vI b, vR (o + 2 + b.toNat), vI p, vI v4, vI v5, vI r], [vI v4, vR o], aq_h m s F c)) rfl rfl ?_
      refine am_E.go (t2 := (50, [vR o, vI b, vR (o + 2 + b.toNat), vI p, vI v4, vI v5, vI r], [vI v5, vI v4, vR o], aq_h m s F c)) rfl rfl ?_
      refine am_E.go (t2 := (52, [vR o, vI b, vR (o + 2 + b.toNat), vI p, vI v4, vI v5, vI r], [vI r, vI v5, vI v4, vR o], aq_h m s F c)) rfl rfl ?_
      refine aq_callv (y := 4) (as2 := [vI v4, vI v5, vI r]) (rest := []) rfl rfl (by decide) (Nat.le_of_ble_eq_true rfl) rfl rfl (Nat.le_of_ble_eq_true rfl) (by omega) hFo rfl (Nat.le_of_ble_eq_true rfl) (qn_X0_isBetween ⟨hm, hn1, hn4, hK, hFo, hFd, hFs⟩) ?_
      rintro r5 h5 ⟨rfl, v_2, rfl, hv_2⟩
      show am_E _ (55, [vR o, vI b, vR (o + 2 + b.toNat), vI p, vI v4, vI v5, vI r], [vI v_2], aq_h m s F c) _
      refine ae_if0 rfl (fun (q_3 : v_2 = 0) => ?_) (fun (q_3 : v_2 ≠ 0) => ?_)
      · refine ae_iinc rfl rfl (am_ri (by omega) (by omega)) ?_
        show am_E _ (78, [vR o, vI b, vR (o + 2 + b.toNat), vI p, vI v4, vI v5, vI (r + 1)], [], aq_h m s F c) _
        refine am_E.go (t2 := (36, [vR o, vI b, vR (o + 2 + b.toNat), vI p, vI v4, vI v5, vI (r + 1)], [], aq_h m s F c)) rfl rfl ?_
        exact qn_isPlane_in ⟨hm, hn1, hn4, hK, hFo, hFd, hFs⟩ ⟨hPg, hPr, hPt⟩ hb0 hbK d p v4 v5 (r + 1) (by omega) (by omega) (by omega) K0
      · refine am_E.go (t2 := (59, [vR o, vI b, vR (o + 2 + b.toNat), vI p, vI v4, vI v5, vI r], [vR o], aq_h m s F c)) rfl rfl ?_
        refine am_E.go (t2 := (61, [vR o, vI b, vR (o + 2 + b.toNat), vI p, vI v4, vI v5, vI r], [vI v4, vR o], aq_h m s F c)) rfl rfl ?_
        refine am_E.go (t2 := (63, [vR o, vI b, vR (o + 2 + b.toNat), vI p, vI v4, vI v5, vI r], [vI v5, vI v4, vR o], aq_h m s F c)) rfl rfl ?_
        refine am_E.go (t2 := (64, [vR o, vI b, vR (o + 2 + b.toNat), vI p, vI v4, vI v5, vI r], [vR (o + 2 + b.toNat), vI v5, vI v4, vR o], aq_h m s F c)) rfl rfl ?_
        refine am_E.go (t2 := (66, [vR o, vI b, vR (o + 2 + b.toNat), vI p, vI v4, vI v5, vI r], [vI r, vR (o + 2 + b.toNat), vI v5, vI v4, vR o], aq_h m s F c)) rfl rfl ?_
        refine aq_alt (ok := fun k => k == 0) rfl rfl (by omega) (hPr _ (by omega)) rfl (by omega) (by omega) ?_
        show am_E _ (67, [vR o, vI b, vR (o + 2 + b.toNat), vI p, vI v4, vI v5, vI r], [vI (tP ((b.toNat : Nat) : Int) r), vI v5, vI v4, vR o], aq_h m s F c) _
        have f_4 := hPt ((b.toNat : Nat) : Int) r (by omega) (by omega) (by omega) (by omega)
        refine aq_callv (y := 4) (as2 := [vI v4, vI v5, vI (tP ((b.toNat : Nat) : Int) r)]) (rest := []) rfl rfl (by decide) (Nat.le_of_ble_eq_true rfl) rfl rfl (Nat.le_of_ble_eq_true rfl) (by omega) hFo rfl (Nat.le_of_ble_eq_true rfl) (qn_X0_isBetween ⟨hm, hn1, hn4, hK, hFo, hFd, hFs⟩) ?_
        rintro r5 h5 ⟨rfl, v_5, rfl, hv_5⟩
        show am_E _ (70, [vR o, vI b, vR (o + 2 + b.toNat), vI p, vI v4, vI v5, vI r], [vI v_5], aq_h m s F c) _
        refine ae_if0 rfl (fun (q_6 : v_5 ≠ 0) => ?_) (fun (q_6 : v_5 = 0) => ?_)
        · refine ae_iinc rfl rfl (am_ri (by omega) (by omega)) ?_
          show am_E _ (78, [vR o, vI b, vR (o + 2 + b.toNat), vI p, vI v4, vI v5, vI (r + 1)], [], aq_h m s F c) _
          refine am_E.go (t2 := (36, [vR o, vI b, vR (o + 2 + b.toNat), vI p, vI v4, vI v5, vI (r + 1)], [], aq_h m s F c)) rfl rfl ?_
          exact qn_isPlane_in ⟨hm, hn1, hn4, hK, hFo, hFd, hFs⟩ ⟨hPg, hPr, hPt⟩ hb0 hbK d p v4 v5 (r + 1) (by omega) (by omega) (by omega) K0
        · refine am_E.go (t2 := (74, [vR o, vI b, vR (o + 2 + b.toNat), vI p, vI v4, vI v5, vI r], [vI 0], aq_h m s F c)) rfl rfl ?_
          refine am_E.ret rfl rfl ?_
          exact ⟨rfl, _, rfl, by omega⟩

theorem qn_isPlane_out {m s : Nat} {F : aq_F} {c : aq_C} {o n K : Nat} (hB : bx_0 m F o n K) {tP : Int → Int → Int} (hP : bx_p F o n K tP) {b : Int} (hb0 : 0 ≤ b) (hbK : b < (K : Int)) : ∀ (d : Nat) (p : Int) (v4 : am_V) (v5 : am_V) (v6 : am_V) (h0 : 0 ≤ p) (h1 : p ≤ 2 * (n : Int)) (hd : 2 * (n : Int) - p < (d : Int)), am_E ac_X0_isPlane (9, [vR o, vI b, vR (o + 2 + b.toNat), vI p, v4, v5, v6], [], aq_h m s F c) (aq_P m s F c aq_vb)
  | 0, p, v4, v5, v6, h0, h1, hd => by exfalso; omega
  | d + 1, p, v4, v5, v6, h0, h1, hd => by
    obtain ⟨hm, hn1, hn4, hK, hFo, hFd, hFs⟩ := hB
    obtain ⟨hPg, hPr, hPt⟩ := hP
    refine am_E.go (t2 := (10, [vR o, vI b, vR (o + 2 + b.toNat), vI p, v4, v5, v6], [vI p], aq_h m s F c)) rfl rfl ?_
    refine am_E.go (t2 := (11, [vR o, vI b, vR (o + 2 + b.toNat), vI p, v4, v5, v6], [vR o, vI p], aq_h m s F c)) rfl rfl ?_
    refine aq_gf (v := vI (2 * (n : Int))) rfl (by omega) hFo (by decide) rfl ?_
    show am_E _ (14, [vR o, vI b, vR (o + 2 + b.toNat), vI p, v4, v5, v6], [vI (2 * (n : Int)), vI p], aq_h m s F c) _
    refine ae_icmp rfl (fun (q_1 : (2 * (n : Int)) ≤ p) => ?_) (fun (q_1 : p < (2 * (n : Int))) => ?_)
    · refine am_E.go (t2 := (88, [vR o, vI b, vR (o + 2 + b.toNat), vI p, v4, v5, v6], [vI 1], aq_h m s F c)) rfl rfl ?_
      refine am_E.ret rfl rfl ?_
      exact ⟨rfl, _, rfl, by omega⟩
    · refine am_E.go (t2 := (18, [vR o, vI b, vR (o + 2 + b.toNat), vI p, v4, v5, v6], [vR o], aq_h m s F c)) rfl rfl ?_
      refine am_E.go (t2 := (19, [vR o, vI b, vR (o + 2 + b.toNat), vI p, v4, v5, v6], [vI p, vR o], aq_h m s F c)) rfl rfl ?_
      refine aq_callv (y := 2) (as2 := [vI p]) (rest := []) rfl rfl (by decide) (Nat.le_of_ble_eq_true rfl) rfl rfl (Nat.le_of_ble_eq_true rfl) (by omega) hFo rfl (Nat.le_of_ble_eq_true rfl) (qn_X0_placeRound ⟨hm, hn1, hn4, hK, hFo, hFd, hFs⟩) ?_
      rintro r5 h5 ⟨rfl, v_2, rfl⟩
      show am_E _ (22, [vR o, vI b, vR (o + 2 + b.toNat), vI p, v4, v5, v6], [vI v_2], aq_h m s F c) _
      refine am_E.go (t2 := (24, [vR o, vI b, vR (o + 2 + b.toNat), vI p, vI v_2, v5, v6], [], aq_h m s F c)) rfl rfl ?_
      refine am_E.go (t2 := (25, [vR o, vI b, vR (o + 2 + b.toNat), vI p, vI v_2, v5, v6], [vR o], aq_h m s F c)) rfl rfl ?_
      refine am_E.go (t2 := (26, [vR o, vI b, vR (o + 2 + b.toNat), vI p, vI v_2, v5, v6], [vR (o + 2 + b.toNat), vR o], aq_h m s F c)) rfl rfl ?_
      refine am_E.go (t2 := (27, [vR o, vI b, vR (o + 2 + b.toNat), vI p, vI v_2, v5, v6], [vI p, vR (o + 2 + b.toNat), vR o], aq_h m s F c)) rfl rfl ?_
      refine aq_alt (ok := fun k => k == 0) rfl rfl (by omega) (hPr _ (by omega)) rfl (by omega) (by omega) ?_
      show am_E _ (28, [vR o, vI b, vR (o + 2 + b.toNat), vI p, vI v_2, v5, v6], [vI (tP ((b.toNat : Nat) : Int) p), vR o], aq_h m s F c) _
      have f_3 := hPt ((b.toNat : Nat) : Int) p (by omega) (by omega) (by omega) (by omega)
      refine aq_callv (y := 2) (as2 := [vI (tP ((b.toNat : Nat) : Int) p)]) (rest := []) rfl rfl (by decide) (Nat.le_of_ble_eq_true rfl) rfl rfl (Nat.le_of_ble_eq_true rfl) (by omega) hFo rfl (Nat.le_of_ble_eq_true rfl) (qn_X0_placeRound ⟨hm, hn1, hn4, hK, hFo, hFd, hFs⟩) ?_
      rintro r5 h5 ⟨rfl, v_4, rfl⟩
      show am_E _ (31, [vR o, vI b, vR (o + 2 + b.toNat), vI p, vI v_2, v5, v6], [vI v_4], aq_h m s F c) _
      refine am_E.go (t2 := (33, [vR o, vI b, vR (o + 2 + b.toNat), vI p, vI v_2, vI v_4, v6], [], aq_h m s F c)) rfl rfl ?_
      refine am_E.go (t2 := (34, [vR o, vI b, vR (o + 2 + b.toNat), vI p, vI v_2, vI v_4, v6], [vI 0], aq_h m s F c)) rfl rfl ?_
      refine am_E.go (t2 := (36, [vR o, vI b, vR (o + 2 + b.toNat), vI p, vI v_2, vI v_4, vI 0], [], aq_h m s F c)) rfl rfl ?_
      refine qn_isPlane_in ⟨hm, hn1, hn4, hK, hFo, hFd, hFs⟩ ⟨hPg, hPr, hPt⟩ hb0 hbK 9 p v_2 v_4 0 (by omega) (by omega) (by omega) ?_
      · intro v6_36
        refine ae_iinc rfl rfl (am_ri (by omega) (by omega)) ?_
        show am_E _ (84, [vR o, vI b, vR (o + 2 + b.toNat), vI (p + 1), vI v_2, vI v_4, vI v6_36], [], aq_h m s F c) _
        refine am_E.go (t2 := (9, [vR o, vI b, vR (o + 2 + b.toNat), vI (p + 1), vI v_2, vI v_4, vI v6_36], [], aq_h m s F c)) rfl rfl ?_
        exact qn_isPlane_out ⟨hm, hn1, hn4, hK, hFo, hFd, hFs⟩ ⟨hPg, hPr, hPt⟩ hb0 hbK d (p + 1) (vI v_2) (vI v_4) (vI v6_36) (by omega) (by omega) (by omega)

theorem qn_X0_isPlane {m s : Nat} {F : aq_F} {c : aq_C} {o n K : Nat} (hB : bx_0 m F o n K) {tP : Int → Int → Int} (hP : bx_p F o n K tP) {b : Int} (hb0 : 0 ≤ b) (hbK : b < (K : Int)) : am_E ac_X0_isPlane (0, [vR o, vI b, vU, vU, vU, vU, vU], [], aq_h m s F c) (aq_P m s F c aq_vb) := by
  obtain ⟨hm, hn1, hn4, hK, hFo, hFd, hFs⟩ := hB
  obtain ⟨hPg, hPr, hPt⟩ := hP
  refine am_E.go (t2 := (1, [vR o, vI b, vU, vU, vU, vU, vU], [vR o], aq_h m s F c)) rfl rfl ?_
  refine aq_gf (v := vR (o + 1)) rfl (by omega) hFo (by decide) rfl ?_
  show am_E _ (4, [vR o, vI b, vU, vU, vU, vU, vU], [vR (o + 1)], aq_h m s F c) _
  refine am_E.go (t2 := (5, [vR o, vI b, vU, vU, vU, vU, vU], [vI b, vR (o + 1)], aq_h m s F c)) rfl rfl ?_
  refine aq_al (ok := fun k => decide (3 ≤ k) && decide (k < 7)) (v := vR (o + 2 + b.toNat)) rfl rfl (by omega) hPg rfl (by omega) (by omega) (aq_gi (by omega)) ?_
  show am_E _ (6, [vR o, vI b, vU, vU, vU, vU, vU], [vR (o + 2 + b.toNat)], aq_h m s F c) _
  refine am_E.go (t2 := (7, [vR o, vI b, vR (o + 2 + b.toNat), vU, vU, vU, vU], [], aq_h m s F c)) rfl rfl ?_
  refine am_E.go (t2 := (8, [vR o, vI b, vR (o + 2 + b.toNat), vU, vU, vU, vU], [vI 0], aq_h m s F c)) rfl rfl ?_
  refine am_E.go (t2 := (9, [vR o, vI b, vR (o + 2 + b.toNat), vI 0, vU, vU, vU], [], aq_h m s F c)) rfl rfl ?_
  exact qn_isPlane_out ⟨hm, hn1, hn4, hK, hFo, hFd, hFs⟩ ⟨hPg, hPr, hPt⟩ hb0 hbK 9 0 (vU) (vU) (vU) (by omega) (by omega) (by omega)

theorem qn_countPlane_l {m s : Nat} {F : aq_F} {c : aq_C} {o n K : Nat} (hB : bx_0 m F o n K) {tP : Int → Int → Int} (hP : bx_p F o n K tP) : ∀ (d : Nat) (x : Int) (b : Int) (h0 : 0 ≤ b) (h1 : b ≤ (K : Int)) (hd : (K : Int) - b < (d : Int)), am_E ac_X0_countPlane (4, [vR o, vI x, vI b], [], aq_h m s F c) (aq_P m s F c aq_vi)
  | 0, x, b, h0, h1, hd => by exfalso; omega
  | d + 1, x, b, h0, h1, hd => by
    obtain ⟨hm, hn1, hn4, hK, hFo, hFd, hFs⟩ := hB
    obtain ⟨hPg, hPr, hPt⟩ := hP
    refine am_E.go (t2 := (5, [vR o, vI x, vI b], [vI b], aq_h m s F c)) rfl rfl ?_
    refine am_E.go (t2 := (6, [vR o, vI x, vI b], [vR o, vI b], aq_h m s F c)) rfl rfl ?_
    refine aq_gf (v := vI (K : Int)) rfl (by omega) hFo (by decide) rfl ?_
    show am_E _ (9, [vR o, vI x, vI b], [vI (K : Int), vI b], aq_h m s F c) _
    refine ae_icmp rfl (fun (q_1 : (K : Int) ≤ b) => ?_) (fun (q_1 : b < (K : Int)) => ?_)
    · refine am_E.go (t2 := (35, [vR o, vI x, vI b], [vI x], aq_h m s F c)) rfl rfl ?_
      refine am_E.ret rfl rfl ?_
      exact ⟨rfl, _, rfl⟩
    · refine am_E.go (t2 := (13, [vR o, vI x, vI b], [vI x], aq_h m s F c)) rfl rfl ?_
      refine am_E.go (t2 := (14, [vR o, vI x, vI b], [vR o, vI x], aq_h m s F c)) rfl rfl ?_
      refine am_E.go (t2 := (15, [vR o, vI x, vI b], [vI b, vR o, vI x], aq_h m s F c)) rfl rfl ?_
      refine aq_callv (y := 2) (as2 := [vI b]) (rest := [vI x]) rfl rfl (by decide) (Nat.le_of_ble_eq_true rfl) rfl rfl (Nat.le_of_ble_eq_true rfl) (by omega) hFo rfl (Nat.le_of_ble_eq_true rfl) (qn_X0_isPlane ⟨hm, hn1, hn4, hK, hFo, hFd, hFs⟩ ⟨hPg, hPr, hPt⟩ (by omega) (by omega)) ?_
      rintro r5 h5 ⟨rfl, v_2, rfl, hv_2⟩
      show am_E _ (18, [vR o, vI x, vI b], [vI v_2, vI x], aq_h m s F c) _
      refine ae_if0 rfl (fun (q_3 : v_2 = 0) => ?_) (fun (q_3 : v_2 ≠ 0) => ?_)
      · refine am_E.go (t2 := (26, [vR o, vI x, vI b], [vI 0, vI x], aq_h m s F c)) rfl rfl ?_
        refine am_E.go (t2 := (27, [vR o, vI x, vI b], [vI (am_w (x + 0))], aq_h m s F c)) rfl rfl ?_
        refine am_E.go (t2 := (28, [vR o, vI (am_w (x + 0)), vI b], [], aq_h m s F c)) rfl rfl ?_
        refine ae_iinc rfl rfl (am_ri (by omega) (by omega)) ?_
        show am_E _ (31, [vR o, vI (am_w (x + 0)), vI (b + 1)], [], aq_h m s F c) _
        refine am_E.go (t2 := (4, [vR o, vI (am_w (x + 0)), vI (b + 1)], [], aq_h m s F c)) rfl rfl ?_
        exact qn_countPlane_l ⟨hm, hn1, hn4, hK, hFo, hFd, hFs⟩ ⟨hPg, hPr, hPt⟩ d (am_w (x + 0)) (b + 1) (by omega) (by omega) (by omega)
      · refine am_E.go (t2 := (22, [vR o, vI x, vI b], [vI 1, vI x], aq_h m s F c)) rfl rfl ?_
        refine am_E.go (t2 := (26, [vR o, vI x, vI b], [vI 1, vI x], aq_h m s F c)) rfl rfl ?_
        refine am_E.go (t2 := (27, [vR o, vI x, vI b], [vI (am_w (x + 1))], aq_h m s F c)) rfl rfl ?_
        refine am_E.go (t2 := (28, [vR o, vI (am_w (x + 1)), vI b], [], aq_h m s F c)) rfl rfl ?_
        refine ae_iinc rfl rfl (am_ri (by omega) (by omega)) ?_
        show am_E _ (31, [vR o, vI (am_w (x + 1)), vI (b + 1)], [], aq_h m s F c) _
        refine am_E.go (t2 := (4, [vR o, vI (am_w (x + 1)), vI (b + 1)], [], aq_h m s F c)) rfl rfl ?_
        exact qn_countPlane_l ⟨hm, hn1, hn4, hK, hFo, hFd, hFs⟩ ⟨hPg, hPr, hPt⟩ d (am_w (x + 1)) (b + 1) (by omega) (by omega) (by omega)

theorem qn_X0_countPlane {m s : Nat} {F : aq_F} {c : aq_C} {o n K : Nat} (hB : bx_0 m F o n K) {tP : Int → Int → Int} (hP : bx_p F o n K tP) : am_E ac_X0_countPlane (0, [vR o, vU, vU], [], aq_h m s F c) (aq_P m s F c aq_vi) := by
  obtain ⟨hm, hn1, hn4, hK, hFo, hFd, hFs⟩ := hB
  obtain ⟨hPg, hPr, hPt⟩ := hP
  refine am_E.go (t2 := (1, [vR o, vU, vU], [vI 0], aq_h m s F c)) rfl rfl ?_
  refine am_E.go (t2 := (2, [vR o, vI 0, vU], [], aq_h m s F c)) rfl rfl ?_
  refine am_E.go (t2 := (3, [vR o, vI 0, vU], [vI 0], aq_h m s F c)) rfl rfl ?_
  refine am_E.go (t2 := (4, [vR o, vI 0, vI 0], [], aq_h m s F c)) rfl rfl ?_
  exact qn_countPlane_l ⟨hm, hn1, hn4, hK, hFo, hFd, hFs⟩ ⟨hPg, hPr, hPt⟩ 106 0 0 (by omega) (by omega) (by omega)

theorem qn_countThrough_l {m s : Nat} {F : aq_F} {c : aq_C} {o n K : Nat} (hB : bx_0 m F o n K) {tP : Int → Int → Int} (hP : bx_p F o n K tP) {b : Int} (hb0 : 0 ≤ b) (hbK : b < (K : Int)) : ∀ (d : Nat) (x : Int) (p : Int) (h0 : 0 ≤ p) (h1 : p ≤ (n : Int)) (hd : (n : Int) - p < (d : Int)), am_E ac_X0_countThrough (4, [vR o, vI b, vI x, vI p], [], aq_h m s F c) (aq_P m s F c aq_vi)
  | 0, x, p, h0, h1, hd => by exfalso; omega
  | d + 1, x, p, h0, h1, hd => by
    obtain ⟨hm, hn1, hn4, hK, hFo, hFd, hFs⟩ := hB
    obtain ⟨hPg, hPr, hPt⟩ := hP
    refine am_E.go (t2 := (5, [vR o, vI b, vI x, vI p], [vI p], aq_h m s F c)) rfl rfl ?_
    refine am_E.go (t2 := (6, [vR o, vI b, vI x, vI p], [vR o, vI p], aq_h m s F c)) rfl rfl ?_
    refine aq_gf (v := vI (n : Int)) rfl (by omega) hFo (by decide) rfl ?_
    show am_E _ (9, [vR o, vI b, vI x, vI p], [vI (n : Int), vI p], aq_h m s F c) _
    refine ae_icmp rfl (fun (q_1 : (n : Int) ≤ p) => ?_) (fun (q_1 : p < (n : Int)) => ?_)
    · refine am_E.go (t2 := (42, [vR o, vI b, vI x, vI p], [vI x], aq_h m s F c)) rfl rfl ?_
      refine am_E.ret rfl rfl ?_
      exact ⟨rfl, _, rfl⟩
    · refine am_E.go (t2 := (13, [vR o, vI b, vI x, vI p], [vI x], aq_h m s F c)) rfl rfl ?_
      refine am_E.go (t2 := (14, [vR o, vI b, vI x, vI p], [vR o, vI x], aq_h m s F c)) rfl rfl ?_
      refine aq_gf (v := vR (o + 1)) rfl (by omega) hFo (by decide) rfl ?_
      show am_E _ (17, [vR o, vI b, vI x, vI p], [vR (o + 1), vI x], aq_h m s F c) _
      refine am_E.go (t2 := (18, [vR o, vI b, vI x, vI p], [vI b, vR (o + 1), vI x], aq_h m s F c)) rfl rfl ?_
      refine aq_al (ok := fun k => decide (3 ≤ k) && decide (k < 7)) (v := vR (o + 2 + b.toNat)) rfl rfl (by omega) hPg rfl (by omega) (by omega) (aq_gi (by omega)) ?_
      show am_E _ (19, [vR o, vI b, vI x, vI p], [vR (o + 2 + b.toNat), vI x], aq_h m s F c) _
      refine am_E.go (t2 := (20, [vR o, vI b, vI x, vI p], [vI p, vR (o + 2 + b.toNat), vI x], aq_h m s F c)) rfl rfl ?_
      refine aq_alt (ok := fun k => k == 0) rfl rfl (by omega) (hPr _ (by omega)) rfl (by omega) (by omega) ?_
      show am_E _ (21, [vR o, vI b, vI x, vI p], [vI (tP ((b.toNat : Nat) : Int) p), vI x], aq_h m s F c) _
      have f_2 := hPt ((b.toNat : Nat) : Int) p (by omega) (by omega) (by omega) (by omega)
      refine am_E.go (t2 := (22, [vR o, vI b, vI x, vI p], [vR o, vI (tP ((b.toNat : Nat) : Int) p), vI x], aq_h m s F c)) rfl rfl ?_
      refine aq_gf (v := vI (n : Int)) rfl (by omega) hFo (by decide) rfl ?_
      show am_E _ (25, [vR o, vI b, vI x, vI p], [vI (n : Int), vI (tP ((b.toNat : Nat) : Int) p), vI x], aq_h m s F c) _
      refine ae_icmp rfl (fun (q_3 : (tP ((b.toNat : Nat) : Int) p) < (n : Int)) => ?_) (fun (q_3 : (n : Int) ≤ (tP ((b.toNat : Nat) : Int) p)) => ?_)
      · refine am_E.go (t2 := (33, [vR o, vI b, vI x, vI p], [vI 0, vI x], aq_h m s F c)) rfl rfl ?_
        refine am_E.go (t2 := (34, [vR o, vI b, vI x, vI p], [vI (am_w (x + 0))], aq_h m s F c)) rfl rfl ?_
        refine am_E.go (t2 := (35, [vR o, vI b, vI (am_w (x + 0)), vI p], [], aq_h m s F c)) rfl rfl ?_
        refine ae_iinc rfl rfl (am_ri (by omega) (by omega)) ?_
        show am_E _ (38, [vR o, vI b, vI (am_w (x + 0)), vI (p + 1)], [], aq_h m s F c) _
        refine am_E.go (t2 := (4, [vR o, vI b, vI (am_w (x + 0)), vI (p + 1)], [], aq_h m s F c)) rfl rfl ?_
        exact qn_countThrough_l ⟨hm, hn1, hn4, hK, hFo, hFd, hFs⟩ ⟨hPg, hPr, hPt⟩ hb0 hbK d (am_w (x + 0)) (p + 1) (by omega) (by omega) (by omega)
      · refine am_E.go (t2 := (29, [vR o, vI b, vI x, vI p], [vI 1, vI x], aq_h m s F c)) rfl rfl ?_
        refine am_E.go (t2 := (33, [vR o, vI b, vI x, vI p], [vI 1, vI x], aq_h m s F c)) rfl rfl ?_
        refine am_E.go (t2 := (34, [vR o, vI b, vI x, vI p], [vI (am_w (x + 1))], aq_h m s F c)) rfl rfl ?_
        refine am_E.go (t2 := (35, [vR o, vI b, vI (am_w (x + 1)), vI p], [], aq_h m s F c)) rfl rfl ?_
        refine ae_iinc rfl rfl (am_ri (by omega) (by omega)) ?_
        show am_E _ (38, [vR o, vI b, vI (am_w (x + 1)), vI (p + 1)], [], aq_h m s F c) _
        refine am_E.go (t2 := (4, [vR o, vI b, vI (am_w (x + 1)), vI (p + 1)], [], aq_h m s F c)) rfl rfl ?_
        exact qn_countThrough_l ⟨hm, hn1, hn4, hK, hFo, hFd, hFs⟩ ⟨hPg, hPr, hPt⟩ hb0 hbK d (am_w (x + 1)) (p + 1) (by omega) (by omega) (by omega)

theorem qn_X0_countThrough {m s : Nat} {F : aq_F} {c : aq_C} {o n K : Nat} (hB : bx_0 m F o n K) {tP : Int → Int → Int} (hP : bx_p F o n K tP) {b : Int} (hb0 : 0 ≤ b) (hbK : b < (K : Int)) : am_E ac_X0_countThrough (0, [vR o, vI b, vU, vU], [], aq_h m s F c) (aq_P m s F c aq_vi) := by
  obtain ⟨hm, hn1, hn4, hK, hFo, hFd, hFs⟩ := hB
  obtain ⟨hPg, hPr, hPt⟩ := hP
  refine am_E.go (t2 := (1, [vR o, vI b, vU, vU], [vI 0], aq_h m s F c)) rfl rfl ?_
  refine am_E.go (t2 := (2, [vR o, vI b, vI 0, vU], [], aq_h m s F c)) rfl rfl ?_
  refine am_E.go (t2 := (3, [vR o, vI b, vI 0, vU], [vI 0], aq_h m s F c)) rfl rfl ?_
  refine am_E.go (t2 := (4, [vR o, vI b, vI 0, vI 0], [], aq_h m s F c)) rfl rfl ?_
  exact qn_countThrough_l ⟨hm, hn1, hn4, hK, hFo, hFd, hFs⟩ ⟨hPg, hPr, hPt⟩ hb0 hbK 9 0 0 (by omega) (by omega) (by omega)

/-- numberOf: free partners passed over; the number -/
def nu_p (f : Int → Int) (p : Int) : Nat → Int → Int → Int
  | 0, _, a => a
  | d + 1, q, a => if q < f p then nu_p f p d (q + 1) (am_w (a + if p < f q then 1 else 0)) else a
def nu_o (f : Int → Int) (N : Int) : Nat → Int → Int → Int → Int
  | 0, _, x, _ => x
  | d + 1, p, x, ch => if p < N then (if p < f p then nu_o f N d (p + 1) (am_w (am_w (x * ch) + nu_p f p 9 (p + 1) 0)) (am_w (ch + -2)) else nu_o f N d (p + 1) x ch) else x

theorem qn_numberOf_in {m s : Nat} {F : aq_F} {c : aq_C} {o n K : Nat} (hB : bx_0 m F o n K) (hr : aq_rg (o + 6 + 3 * K) (2 * (n : Int)) 0 (2 * (n : Int)) c) {T : Int} {T2 : Int} : ∀ (d : Nat) (x : Int) (ch : Int) (p : Int) (a : Int) (q : Int) (h0 : 0 ≤ p) (h1 : p < 2 * (n : Int)) (h2 : 0 ≤ q) (ha : nu_p (c (o + 6 + 3 * K)) p d q a = T2) (hd : max 0 (2 * (n : Int) - q) < (d : Int)) (K0 : ∀ (a2 : Int) (q2 : Int) (ht : a2 = T2), am_E ac_X0_numberOf (73, [vR o, vR (o + 6 + 3 * K), vI x, vI ch, vI p, vI a2, vI q2], [], aq_h m s F c) (aq_P m s F c (fun r => r = some (vI T)))), am_E ac_X0_numberOf (39, [vR o, vR (o + 6 + 3 * K), vI x, vI ch, vI p, vI a, vI q], [], aq_h m s F c) (aq_P m s F c (fun r => r = some (vI T)))
  | 0, x, ch, p, a, q, h0, h1, h2, ha, hd, K0 => by exfalso; omega
  | d + 1, x, ch, p, a, q, h0, h1, h2, ha, hd, K0 => by
    obtain ⟨hm, hn1, hn4, hK, hFo, hFd, hFs⟩ := hB
    refine am_E.go (t2 := (41, [vR o, vR (o + 6 + 3 * K), vI x, vI ch, vI p, vI a, vI q], [vI q], aq_h m s F c)) rfl rfl ?_
    refine am_E.go (t2 := (42, [vR o, vR (o + 6 + 3 * K), vI x, vI ch, vI p, vI a, vI q], [vR (o + 6 + 3 * K), vI q], aq_h m s F c)) rfl rfl ?_
    refine am_E.go (t2 := (44, [vR o, vR (o + 6 + 3 * K), vI x, vI ch, vI p, vI a, vI q], [vI p, vR (o + 6 + 3 * K), vI q], aq_h m s F c)) rfl rfl ?_
    refine aq_al (ok := fun k => k == 0) (v := vI (c (o + 6 + 3 * K) p)) rfl rfl (by omega) hFd rfl (by omega) (by omega) rfl ?_
    show am_E _ (45, [vR o, vR (o + 6 + 3 * K), vI x, vI ch, vI p, vI a, vI q], [vI (c (o + 6 + 3 * K) p), vI q], aq_h m s F c) _
    have f_1 := hr p (by omega) (by omega)
    refine ae_icmp rfl (fun (q_2 : (c (o + 6 + 3 * K) p) ≤ q) => ?_) (fun (q_2 : q < (c (o + 6 + 3 * K) p)) => ?_)
    · exact K0 a q (by rw [← ha, nu_p, if_neg (by omega)])
    · refine am_E.go (t2 := (50, [vR o, vR (o + 6 + 3 * K), vI x, vI ch, vI p, vI a, vI q], [vI a], aq_h m s F c)) rfl rfl ?_
      refine am_E.go (t2 := (51, [vR o, vR (o + 6 + 3 * K), vI x, vI ch, vI p, vI a, vI q], [vR (o + 6 + 3 * K), vI a], aq_h m s F c)) rfl rfl ?_
      refine am_E.go (t2 := (53, [vR o, vR (o + 6 + 3 * K), vI x, vI ch, vI p, vI a, vI q], [vI q, vR (o + 6 + 3 * K), vI a], aq_h m s F c)) rfl rfl ?_
      refine aq_al (ok := fun k => k == 0) (v := vI (c (o + 6 + 3 * K) q)) rfl rfl (by omega) hFd rfl (by omega) (by omega) rfl ?_
      show am_E _ (54, [vR o, vR (o + 6 + 3 * K), vI x, vI ch, vI p, vI a, vI q], [vI (c (o + 6 + 3 * K) q), vI a], aq_h m s F c) _
      have f_3 := hr q (by omega) (by omega)
      refine am_E.go (t2 := (56, [vR o, vR (o + 6 + 3 * K), vI x, vI ch, vI p, vI a, vI q], [vI p, vI (c (o + 6 + 3 * K) q), vI a], aq_h m s F c)) rfl rfl ?_
      refine ae_icmp rfl (fun (q_4 : (c (o + 6 + 3 * K) q) ≤ p) => ?_) (fun (q_4 : p < (c (o + 6 + 3 * K) q)) => ?_)
      · refine am_E.go (t2 := (64, [vR o, vR (o + 6 + 3 * K), vI x, vI ch, vI p, vI a, vI q], [vI 0, vI a], aq_h m s F c)) rfl rfl ?_
        refine am_E.go (t2 := (65, [vR o, vR (o + 6 + 3 * K), vI x, vI ch, vI p, vI a, vI q], [vI (am_w (a + 0))], aq_h m s F c)) rfl rfl ?_
        refine am_E.go (t2 := (67, [vR o, vR (o + 6 + 3 * K), vI x, vI ch, vI p, vI (am_w (a + 0)), vI q], [], aq_h m s F c)) rfl rfl ?_
        refine ae_iinc rfl rfl (am_ri (by omega) (by omega)) ?_
        show am_E _ (70, [vR o, vR (o + 6 + 3 * K), vI x, vI ch, vI p, vI (am_w (a + 0)), vI (q + 1)], [], aq_h m s F c) _
        refine am_E.go (t2 := (39, [vR o, vR (o + 6 + 3 * K), vI x, vI ch, vI p, vI (am_w (a + 0)), vI (q + 1)], [], aq_h m s F c)) rfl rfl ?_
        exact qn_numberOf_in ⟨hm, hn1, hn4, hK, hFo, hFd, hFs⟩ hr d x ch p (am_w (a + 0)) (q + 1) (by omega) (by omega) (by omega) (by rw [← ha, nu_p, if_pos (by omega)]; first | rw [if_pos (by omega)] | rw [if_neg (by omega)]) (by omega) K0
      · refine am_E.go (t2 := (60, [vR o, vR (o + 6 + 3 * K), vI x, vI ch, vI p, vI a, vI q], [vI 1, vI a], aq_h m s F c)) rfl rfl ?_
        refine am_E.go (t2 := (64, [vR o, vR (o + 6 + 3 * K), vI x, vI ch, vI p, vI a, vI q], [vI 1, vI a], aq_h m s F c)) rfl rfl ?_
        refine am_E.go (t2 := (65, [vR o, vR (o + 6 + 3 * K), vI x, vI ch, vI p, vI a, vI q], [vI (am_w (a + 1))], aq_h m s F c)) rfl rfl ?_
        refine am_E.go (t2 := (67, [vR o, vR (o + 6 + 3 * K), vI x, vI ch, vI p, vI (am_w (a + 1)), vI q], [], aq_h m s F c)) rfl rfl ?_
        refine ae_iinc rfl rfl (am_ri (by omega) (by omega)) ?_
        show am_E _ (70, [vR o, vR (o + 6 + 3 * K), vI x, vI ch, vI p, vI (am_w (a + 1)), vI (q + 1)], [], aq_h m s F c) _
        refine am_E.go (t2 := (39, [vR o, vR (o + 6 + 3 * K), vI x, vI ch, vI p, vI (am_w (a + 1)), vI (q + 1)], [], aq_h m s F c)) rfl rfl ?_
        exact qn_numberOf_in ⟨hm, hn1, hn4, hK, hFo, hFd, hFs⟩ hr d x ch p (am_w (a + 1)) (q + 1) (by omega) (by omega) (by omega) (by rw [← ha, nu_p, if_pos (by omega)]; first | rw [if_pos (by omega)] | rw [if_neg (by omega)]) (by omega) K0

theorem qn_numberOf_out {m s : Nat} {F : aq_F} {c : aq_C} {o n K : Nat} (hB : bx_0 m F o n K) (hr : aq_rg (o + 6 + 3 * K) (2 * (n : Int)) 0 (2 * (n : Int)) c) {T : Int} : ∀ (d : Nat) (x : Int) (ch : Int) (p : Int) (v5 : am_V) (v6 : am_V) (h0 : 0 ≤ p) (h1 : p ≤ 2 * (n : Int)) (hx : nu_o (c (o + 6 + 3 * K)) (2 * (n : Int)) d p x ch = T) (hd : 2 * (n : Int) - p < (d : Int)), am_E ac_X0_numberOf (12, [vR o, vR (o + 6 + 3 * K), vI x, vI ch, vI p, v5, v6], [], aq_h m s F c) (aq_P m s F c (fun r => r = some (vI T)))
  | 0, x, ch, p, v5, v6, h0, h1, hx, hd => by exfalso; omega
  | d + 1, x, ch, p, v5, v6, h0, h1, hx, hd => by
    obtain ⟨hm, hn1, hn4, hK, hFo, hFd, hFs⟩ := hB
    refine am_E.go (t2 := (14, [vR o, vR (o + 6 + 3 * K), vI x, vI ch, vI p, v5, v6], [vI p], aq_h m s F c)) rfl rfl ?_
    refine am_E.go (t2 := (15, [vR o, vR (o + 6 + 3 * K), vI x, vI ch, vI p, v5, v6], [vR o, vI p], aq_h m s F c)) rfl rfl ?_
    refine aq_gf (v := vI (2 * (n : Int))) rfl (by omega) hFo (by decide) rfl ?_
    show am_E _ (18, [vR o, vR (o + 6 + 3 * K), vI x, vI ch, vI p, v5, v6], [vI (2 * (n : Int)), vI p], aq_h m s F c) _
    refine ae_icmp rfl (fun (q_1 : (2 * (n : Int)) ≤ p) => ?_) (fun (q_1 : p < (2 * (n : Int))) => ?_)
    · refine am_E.go (t2 := (90, [vR o, vR (o + 6 + 3 * K), vI x, vI ch, vI p, v5, v6], [vI x], aq_h m s F c)) rfl rfl ?_
      refine am_E.ret rfl rfl ?_
      refine ⟨rfl, ?_⟩
      rw [← hx, nu_o, if_neg (by omega)]
    · refine am_E.go (t2 := (22, [vR o, vR (o + 6 + 3 * K), vI x, vI ch, vI p, v5, v6], [vR (o + 6 + 3 * K)], aq_h m s F c)) rfl rfl ?_
      refine am_E.go (t2 := (24, [vR o, vR (o + 6 + 3 * K), vI x, vI ch, vI p, v5, v6], [vI p, vR (o + 6 + 3 * K)], aq_h m s F c)) rfl rfl ?_
      refine aq_al (ok := fun k => k == 0) (v := vI (c (o + 6 + 3 * K) p)) rfl rfl (by omega) hFd rfl (by omega) (by omega) rfl ?_
      show am_E _ (25, [vR o, vR (o + 6 + 3 * K), vI x, vI ch, vI p, v5, v6], [vI (c (o + 6 + 3 * K) p)], aq_h m s F c) _
      have f_2 := hr p (by omega) (by omega)
      refine am_E.go (t2 := (27, [vR o, vR (o + 6 + 3 * K), vI x, vI ch, vI p, v5, v6], [vI p, vI (c (o + 6 + 3 * K) p)], aq_h m s F c)) rfl rfl ?_
      refine ae_icmp rfl (fun (q_3 : (c (o + 6 + 3 * K) p) ≤ p) => ?_) (fun (q_3 : p < (c (o + 6 + 3 * K) p)) => ?_)
      · refine ae_iinc rfl rfl (am_ri (by omega) (by omega)) ?_
        show am_E _ (86, [vR o, vR (o + 6 + 3 * K), vI x, vI ch, vI (p + 1), v5, v6], [], aq_h m s F c) _
        refine am_E.go (t2 := (12, [vR o, vR (o + 6 + 3 * K), vI x, vI ch, vI (p + 1), v5, v6], [], aq_h m s F c)) rfl rfl ?_
        exact qn_numberOf_out ⟨hm, hn1, hn4, hK, hFo, hFd, hFs⟩ hr d x ch (p + 1) (v5) (v6) (by omega) (by omega) (by rw [← hx, nu_o, if_pos (by omega)]; first | (rw [if_pos (by omega), ht_39]) | rw [if_neg (by omega)]) (by omega)
      · refine am_E.go (t2 := (31, [vR o, vR (o + 6 + 3 * K), vI x, vI ch, vI p, v5, v6], [vI 0], aq_h m s F c)) rfl rfl ?_
        refine am_E.go (t2 := (33, [vR o, vR (o + 6 + 3 * K), vI x, vI ch, vI p, vI 0, v6], [], aq_h m s F c)) rfl rfl ?_
        refine am_E.go (t2 := (35, [vR o, vR (o + 6 + 3 * K), vI x, vI ch, vI p, vI 0, v6], [vI p], aq_h m s F c)) rfl rfl ?_
        refine am_E.go (t2 := (36, [vR o, vR (o + 6 + 3 * K), vI x, vI ch, vI p, vI 0, v6], [vI 1, vI p], aq_h m s F c)) rfl rfl ?_
        refine ae_add rfl (am_ri (by omega) (by omega)) ?_
        show am_E _ (37, [vR o, vR (o + 6 + 3 * K), vI x, vI ch, vI p, vI 0, v6], [vI (p + 1)], aq_h m s F c) _
        refine am_E.go (t2 := (39, [vR o, vR (o + 6 + 3 * K), vI x, vI ch, vI p, vI 0, vI (p + 1)], [], aq_h m s F c)) rfl rfl ?_
        refine qn_numberOf_in ⟨hm, hn1, hn4, hK, hFo, hFd, hFs⟩ hr 9 x ch p 0 (p + 1) (by omega) (by omega) (by omega) rfl (by omega) ?_
        · intro a2_39 q2_39 ht_39
          refine am_E.go (t2 := (74, [vR o, vR (o + 6 + 3 * K), vI x, vI ch, vI p, vI a2_39, vI q2_39], [vI x], aq_h m s F c)) rfl rfl ?_
          refine am_E.go (t2 := (75, [vR o, vR (o + 6 + 3 * K), vI x, vI ch, vI p, vI a2_39, vI q2_39], [vI ch, vI x], aq_h m s F c)) rfl rfl ?_
          refine am_E.go (t2 := (76, [vR o, vR (o + 6 + 3 * K), vI x, vI ch, vI p, vI a2_39, vI q2_39], [vI (am_w (x * ch))], aq_h m s F c)) rfl rfl ?_
          refine am_E.go (t2 := (78, [vR o, vR (o + 6 + 3 * K), vI x, vI ch, vI p, vI a2_39, vI q2_39], [vI a2_39, vI (am_w (x * ch))], aq_h m s F c)) rfl rfl ?_
          refine am_E.go (t2 := (79, [vR o, vR (o + 6 + 3 * K), vI x, vI ch, vI p, vI a2_39, vI q2_39], [vI (am_w ((am_w (x * ch)) + a2_39))], aq_h m s F c)) rfl rfl ?_
          refine am_E.go (t2 := (80, [vR o, vR (o + 6 + 3 * K), vI (am_w ((am_w (x * ch)) + a2_39)), vI ch, vI p, vI a2_39, vI q2_39], [], aq_h m s F c)) rfl rfl ?_
          refine am_E.go (t2 := (83, [vR o, vR (o + 6 + 3 * K), vI (am_w ((am_w (x * ch)) + a2_39)), vI (am_w (ch + (-2))), vI p, vI a2_39, vI q2_39], [], aq_h m s F c)) rfl rfl ?_
          refine ae_iinc rfl rfl (am_ri (by omega) (by omega)) ?_
          show am_E _ (86, [vR o, vR (o + 6 + 3 * K), vI (am_w ((am_w (x * ch)) + a2_39)), vI (am_w (ch + (-2))), vI (p + 1), vI a2_39, vI q2_39], [], aq_h m s F c) _
          refine am_E.go (t2 := (12, [vR o, vR (o + 6 + 3 * K), vI (am_w ((am_w (x * ch)) + a2_39)), vI (am_w (ch + (-2))), vI (p + 1), vI a2_39, vI q2_39], [], aq_h m s F c)) rfl rfl ?_
          exact qn_numberOf_out ⟨hm, hn1, hn4, hK, hFo, hFd, hFs⟩ hr d (am_w ((am_w (x * ch)) + a2_39)) (am_w (ch + (-2))) (p + 1) (vI a2_39) (vI q2_39) (by omega) (by omega) (by rw [← hx, nu_o, if_pos (by omega)]; first | (rw [if_pos (by omega), ht_39]) | rw [if_neg (by omega)]) (by omega)

theorem qn_X0_numberOf {m s : Nat} {F : aq_F} {c : aq_C} {o n K : Nat} (hB : bx_0 m F o n K) (hr : aq_rg (o + 6 + 3 * K) (2 * (n : Int)) 0 (2 * (n : Int)) c) : am_E ac_X0_numberOf (0, [vR o, vR (o + 6 + 3 * K), vU, vU, vU, vU, vU], [], aq_h m s F c) (aq_P m s F c (fun r => r = some (vI (nu_o (c (o + 6 + 3 * K)) (2 * (n : Int)) 9 0 0 (2 * (n : Int) - 1))))) := by
  obtain ⟨hm, hn1, hn4, hK, hFo, hFd, hFs⟩ := hB
  refine am_E.go (t2 := (1, [vR o, vR (o + 6 + 3 * K), vU, vU, vU, vU, vU], [vI 0], aq_h m s F c)) rfl rfl ?_
  refine am_E.go (t2 := (2, [vR o, vR (o + 6 + 3 * K), vI 0, vU, vU, vU, vU], [], aq_h m s F c)) rfl rfl ?_
  refine am_E.go (t2 := (3, [vR o, vR (o + 6 + 3 * K), vI 0, vU, vU, vU, vU], [vR o], aq_h m s F c)) rfl rfl ?_
  refine aq_gf (v := vI (2 * (n : Int))) rfl (by omega) hFo (by decide) rfl ?_
  show am_E _ (6, [vR o, vR (o + 6 + 3 * K), vI 0, vU, vU, vU, vU], [vI (2 * (n : Int))], aq_h m s F c) _
  refine am_E.go (t2 := (7, [vR o, vR (o + 6 + 3 * K), vI 0, vU, vU, vU, vU], [vI 1, vI (2 * (n : Int))], aq_h m s F c)) rfl rfl ?_
  refine ae_sub rfl (am_ri (by omega) (by omega)) ?_
  show am_E _ (8, [vR o, vR (o + 6 + 3 * K), vI 0, vU, vU, vU, vU], [vI ((2 * (n : Int)) - 1)], aq_h m s F c) _
  refine am_E.go (t2 := (9, [vR o, vR (o + 6 + 3 * K), vI 0, vI ((2 * (n : Int)) - 1), vU, vU, vU], [], aq_h m s F c)) rfl rfl ?_
  refine am_E.go (t2 := (10, [vR o, vR (o + 6 + 3 * K), vI 0, vI ((2 * (n : Int)) - 1), vU, vU, vU], [vI 0], aq_h m s F c)) rfl rfl ?_
  refine am_E.go (t2 := (12, [vR o, vR (o + 6 + 3 * K), vI 0, vI ((2 * (n : Int)) - 1), vI 0, vU, vU], [], aq_h m s F c)) rfl rfl ?_
  exact qn_numberOf_out ⟨hm, hn1, hn4, hK, hFo, hFd, hFs⟩ hr 9 0 ((2 * (n : Int)) - 1) 0 (vU) (vU) (by omega) (by omega) rfl (by omega)

theorem qn_upsideDown_l {m s : Nat} {F : aq_F} {c0 : aq_C} {S : Nat → Prop} {o n K : Nat} (hB : bx_0 m F o n K) (hSd : S (o + 6 + 3 * K)) (hSs : S (o + 7 + 3 * K)) {tP : Int → Int → Int} (hP : bx_p F o n K tP) {b : Int} (hb0 : 0 ≤ b) (hbK : b < (K : Int)) : ∀ (d : Nat) (p : Int) (c : aq_C) (hs : aq_sm S c0 c) (h0 : 0 ≤ p) (h1 : p ≤ 2 * (n : Int)) (hr : aq_rg (o + 6 + 3 * K) (2 * (n : Int)) 0 (2 * (n : Int)) c) (hd : 2 * (n : Int) - p < (d : Int)), am_E ac_X0_upsideDown (2, [vR o, vI b, vI p], [], aq_h m s F c) (aq_Z m s F S c0 (fun r d => aq_vi r ∧ aq_rg (o + 6 + 3 * K) (2 * (n : Int)) 0 (2 * (n : Int)) d))
  | 0, p, c, hs, h0, h1, hr, hd => by exfalso; omega
  | d + 1, p, c, hs, h0, h1, hr, hd => by
    obtain ⟨hm, hn1, hn4, hK, hFo, hFd, hFs⟩ := hB
    obtain ⟨hPg, hPr, hPt⟩ := hP
    refine am_E.go (t2 := (3, [vR o, vI b, vI p], [vI p], aq_h m s F c)) rfl rfl ?_
    refine am_E.go (t2 := (4, [vR o, vI b, vI p], [vR o, vI p], aq_h m s F c)) rfl rfl ?_
    refine aq_gf (v := vI (2 * (n : Int))) rfl (by omega) hFo (by decide) rfl ?_
    show am_E _ (7, [vR o, vI b, vI p], [vI (2 * (n : Int)), vI p], aq_h m s F c) _
    refine ae_icmp rfl (fun (q_1 : (2 * (n : Int)) ≤ p) => ?_) (fun (q_1 : p < (2 * (n : Int))) => ?_)
    · refine am_E.go (t2 := (39, [vR o, vI b, vI p], [vR o], aq_h m s F c)) rfl rfl ?_
      refine am_E.go (t2 := (40, [vR o, vI b, vI p], [vR o, vR o], aq_h m s F c)) rfl rfl ?_
      refine aq_gf (v := vR (o + 6 + 3 * K)) rfl (by omega) hFo (by decide) rfl ?_
      show am_E _ (43, [vR o, vI b, vI p], [vR (o + 6 + 3 * K), vR o], aq_h m s F c) _
      refine aq_callv (y := 2) (as2 := [vR (o + 6 + 3 * K)]) (rest := []) rfl rfl (by decide) (Nat.le_of_ble_eq_true rfl) rfl rfl (Nat.le_of_ble_eq_true rfl) (by omega) hFo rfl (Nat.le_of_ble_eq_true rfl) (qn_X0_numberOf ⟨hm, hn1, hn4, hK, hFo, hFd, hFs⟩ hr) ?_
      rintro r5 h5 ⟨rfl, rfl⟩
      show am_E _ (46, [vR o, vI b, vI p], [vI (nu_o (c (o + 6 + 3 * K)) (2 * (n : Int)) 9 0 0 (2 * (n : Int) - 1))], aq_h m s F c) _
      refine am_E.ret rfl rfl ?_
      exact ⟨_, rfl, hs, ⟨_, rfl⟩, hr⟩
    · refine am_E.go (t2 := (11, [vR o, vI b, vI p], [vR o], aq_h m s F c)) rfl rfl ?_
      refine aq_gf (v := vR (o + 6 + 3 * K)) rfl (by omega) hFo (by decide) rfl ?_
      show am_E _ (14, [vR o, vI b, vI p], [vR (o + 6 + 3 * K)], aq_h m s F c) _
      refine am_E.go (t2 := (15, [vR o, vI b, vI p], [vR o, vR (o + 6 + 3 * K)], aq_h m s F c)) rfl rfl ?_
      refine am_E.go (t2 := (16, [vR o, vI b, vI p], [vI p, vR o, vR (o + 6 + 3 * K)], aq_h m s F c)) rfl rfl ?_
      refine aq_callv (y := 2) (as2 := [vI p]) (rest := [vR (o + 6 + 3 * K)]) rfl rfl (by decide) (Nat.le_of_ble_eq_true rfl) rfl rfl (Nat.le_of_ble_eq_true rfl) (by omega) hFo rfl (Nat.le_of_ble_eq_true rfl) (qn_X0_across ⟨hm, hn1, hn4, hK, hFo, hFd, hFs⟩ (by omega) (by omega)) ?_
      rintro r5 h5 ⟨rfl, v_2, rfl, hv_2⟩
      show am_E _ (19, [vR o, vI b, vI p], [vI v_2, vR (o + 6 + 3 * K)], aq_h m s F c) _
      refine am_E.go (t2 := (20, [vR o, vI b, vI p], [vR o, vI v_2, vR (o + 6 + 3 * K)], aq_h m s F c)) rfl rfl ?_
      refine am_E.go (t2 := (21, [vR o, vI b, vI p], [vR o, vR o, vI v_2, vR (o + 6 + 3 * K)], aq_h m s F c)) rfl rfl ?_
      refine aq_gf (v := vR (o + 1)) rfl (by omega) hFo (by decide) rfl ?_
      show am_E _ (24, [vR o, vI b, vI p], [vR (o + 1), vR o, vI v_2, vR (o + 6 + 3 * K)], aq_h m s F c) _
      refine am_E.go (t2 := (25, [vR o, vI b, vI p], [vI b, vR (o + 1), vR o, vI v_2, vR (o + 6 + 3 * K)], aq_h m s F c)) rfl rfl ?_
      refine aq_al (ok := fun k => decide (3 ≤ k) && decide (k < 7)) (v := vR (o + 2 + b.toNat)) rfl rfl (by omega) hPg rfl (by omega) (by omega) (aq_gi (by omega)) ?_
      show am_E _ (26, [vR o, vI b, vI p], [vR (o + 2 + b.toNat), vR o, vI v_2, vR (o + 6 + 3 * K)], aq_h m s F c) _
      refine am_E.go (t2 := (27, [vR o, vI b, vI p], [vI p, vR (o + 2 + b.toNat), vR o, vI v_2, vR (o + 6 + 3 * K)], aq_h m s F c)) rfl rfl ?_
      refine aq_alt (ok := fun k => k == 0) rfl rfl (by omega) (hPr _ (by omega)) rfl (by omega) (by omega) ?_
      show am_E _ (28, [vR o, vI b, vI p], [vI (tP ((b.toNat : Nat) : Int) p), vR o, vI v_2, vR (o + 6 + 3 * K)], aq_h m s F c) _
      have f_3 := hPt ((b.toNat : Nat) : Int) p (by omega) (by omega) (by omega) (by omega)
      refine aq_callv (y := 2) (as2 := [vI (tP ((b.toNat : Nat) : Int) p)]) (rest := [vI v_2, vR (o + 6 + 3 * K)]) rfl rfl (by decide) (Nat.le_of_ble_eq_true rfl) rfl rfl (Nat.le_of_ble_eq_true rfl) (by omega) hFo rfl (Nat.le_of_ble_eq_true rfl) (qn_X0_across ⟨hm, hn1, hn4, hK, hFo, hFd, hFs⟩ (by omega) (by omega)) ?_
      rintro r5 h5 ⟨rfl, v_4, rfl, hv_4⟩
      show am_E _ (31, [vR o, vI b, vI p], [vI v_4, vI v_2, vR (o + 6 + 3 * K)], aq_h m s F c) _
      refine aq_as (kd := 0) rfl rfl (by omega) hFd (by omega) (by omega) rfl rfl ?_
      show am_E _ (32, [vR o, vI b, vI p], [], aq_h m s F (aq_u c (o + 6 + 3 * K) v_2 v_4)) _
      generalize hdc_5 : aq_u c (o + 6 + 3 * K) v_2 v_4 = c_5
      have sc_5 := aq_smu hs hdc_5 hSd
      have hdrc_5 := aq_rgu hr hdc_5 (by omega) (by omega)
      refine ae_iinc rfl rfl (am_ri (by omega) (by omega)) ?_
      show am_E _ (35, [vR o, vI b, vI (p + 1)], [], aq_h m s F c_5) _
      refine am_E.go (t2 := (2, [vR o, vI b, vI (p + 1)], [], aq_h m s F c_5)) rfl rfl ?_
      exact qn_upsideDown_l ⟨hm, hn1, hn4, hK, hFo, hFd, hFs⟩ hSd hSs ⟨hPg, hPr, hPt⟩ hb0 hbK d (p + 1) c_5 sc_5 (by omega) (by omega) hdrc_5 (by omega)

theorem qn_X0_upsideDown {m s : Nat} {F : aq_F} {c : aq_C} {S : Nat → Prop} {o n K : Nat} (hB : bx_0 m F o n K) (hSd : S (o + 6 + 3 * K)) (hSs : S (o + 7 + 3 * K)) {tP : Int → Int → Int} (hP : bx_p F o n K tP) {b : Int} (hb0 : 0 ≤ b) (hbK : b < (K : Int)) (hr : aq_rg (o + 6 + 3 * K) (2 * (n : Int)) 0 (2 * (n : Int)) c) : am_E ac_X0_upsideDown (0, [vR o, vI b, vU], [], aq_h m s F c) (aq_Z m s F S c (fun r d => aq_vi r ∧ aq_rg (o + 6 + 3 * K) (2 * (n : Int)) 0 (2 * (n : Int)) d)) := by
  obtain ⟨hm, hn1, hn4, hK, hFo, hFd, hFs⟩ := hB
  obtain ⟨hPg, hPr, hPt⟩ := hP
  refine am_E.go (t2 := (1, [vR o, vI b, vU], [vI 0], aq_h m s F c)) rfl rfl ?_
  refine am_E.go (t2 := (2, [vR o, vI b, vI 0], [], aq_h m s F c)) rfl rfl ?_
  exact qn_upsideDown_l ⟨hm, hn1, hn4, hK, hFo, hFd, hFs⟩ hSd hSs ⟨hPg, hPr, hPt⟩ hb0 hbK 9 0 c aq_sm0 (by omega) (by omega) hr (by omega)
