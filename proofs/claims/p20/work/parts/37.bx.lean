/-! Boxes: methods that a public call runs. Printed by wip/p20/sx/gBX.py. -/

theorem qn_X0_across {m s : Nat} {F : aq_F} {c : aq_C} {o n K : Nat} (hB : bx_0 m F o n K) {p : Int} (h0 : 0 ≤ p) (h1 : p < 2 * (n : Int)) : am_E ac_X0_across (0, [vR o, vI p], [], aq_h m s F c) (aq_P m s F c (fun r => r = some (vI (if p < (n : Int) then p + (n : Int) else p - (n : Int))))) := by
  obtain ⟨hm, hn1, hn4, hK, hFo, hFd, hFs⟩ := hB
  refine am_E.go (t2 := (1, [vR o, vI p], [vI p], aq_h m s F c)) rfl rfl ?_
  refine am_E.go (t2 := (2, [vR o, vI p], [vR o, vI p], aq_h m s F c)) rfl rfl ?_
  refine aq_gf (v := vI (n : Int)) rfl (by omega) hFo (by decide) rfl ?_
  show am_E _ (5, [vR o, vI p], [vI (n : Int), vI p], aq_h m s F c) _
  refine ae_icmp rfl (fun (q_1 : (n : Int) ≤ p) => ?_) (fun (q_1 : p < (n : Int)) => ?_)
  · refine am_E.go (t2 := (18, [vR o, vI p], [vI p], aq_h m s F c)) rfl rfl ?_
    refine am_E.go (t2 := (19, [vR o, vI p], [vR o, vI p], aq_h m s F c)) rfl rfl ?_
    refine aq_gf (v := vI (n : Int)) rfl (by omega) hFo (by decide) rfl ?_
    show am_E _ (22, [vR o, vI p], [vI (n : Int), vI p], aq_h m s F c) _
    refine ae_sub rfl (am_ri (by omega) (by omega)) ?_
    show am_E _ (23, [vR o, vI p], [vI (p - (n : Int))], aq_h m s F c) _
    refine am_E.ret rfl rfl ?_
    refine ⟨rfl, ?_⟩
    first | rw [if_pos (by omega)] | rw [if_neg (by omega)]
  · refine am_E.go (t2 := (9, [vR o, vI p], [vI p], aq_h m s F c)) rfl rfl ?_
    refine am_E.go (t2 := (10, [vR o, vI p], [vR o, vI p], aq_h m s F c)) rfl rfl ?_
    refine aq_gf (v := vI (n : Int)) rfl (by omega) hFo (by decide) rfl ?_
    show am_E _ (13, [vR o, vI p], [vI (n : Int), vI p], aq_h m s F c) _
    refine ae_add rfl (am_ri (by omega) (by omega)) ?_
    show am_E _ (14, [vR o, vI p], [vI (p + (n : Int))], aq_h m s F c) _
    refine am_E.go (t2 := (23, [vR o, vI p], [vI (p + (n : Int))], aq_h m s F c)) rfl rfl ?_
    refine am_E.ret rfl rfl ?_
    refine ⟨rfl, ?_⟩
    first | rw [if_pos (by omega)] | rw [if_neg (by omega)]

theorem qn_X0_placeRound {m s : Nat} {F : aq_F} {c : aq_C} {o n K : Nat} (hB : bx_0 m F o n K) {p : Int} : am_E ac_X0_placeRound (0, [vR o, vI p], [], aq_h m s F c) (aq_P m s F c aq_vi) := by
  obtain ⟨hm, hn1, hn4, hK, hFo, hFd, hFs⟩ := hB
  refine am_E.go (t2 := (1, [vR o, vI p], [vI p], aq_h m s F c)) rfl rfl ?_
  refine am_E.go (t2 := (2, [vR o, vI p], [vR o, vI p], aq_h m s F c)) rfl rfl ?_
  refine aq_gf (v := vI (n : Int)) rfl (by omega) hFo (by decide) rfl ?_
  show am_E _ (5, [vR o, vI p], [vI (n : Int), vI p], aq_h m s F c) _
  refine ae_icmp rfl (fun (q_1 : (n : Int) ≤ p) => ?_) (fun (q_1 : p < (n : Int)) => ?_)
  · refine am_E.go (t2 := (13, [vR o, vI p], [vR o], aq_h m s F c)) rfl rfl ?_
    refine aq_gf (v := vI (n : Int)) rfl (by omega) hFo (by decide) rfl ?_
    show am_E _ (16, [vR o, vI p], [vI (n : Int)], aq_h m s F c) _
    refine am_E.go (t2 := (17, [vR o, vI p], [vR o, vI (n : Int)], aq_h m s F c)) rfl rfl ?_
    refine aq_gf (v := vI (2 * (n : Int))) rfl (by omega) hFo (by decide) rfl ?_
    show am_E _ (20, [vR o, vI p], [vI (2 * (n : Int)), vI (n : Int)], aq_h m s F c) _
    refine am_E.go (t2 := (21, [vR o, vI p], [vI (am_w ((n : Int) + (2 * (n : Int))))], aq_h m s F c)) rfl rfl ?_
    refine am_E.go (t2 := (22, [vR o, vI p], [vI 1, vI (am_w ((n : Int) + (2 * (n : Int))))], aq_h m s F c)) rfl rfl ?_
    refine am_E.go (t2 := (23, [vR o, vI p], [vI (am_w ((am_w ((n : Int) + (2 * (n : Int)))) - 1))], aq_h m s F c)) rfl rfl ?_
    refine am_E.go (t2 := (24, [vR o, vI p], [vI p, vI (am_w ((am_w ((n : Int) + (2 * (n : Int)))) - 1))], aq_h m s F c)) rfl rfl ?_
    refine am_E.go (t2 := (25, [vR o, vI p], [vI (am_w ((am_w ((am_w ((n : Int) + (2 * (n : Int)))) - 1)) - p))], aq_h m s F c)) rfl rfl ?_
    refine am_E.ret rfl rfl ?_
    exact ⟨rfl, _, rfl⟩
  · refine am_E.go (t2 := (9, [vR o, vI p], [vI p], aq_h m s F c)) rfl rfl ?_
    refine am_E.go (t2 := (25, [vR o, vI p], [vI p], aq_h m s F c)) rfl rfl ?_
    refine am_E.ret rfl rfl ?_
    exact ⟨rfl, _, rfl⟩

theorem qn_X0_isBetween {m s : Nat} {F : aq_F} {c : aq_C} {o n K : Nat} (hB : bx_0 m F o n K) {p q r : Int} : am_E ac_X0_isBetween (0, [vR o, vI p, vI q, vI r, vU], [], aq_h m s F c) (aq_P m s F c aq_vb) := by
  obtain ⟨hm, hn1, hn4, hK, hFo, hFd, hFs⟩ := hB
  refine am_E.go (t2 := (1, [vR o, vI p, vI q, vI r, vU], [vR o], aq_h m s F c)) rfl rfl ?_
  refine am_E.go (t2 := (2, [vR o, vI p, vI q, vI r, vU], [vI r, vR o], aq_h m s F c)) rfl rfl ?_
  refine aq_callv (y := 2) (as2 := [vI r]) (rest := []) rfl rfl (by decide) (Nat.le_of_ble_eq_true rfl) rfl rfl (Nat.le_of_ble_eq_true rfl) (by omega) hFo rfl (Nat.le_of_ble_eq_true rfl) (qn_X0_placeRound ⟨hm, hn1, hn4, hK, hFo, hFd, hFs⟩) ?_
  rintro r5 h5 ⟨rfl, v_1, rfl⟩
  show am_E _ (5, [vR o, vI p, vI q, vI r, vU], [vI v_1], aq_h m s F c) _
  refine am_E.go (t2 := (7, [vR o, vI p, vI q, vI r, vI v_1], [], aq_h m s F c)) rfl rfl ?_
  refine am_E.go (t2 := (8, [vR o, vI p, vI q, vI r, vI v_1], [vI p], aq_h m s F c)) rfl rfl ?_
  refine am_E.go (t2 := (10, [vR o, vI p, vI q, vI r, vI v_1], [vI v_1, vI p], aq_h m s F c)) rfl rfl ?_
  refine ae_icmp rfl (fun (q_2 : v_1 ≤ p) => ?_) (fun (q_2 : p < v_1) => ?_)
  · refine am_E.go (t2 := (24, [vR o, vI p, vI q, vI r, vI v_1], [vI 0], aq_h m s F c)) rfl rfl ?_
    refine am_E.ret rfl rfl ?_
    exact ⟨rfl, _, rfl, by omega⟩
  · refine am_E.go (t2 := (15, [vR o, vI p, vI q, vI r, vI v_1], [vI v_1], aq_h m s F c)) rfl rfl ?_
    refine am_E.go (t2 := (16, [vR o, vI p, vI q, vI r, vI v_1], [vI q, vI v_1], aq_h m s F c)) rfl rfl ?_
    refine ae_icmp rfl (fun (q_3 : q ≤ v_1) => ?_) (fun (q_3 : v_1 < q) => ?_)
    · refine am_E.go (t2 := (24, [vR o, vI p, vI q, vI r, vI v_1], [vI 0], aq_h m s F c)) rfl rfl ?_
      refine am_E.ret rfl rfl ?_
      exact ⟨rfl, _, rfl, by omega⟩
    · refine am_E.go (t2 := (20, [vR o, vI p, vI q, vI r, vI v_1], [vI 1], aq_h m s F c)) rfl rfl ?_
      refine am_E.go (t2 := (24, [vR o, vI p, vI q, vI r, vI v_1], [vI 1], aq_h m s F c)) rfl rfl ?_
      refine am_E.ret rfl rfl ?_
      exact ⟨rfl, _, rfl, by omega⟩

theorem qn_isPlane_in {m s : Nat} {F : aq_F} {c : aq_C} {o n K : Nat} (hB : bx_0 m F o n K) {tP : Int → Int → Int} (hP : bx_p F o n K tP) {b : Int} (hb0 : 0 ≤ b) (hbK : b < (K : Int)) : ∀ (d : Nat) (p : Int) (v4 : Int) (v5 : Int) (r : Int) (h0 : 0 ≤ r) (h1 : r ≤ 2 * (n : Int)) (hd : 2 * (n : Int) - r < (d : Int)) (K0 : ∀ (v6 : Int), am_E ac_X0_isPlane (81, [vR o, vI b, vR (o + 2 + b.toNat), vI p, vI v4, vI v5, vI v6], [], aq_h m s F c) (aq_P m s F c aq_vb)), am_E ac_X0_isPlane (36, [vR o, vI b, vR (o + 2 + b.toNat), vI p, vI v4, vI v5, vI r], [], aq_h m s F c) (aq_P m s F c aq_vb)
  | 0, p, v4, v5, r, h0, h1, hd, K0 => by exfalso; omega
  | d + 1, p, v4, v5, r, h0, h1, hd, K0 => by
    obtain ⟨hm, hn1, hn4, hK, hFo, hFd, hFs⟩ := hB
    obtain ⟨hPg, hPr, hPt⟩ := hP
    refine am_E.go (t2 := (38, [vR o, vI b, vR (o + 2 + b.toNat), vI p, vI v4, vI v5, vI r], [vI r], aq_h m s F c)) rfl rfl ?_
    refine am_E.go (t2 := (39, [vR o, vI b, vR (o + 2 + b.toNat), vI p, vI v4, vI v5, vI r], [vR o, vI r], aq_h m s F c)) rfl rfl ?_
    refine aq_gf (v := vI (2 * (n : Int))) rfl (by omega) hFo (by decide) rfl ?_
    show am_E _ (42, [vR o, vI b, vR (o + 2 + b.toNat), vI p, vI v4, vI v5, vI r], [vI (2 * (n : Int)), vI r], aq_h m s F c) _
    refine ae_icmp rfl (fun (q_1 : (2 * (n : Int)) ≤ r) => ?_) (fun (q_1 : r < (2 * (n : Int))) => ?_)
    · exact K0 r
    · refine am_E.go (t2 := (46, [vR o, vI b, vR (o + 2 + b.toNat), vI p, vI v4, vI v5, vI r], [vR o], aq_h m s F c)) rfl rfl ?_
      refine am_E.go (t2 := (48, [vR o, vI b, vR (o + 2 + b.toNat), vI p, vI v4, vI v5, vI r], [vI v4, vR o], aq_h m s F c)) rfl rfl ?_
      refine am_E.go (t2 := (50, [vR o, vI b, vR (o + 2 + b.toNat), vI p, vI v4, vI v5, vI r], [vI v5, vI v4, vR o], aq_h m s F c)) rfl rfl ?_
      refine am_E.go (t2 := (52, [vR o, vI b, vR (o + 2 + b.toNat), vI p, vI v4, vI v5, vI r], [vI r, vI v5, vI v4, vR o], aq_h m s F c)) rfl rfl ?_
      refine aq_callv (y := 4) (as2 := [vI v4, vI v5, vI r]) (rest := []) rfl rfl (by decide) (Nat.le_of_ble_eq_true rfl) rfl rfl (Nat.le_of_ble_eq_true rfl) (by omega) hFo rfl (Nat.le_of_ble_eq_true rfl) (qn_X0_isBetween ⟨hm, hn1, hn4, hK, hFo, hFd, hFs⟩) ?_
      rintro r5 h5 ⟨rfl, v_2, rfl, hv_2⟩
      show am_E _ (55, [vR o, vI b, vR (o + 2 + b.toNat), vI p, vI v4, vI v5, vI r], [vI v_2], aq_h m s F c) _
      refine ae_if0 rfl (fun (q_3 : v_2 = 0) => ?_) (fun (q_3 : v_2 ≠ 0) => ?_)
      · refine ae_iinc rfl rfl (am_ri (by omega) (by omega)) ?_
        show am_E _ (78, [vR o, vI b, vR (o + 2 + b.toNat), vI p, vI v4, vI v5, vI (r + 1)], [], aq_h m s F c) _
        refine am_E.go (t2 := (36, [vR o, vI b, vR (o + 2 + b.toNat), vI p, vI v4, vI v5, vI (r + 1)], [], aq_h m s F c)) rfl rfl ?_
        exact qn_isPlane_in ⟨hm, hn1, hn4, hK, hFo, hFd, hFs⟩ ⟨hPg, hPr, hPt⟩ hb0 hbK d p v4 v5 (r + 1) (by omega) (by omega) (by omega) K0
      · refine am_E.go (t2 := (59, [vR o, vI b, vR (o + 2 + b.toNat), vI p, vI v4, vI v5, vI r], [vR o], aq_h m s F c)) rfl rfl ?_
        refine am_E.go (t2 := (61, [vR o, vI b, vR (o + 2 + b.toNat), vI p, vI v4, vI v5, vI r], [vI v4, vR o], aq_h m s F c)) rfl rfl ?_
        refine am_E.go (t2 := (63, [vR o, vI b, vR (o + 2 + b.toNat), vI p, vI v4, vI v5, vI r], [vI v5, vI v4, vR o], aq_h m s F c)) rfl rfl ?_
        refine am_E.go (t2 := (64, [vR o, vI b, vR (o + 2 + b.toNat), vI p, vI v4, vI v5, vI r], [vR (o + 2 + b.toNat), vI v5, vI v4, vR o], aq_h m s F c)) rfl rfl ?_
        refine am_E.go (t2 := (66, [vR o, vI b, vR (o + 2 + b.toNat), vI p, vI v4, vI v5, vI r], [vI r, vR (o + 2 + b.toNat), vI v5, vI v4, vR o], aq_h m s F c)) rfl rfl ?_
        refine aq_alt (ok := fun k => k == 0) rfl rfl (by omega) (hPr _ (by omega)) rfl (by omega) (by omega) ?_
        show am_E _ (67, [vR o, vI b, vR (o + 2 + b.toNat), vI p, vI v4, vI v5, vI r], [vI (tP ((b.toNat : Nat) : Int) r), vI v5, vI v4, vR o], aq_h m s F c) _
        refine aq_callv (y := 4) (as2 := [vI v4, vI v5, vI (tP ((b.toNat : Nat) : Int) r)]) (rest := []) rfl rfl (by decide) (Nat.le_of_ble_eq_true rfl) rfl rfl (Nat.le_of_ble_eq_true rfl) (by omega) hFo rfl (Nat.le_of_ble_eq_true rfl) (qn_X0_isBetween ⟨hm, hn1, hn4, hK, hFo, hFd, hFs⟩) ?_
        rintro r5 h5 ⟨rfl, v_4, rfl, hv_4⟩
        show am_E _ (70, [vR o, vI b, vR (o + 2 + b.toNat), vI p, vI v4, vI v5, vI r], [vI v_4], aq_h m s F c) _
        refine ae_if0 rfl (fun (q_5 : v_4 ≠ 0) => ?_) (fun (q_5 : v_4 = 0) => ?_)
        · refine ae_iinc rfl rfl (am_ri (by omega) (by omega)) ?_
          show am_E _ (78, [vR o, vI b, vR (o + 2 + b.toNat), vI p, vI v4, vI v5, vI (r + 1)], [], aq_h m s F c) _
          refine am_E.go (t2 := (36, [vR o, vI b, vR (o + 2 + b.toNat), vI p, vI v4, vI v5, vI (r + 1)], [], aq_h m s F c)) rfl rfl ?_
          exact qn_isPlane_in ⟨hm, hn1, hn4, hK, hFo, hFd, hFs⟩ ⟨hPg, hPr, hPt⟩ hb0 hbK d p v4 v5 (r + 1) (by omega) (by omega) (by omega) K0
        · refine am_E.go (t2 := (74, [vR o, vI b, vR (o + 2 + b.toNat), vI p, vI v4, vI v5, vI r], [vI 0], aq_h m s F c)) rfl rfl ?_
          refine am_E.ret rfl rfl ?_
          exact ⟨rfl, _, rfl, by omega⟩

theorem qn_isPlane_out {m s : Nat} {F : aq_F} {c : aq_C} {o n K : Nat} (hB : bx_0 m F o n K) {tP : Int → Int → Int} (hP : bx_p F o n K tP) {b : Int} (hb0 : 0 ≤ b) (hbK : b < (K : Int)) : ∀ (d : Nat) (p : Int) (v4 : am_V) (v5 : am_V) (v6 : am_V) (h0 : 0 ≤ p) (h1 : p ≤ 2 * (n : Int)) (hd : 2 * (n : Int) - p < (d : Int)), am_E ac_X0_isPlane (9, [vR o, vI b, vR (o + 2 + b.toNat), vI p, v4, v5, v6], [], aq_h m s F c) (aq_P m s F c aq_vb)
  | 0, p, v4, v5, v6, h0, h1, hd => by exfalso; omega
  | d + 1, p, v4, v5, v6, h0, h1, hd => by
    obtain ⟨hm, hn1, hn4, hK, hFo, hFd, hFs⟩ := hB
    obtain ⟨hPg, hPr, hPt⟩ := hP
    refine am_E.go (t2 := (10, [vR o, vI b, vR (o + 2 + b.toNat), vI p, v4, v5, v6], [vI p], aq_h m s F c)) rfl rfl ?_
    refine am_E.go (t2 := (11, [vR o, vI b, vR (o + 2 + b.toNat), vI p, v4, v5, v6], [vR o, vI p], aq_h m s F c)) rfl rfl ?_
    refine aq_gf (v := vI (2 * (n : Int))) rfl (by omega) hFo (by decide) rfl ?_
    show am_E _ (14, [vR o, vI b, vR (o + 2 + b.toNat), vI p, v4, v5, v6], [vI (2 * (n : Int)), vI p], aq_h m s F c) _
    refine ae_icmp rfl (fun (q_1 : (2 * (n : Int)) ≤ p) => ?_) (fun (q_1 : p < (2 * (n : Int))) => ?_)
    · refine am_E.go (t2 := (88, [vR o, vI b, vR (o + 2 + b.toNat), vI p, v4, v5, v6], [vI 1], aq_h m s F c)) rfl rfl ?_
      refine am_E.ret rfl rfl ?_
      exact ⟨rfl, _, rfl, by omega⟩
    · refine am_E.go (t2 := (18, [vR o, vI b, vR (o + 2 + b.toNat), vI p, v4, v5, v6], [vR o], aq_h m s F c)) rfl rfl ?_
      refine am_E.go (t2 := (19, [vR o, vI b, vR (o + 2 + b.toNat), vI p, v4, v5, v6], [vI p, vR o], aq_h m s F c)) rfl rfl ?_
      refine aq_callv (y := 2) (as2 := [vI p]) (rest := []) rfl rfl (by decide) (Nat.le_of_ble_eq_true rfl) rfl rfl (Nat.le_of_ble_eq_true rfl) (by omega) hFo rfl (Nat.le_of_ble_eq_true rfl) (qn_X0_placeRound ⟨hm, hn1, hn4, hK, hFo, hFd, hFs⟩) ?_
      rintro r5 h5 ⟨rfl, v_2, rfl⟩
      show am_E _ (22, [vR o, vI b, vR (o + 2 + b.toNat), vI p, v4, v5, v6], [vI v_2], aq_h m s F c) _
      refine am_E.go (t2 := (24, [vR o, vI b, vR (o + 2 + b.toNat), vI p, vI v_2, v5, v6], [], aq_h m s F c)) rfl rfl ?_
      refine am_E.go (t2 := (25, [vR o, vI b, vR (o + 2 + b.toNat), vI p, vI v_2, v5, v6], [vR o], aq_h m s F c)) rfl rfl ?_
      refine am_E.go (t2 := (26, [vR o, vI b, vR (o + 2 + b.toNat), vI p, vI v_2, v5, v6], [vR (o + 2 + b.toNat), vR o], aq_h m s F c)) rfl rfl ?_
      refine am_E.go (t2 := (27, [vR o, vI b, vR (o + 2 + b.toNat), vI p, vI v_2, v5, v6], [vI p, vR (o + 2 + b.toNat), vR o], aq_h m s F c)) rfl rfl ?_
      refine aq_alt (ok := fun k => k == 0) rfl rfl (by omega) (hPr _ (by omega)) rfl (by omega) (by omega) ?_
      show am_E _ (28, [vR o, vI b, vR (o + 2 + b.toNat), vI p, vI v_2, v5, v6], [vI (tP ((b.toNat : Nat) : Int) p), vR o], aq_h m s F c) _
      refine aq_callv (y := 2) (as2 := [vI (tP ((b.toNat : Nat) : Int) p)]) (rest := []) rfl rfl (by decide) (Nat.le_of_ble_eq_true rfl) rfl rfl (Nat.le_of_ble_eq_true rfl) (by omega) hFo rfl (Nat.le_of_ble_eq_true rfl) (qn_X0_placeRound ⟨hm, hn1, hn4, hK, hFo, hFd, hFs⟩) ?_
      rintro r5 h5 ⟨rfl, v_3, rfl⟩
      show am_E _ (31, [vR o, vI b, vR (o + 2 + b.toNat), vI p, vI v_2, v5, v6], [vI v_3], aq_h m s F c) _
      refine am_E.go (t2 := (33, [vR o, vI b, vR (o + 2 + b.toNat), vI p, vI v_2, vI v_3, v6], [], aq_h m s F c)) rfl rfl ?_
      refine am_E.go (t2 := (34, [vR o, vI b, vR (o + 2 + b.toNat), vI p, vI v_2, vI v_3, v6], [vI 0], aq_h m s F c)) rfl rfl ?_
      refine am_E.go (t2 := (36, [vR o, vI b, vR (o + 2 + b.toNat), vI p, vI v_2, vI v_3, vI 0], [], aq_h m s F c)) rfl rfl ?_
      refine qn_isPlane_in ⟨hm, hn1, hn4, hK, hFo, hFd, hFs⟩ ⟨hPg, hPr, hPt⟩ hb0 hbK 9 p v_2 v_3 0 (by omega) (by omega) (by omega) ?_
      · intro v6_4
        refine ae_iinc rfl rfl (am_ri (by omega) (by omega)) ?_
        show am_E _ (84, [vR o, vI b, vR (o + 2 + b.toNat), vI (p + 1), vI v_2, vI v_3, vI v6_4], [], aq_h m s F c) _
        refine am_E.go (t2 := (9, [vR o, vI b, vR (o + 2 + b.toNat), vI (p + 1), vI v_2, vI v_3, vI v6_4], [], aq_h m s F c)) rfl rfl ?_
        exact qn_isPlane_out ⟨hm, hn1, hn4, hK, hFo, hFd, hFs⟩ ⟨hPg, hPr, hPt⟩ hb0 hbK d (p + 1) (vI v_2) (vI v_3) (vI v6_4) (by omega) (by omega) (by omega)

theorem qn_X0_isPlane {m s : Nat} {F : aq_F} {c : aq_C} {o n K : Nat} (hB : bx_0 m F o n K) {tP : Int → Int → Int} (hP : bx_p F o n K tP) {b : Int} (hb0 : 0 ≤ b) (hbK : b < (K : Int)) : am_E ac_X0_isPlane (0, [vR o, vI b, vU, vU, vU, vU, vU], [], aq_h m s F c) (aq_P m s F c aq_vb) := by
  obtain ⟨hm, hn1, hn4, hK, hFo, hFd, hFs⟩ := hB
  obtain ⟨hPg, hPr, hPt⟩ := hP
  refine am_E.go (t2 := (1, [vR o, vI b, vU, vU, vU, vU, vU], [vR o], aq_h m s F c)) rfl rfl ?_
  refine aq_gf (v := vR (o + 1)) rfl (by omega) hFo (by decide) rfl ?_
  show am_E _ (4, [vR o, vI b, vU, vU, vU, vU, vU], [vR (o + 1)], aq_h m s F c) _
  refine am_E.go (t2 := (5, [vR o, vI b, vU, vU, vU, vU, vU], [vI b, vR (o + 1)], aq_h m s F c)) rfl rfl ?_
  refine aq_al (ok := fun k => decide (3 ≤ k) && decide (k < 7)) (v := vR (o + 2 + b.toNat)) rfl rfl (by omega) hPg rfl (by omega) (by omega) rfl ?_
  show am_E _ (6, [vR o, vI b, vU, vU, vU, vU, vU], [vR (o + 2 + b.toNat)], aq_h m s F c) _
  refine am_E.go (t2 := (7, [vR o, vI b, vR (o + 2 + b.toNat), vU, vU, vU, vU], [], aq_h m s F c)) rfl rfl ?_
  refine am_E.go (t2 := (8, [vR o, vI b, vR (o + 2 + b.toNat), vU, vU, vU, vU], [vI 0], aq_h m s F c)) rfl rfl ?_
  refine am_E.go (t2 := (9, [vR o, vI b, vR (o + 2 + b.toNat), vI 0, vU, vU, vU], [], aq_h m s F c)) rfl rfl ?_
  exact qn_isPlane_out ⟨hm, hn1, hn4, hK, hFo, hFd, hFs⟩ ⟨hPg, hPr, hPt⟩ hb0 hbK 9 0 (vU) (vU) (vU) (by omega) (by omega) (by omega)
