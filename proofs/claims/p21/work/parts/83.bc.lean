/-! Boxes: methods of its constructor. Printed by wip/p20/sx/gBC.py. -/

theorem qb_close_i {m s : Nat} {F : aq_F} {c0 : aq_C} {S : Nat → Prop} {o n K : Nat} (hB : bx_0 m F o n K) (hSs : S (o + 7 + 3 * K)) {tP : Int → Int → Int} (hP : bx_p F o n K tP) {x : Int} (hx0 : 0 ≤ x) (hxK : x < (K : Int)) : ∀ (d : Nat) (f : Int) (p : Int) (a : Int) (k : Int) (c : aq_C) (hs : aq_sm S c0 c) (h0 : 0 ≤ a) (h1 : a < 2 * (n : Int)) (h2 : 0 ≤ k) (h3 : k ≤ 2 * (n : Int)) (hd : 2 * (n : Int) - k < (d : Int)) (K0 : ∀ (a2 : Int) (k2 : Int) (c2 : aq_C) (hs2 : aq_sm S c0 c2), am_E ac_X0_closeRings (89, [vR o, vR (o + 2 + x.toNat), vI f, vI p, vI a2, vI k2], [], aq_h m s F c2) (aq_Z m s F S c0 (fun r _ => ∃ v, r = some (vI v) ∧ 0 ≤ v ∧ v ≤ 8))), am_E ac_X0_closeRings (34, [vR o, vR (o + 2 + x.toNat), vI f, vI p, vI a, vI k], [], aq_h m s F c) (aq_Z m s F S c0 (fun r _ => ∃ v, r = some (vI v) ∧ 0 ≤ v ∧ v ≤ 8))
  | 0, f, p, a, k, c, hs, h0, h1, h2, h3, hd, K0 => by exfalso; omega
  | d + 1, f, p, a, k, c, hs, h0, h1, h2, h3, hd, K0 => by
    obtain ⟨hm, hn1, hn4, hK, hFo, hFd, hFs⟩ := hB
    obtain ⟨hPg, hPr, hPt⟩ := hP
    refine am_E.go (t2 := (36, [vR o, vR (o + 2 + x.toNat), vI f, vI p, vI a, vI k], [vI k], aq_h m s F c)) rfl rfl ?_
    refine am_E.go (t2 := (37, [vR o, vR (o + 2 + x.toNat), vI f, vI p, vI a, vI k], [vR o, vI k], aq_h m s F c)) rfl rfl ?_
    refine aq_gf (v := vI (2 * (n : Int))) rfl (by omega) hFo (by decide) rfl ?_
    show am_E _ (40, [vR o, vR (o + 2 + x.toNat), vI f, vI p, vI a, vI k], [vI (2 * (n : Int)), vI k], aq_h m s F c) _
    refine ae_icmp rfl (fun (q_1 : (2 * (n : Int)) ≤ k) => ?_) (fun (q_1 : k < (2 * (n : Int))) => ?_)
    · exact K0 a k c hs
    · refine am_E.go (t2 := (44, [vR o, vR (o + 2 + x.toNat), vI f, vI p, vI a, vI k], [vR o], aq_h m s F c)) rfl rfl ?_
      refine aq_gf (v := vR (o + 7 + 3 * K)) rfl (by omega) hFo (by decide) rfl ?_
      show am_E _ (47, [vR o, vR (o + 2 + x.toNat), vI f, vI p, vI a, vI k], [vR (o + 7 + 3 * K)], aq_h m s F c) _
      refine am_E.go (t2 := (49, [vR o, vR (o + 2 + x.toNat), vI f, vI p, vI a, vI k], [vI a, vR (o + 7 + 3 * K)], aq_h m s F c)) rfl rfl ?_
      refine aq_al (ok := fun k => k == 1) (v := vI (c (o + 7 + 3 * K) a)) rfl rfl (by omega) hFs rfl (by omega) (by omega) rfl ?_
      show am_E _ (50, [vR o, vR (o + 2 + x.toNat), vI f, vI p, vI a, vI k], [vI (c (o + 7 + 3 * K) a)], aq_h m s F c) _
      refine ae_if0 rfl (fun (q_2 : (c (o + 7 + 3 * K) a) ≠ 0) => ?_) (fun (q_2 : (c (o + 7 + 3 * K) a) = 0) => ?_)
      · exact K0 a k c hs
      · refine am_E.go (t2 := (54, [vR o, vR (o + 2 + x.toNat), vI f, vI p, vI a, vI k], [vR o], aq_h m s F c)) rfl rfl ?_
        refine aq_gf (v := vR (o + 7 + 3 * K)) rfl (by omega) hFo (by decide) rfl ?_
        show am_E _ (57, [vR o, vR (o + 2 + x.toNat), vI f, vI p, vI a, vI k], [vR (o + 7 + 3 * K)], aq_h m s F c) _
        refine am_E.go (t2 := (59, [vR o, vR (o + 2 + x.toNat), vI f, vI p, vI a, vI k], [vI a, vR (o + 7 + 3 * K)], aq_h m s F c)) rfl rfl ?_
        refine am_E.go (t2 := (60, [vR o, vR (o + 2 + x.toNat), vI f, vI p, vI a, vI k], [vI 1, vI a, vR (o + 7 + 3 * K)], aq_h m s F c)) rfl rfl ?_
        refine aq_as (kd := 1) rfl rfl (by omega) hFs (by omega) (by omega) rfl rfl ?_
        show am_E _ (61, [vR o, vR (o + 2 + x.toNat), vI f, vI p, vI a, vI k], [], aq_h m s F (aq_u c (o + 7 + 3 * K) a 1)) _
        generalize hdc_3 : aq_u c (o + 7 + 3 * K) a 1 = c_3
        have sc_3 := aq_smu hs hdc_3 hSs
        refine am_E.go (t2 := (62, [vR o, vR (o + 2 + x.toNat), vI f, vI p, vI a, vI k], [vR (o + 2 + x.toNat)], aq_h m s F c_3)) rfl rfl ?_
        refine am_E.go (t2 := (64, [vR o, vR (o + 2 + x.toNat), vI f, vI p, vI a, vI k], [vI a, vR (o + 2 + x.toNat)], aq_h m s F c_3)) rfl rfl ?_
        refine aq_alt (ok := fun k => k == 0) rfl rfl (by omega) (hPr _ (by omega)) rfl (by omega) (by omega) ?_
        show am_E _ (65, [vR o, vR (o + 2 + x.toNat), vI f, vI p, vI a, vI k], [vI (tP ((x.toNat : Nat) : Int) a)], aq_h m s F c_3) _
        have f_4 := hPt ((x.toNat : Nat) : Int) a (by omega) (by omega) (by omega) (by omega)
        refine am_E.go (t2 := (67, [vR o, vR (o + 2 + x.toNat), vI f, vI p, vI (tP ((x.toNat : Nat) : Int) a), vI k], [], aq_h m s F c_3)) rfl rfl ?_
        refine am_E.go (t2 := (68, [vR o, vR (o + 2 + x.toNat), vI f, vI p, vI (tP ((x.toNat : Nat) : Int) a), vI k], [vR o], aq_h m s F c_3)) rfl rfl ?_
        refine aq_gf (v := vR (o + 7 + 3 * K)) rfl (by omega) hFo (by decide) rfl ?_
        show am_E _ (71, [vR o, vR (o + 2 + x.toNat), vI f, vI p, vI (tP ((x.toNat : Nat) : Int) a), vI k], [vR (o + 7 + 3 * K)], aq_h m s F c_3) _
        refine am_E.go (t2 := (73, [vR o, vR (o + 2 + x.toNat), vI f, vI p, vI (tP ((x.toNat : Nat) : Int) a), vI k], [vI (tP ((x.toNat : Nat) : Int) a), vR (o + 7 + 3 * K)], aq_h m s F c_3)) rfl rfl ?_
        refine am_E.go (t2 := (74, [vR o, vR (o + 2 + x.toNat), vI f, vI p, vI (tP ((x.toNat : Nat) : Int) a), vI k], [vI 1, vI (tP ((x.toNat : Nat) : Int) a), vR (o + 7 + 3 * K)], aq_h m s F c_3)) rfl rfl ?_
        refine aq_as (kd := 1) rfl rfl (by omega) hFs (by omega) (by omega) rfl rfl ?_
        show am_E _ (75, [vR o, vR (o + 2 + x.toNat), vI f, vI p, vI (tP ((x.toNat : Nat) : Int) a), vI k], [], aq_h m s F (aq_u c_3 (o + 7 + 3 * K) (tP ((x.toNat : Nat) : Int) a) 1)) _
        generalize hdc_5 : aq_u c_3 (o + 7 + 3 * K) (tP ((x.toNat : Nat) : Int) a) 1 = c_5
        have sc_5 := aq_smu sc_3 hdc_5 hSs
        refine am_E.go (t2 := (76, [vR o, vR (o + 2 + x.toNat), vI f, vI p, vI (tP ((x.toNat : Nat) : Int) a), vI k], [vR o], aq_h m s F c_5)) rfl rfl ?_
        refine am_E.go (t2 := (78, [vR o, vR (o + 2 + x.toNat), vI f, vI p, vI (tP ((x.toNat : Nat) : Int) a), vI k], [vI (tP ((x.toNat : Nat) : Int) a), vR o], aq_h m s F c_5)) rfl rfl ?_
        refine aq_callv (y := 2) (as2 := [vI (tP ((x.toNat : Nat) : Int) a)]) (rest := []) rfl rfl (by decide) (Nat.le_of_ble_eq_true rfl) rfl rfl (Nat.le_of_ble_eq_true rfl) (by omega) hFo rfl (Nat.le_of_ble_eq_true rfl) (qn_X0_across ⟨hm, hn1, hn4, hK, hFo, hFd, hFs⟩ (by omega) (by omega)) ?_
        rintro r5 h5 ⟨rfl, v_6, rfl, hv_6⟩
        show am_E _ (81, [vR o, vR (o + 2 + x.toNat), vI f, vI p, vI (tP ((x.toNat : Nat) : Int) a), vI k], [vI v_6], aq_h m s F c_5) _
        refine am_E.go (t2 := (83, [vR o, vR (o + 2 + x.toNat), vI f, vI p, vI v_6, vI k], [], aq_h m s F c_5)) rfl rfl ?_
        refine ae_iinc rfl rfl (am_ri (by omega) (by omega)) ?_
        show am_E _ (86, [vR o, vR (o + 2 + x.toNat), vI f, vI p, vI v_6, vI (k + 1)], [], aq_h m s F c_5) _
        refine am_E.go (t2 := (34, [vR o, vR (o + 2 + x.toNat), vI f, vI p, vI v_6, vI (k + 1)], [], aq_h m s F c_5)) rfl rfl ?_
        exact qb_close_i ⟨hm, hn1, hn4, hK, hFo, hFd, hFs⟩ hSs ⟨hPg, hPr, hPt⟩ hx0 hxK d f p v_6 (k + 1) c_5 sc_5 (by omega) (by omega) (by omega) (by omega) (by omega) K0

theorem qb_close_o {m s : Nat} {F : aq_F} {c0 : aq_C} {S : Nat → Prop} {o n K : Nat} (hB : bx_0 m F o n K) (hSs : S (o + 7 + 3 * K)) {tP : Int → Int → Int} (hP : bx_p F o n K tP) {x : Int} (hx0 : 0 ≤ x) (hxK : x < (K : Int)) : ∀ (d : Nat) (f : Int) (p : Int) (v4 : am_V) (v5 : am_V) (c : aq_C) (hs : aq_sm S c0 c) (h0 : 0 ≤ p) (h1 : p ≤ 2 * (n : Int)) (h2 : 0 ≤ f) (h3 : f ≤ p) (hd : 2 * (n : Int) - p < (d : Int)), am_E ac_X0_closeRings (8, [vR o, vR (o + 2 + x.toNat), vI f, vI p, v4, v5], [], aq_h m s F c) (aq_Z m s F S c0 (fun r _ => ∃ v, r = some (vI v) ∧ 0 ≤ v ∧ v ≤ 8))
  | 0, f, p, v4, v5, c, hs, h0, h1, h2, h3, hd => by exfalso; omega
  | d + 1, f, p, v4, v5, c, hs, h0, h1, h2, h3, hd => by
    obtain ⟨hm, hn1, hn4, hK, hFo, hFd, hFs⟩ := hB
    obtain ⟨hPg, hPr, hPt⟩ := hP
    refine am_E.go (t2 := (9, [vR o, vR (o + 2 + x.toNat), vI f, vI p, v4, v5], [vI p], aq_h m s F c)) rfl rfl ?_
    refine am_E.go (t2 := (10, [vR o, vR (o + 2 + x.toNat), vI f, vI p, v4, v5], [vR o, vI p], aq_h m s F c)) rfl rfl ?_
    refine aq_gf (v := vI (2 * (n : Int))) rfl (by omega) hFo (by decide) rfl ?_
    show am_E _ (13, [vR o, vR (o + 2 + x.toNat), vI f, vI p, v4, v5], [vI (2 * (n : Int)), vI p], aq_h m s F c) _
    refine ae_icmp rfl (fun (q_1 : (2 * (n : Int)) ≤ p) => ?_) (fun (q_1 : p < (2 * (n : Int))) => ?_)
    · refine am_E.go (t2 := (96, [vR o, vR (o + 2 + x.toNat), vI f, vI p, v4, v5], [vI f], aq_h m s F c)) rfl rfl ?_
      refine am_E.ret rfl rfl ?_
      exact ⟨_, rfl, hs, _, rfl, by omega, by omega⟩
    · refine am_E.go (t2 := (17, [vR o, vR (o + 2 + x.toNat), vI f, vI p, v4, v5], [vR o], aq_h m s F c)) rfl rfl ?_
      refine aq_gf (v := vR (o + 7 + 3 * K)) rfl (by omega) hFo (by decide) rfl ?_
      show am_E _ (20, [vR o, vR (o + 2 + x.toNat), vI f, vI p, v4, v5], [vR (o + 7 + 3 * K)], aq_h m s F c) _
      refine am_E.go (t2 := (21, [vR o, vR (o + 2 + x.toNat), vI f, vI p, v4, v5], [vI p, vR (o + 7 + 3 * K)], aq_h m s F c)) rfl rfl ?_
      refine aq_al (ok := fun k => k == 1) (v := vI (c (o + 7 + 3 * K) p)) rfl rfl (by omega) hFs rfl (by omega) (by omega) rfl ?_
      show am_E _ (22, [vR o, vR (o + 2 + x.toNat), vI f, vI p, v4, v5], [vI (c (o + 7 + 3 * K) p)], aq_h m s F c) _
      refine ae_if0 rfl (fun (q_2 : (c (o + 7 + 3 * K) p) ≠ 0) => ?_) (fun (q_2 : (c (o + 7 + 3 * K) p) = 0) => ?_)
      · refine ae_iinc rfl rfl (am_ri (by omega) (by omega)) ?_
        show am_E _ (92, [vR o, vR (o + 2 + x.toNat), vI f, vI (p + 1), v4, v5], [], aq_h m s F c) _
        refine am_E.go (t2 := (8, [vR o, vR (o + 2 + x.toNat), vI f, vI (p + 1), v4, v5], [], aq_h m s F c)) rfl rfl ?_
        exact qb_close_o ⟨hm, hn1, hn4, hK, hFo, hFd, hFs⟩ hSs ⟨hPg, hPr, hPt⟩ hx0 hxK d f (p + 1) (v4) (v5) c hs (by omega) (by omega) (by omega) (by omega) (by omega)
      · refine ae_iinc rfl rfl (am_ri (by omega) (by omega)) ?_
        show am_E _ (28, [vR o, vR (o + 2 + x.toNat), vI (f + 1), vI p, v4, v5], [], aq_h m s F c) _
        refine am_E.go (t2 := (29, [vR o, vR (o + 2 + x.toNat), vI (f + 1), vI p, v4, v5], [vI p], aq_h m s F c)) rfl rfl ?_
        refine am_E.go (t2 := (31, [vR o, vR (o + 2 + x.toNat), vI (f + 1), vI p, vI p, v5], [], aq_h m s F c)) rfl rfl ?_
        refine am_E.go (t2 := (32, [vR o, vR (o + 2 + x.toNat), vI (f + 1), vI p, vI p, v5], [vI 0], aq_h m s F c)) rfl rfl ?_
        refine am_E.go (t2 := (34, [vR o, vR (o + 2 + x.toNat), vI (f + 1), vI p, vI p, vI 0], [], aq_h m s F c)) rfl rfl ?_
        refine qb_close_i ⟨hm, hn1, hn4, hK, hFo, hFd, hFs⟩ hSs ⟨hPg, hPr, hPt⟩ hx0 hxK 9 (f + 1) p p 0 c hs (by omega) (by omega) (by omega) (by omega) (by omega) ?_
        · intro a2_34 k2_34 c_3 sc_3
          refine ae_iinc rfl rfl (am_ri (by omega) (by omega)) ?_
          show am_E _ (92, [vR o, vR (o + 2 + x.toNat), vI (f + 1), vI (p + 1), vI a2_34, vI k2_34], [], aq_h m s F c_3) _
          refine am_E.go (t2 := (8, [vR o, vR (o + 2 + x.toNat), vI (f + 1), vI (p + 1), vI a2_34, vI k2_34], [], aq_h m s F c_3)) rfl rfl ?_
          exact qb_close_o ⟨hm, hn1, hn4, hK, hFo, hFd, hFs⟩ hSs ⟨hPg, hPr, hPt⟩ hx0 hxK d (f + 1) (p + 1) (vI a2_34) (vI k2_34) c_3 sc_3 (by omega) (by omega) (by omega) (by omega) (by omega)

theorem qb_closeRings {m s : Nat} {F : aq_F} {c : aq_C} {S : Nat → Prop} {o n K : Nat} (hB : bx_0 m F o n K) (hSs : S (o + 7 + 3 * K)) {tP : Int → Int → Int} (hP : bx_p F o n K tP) {x : Int} (hx0 : 0 ≤ x) (hxK : x < (K : Int)) : am_E ac_X0_closeRings (0, [vR o, vR (o + 2 + x.toNat), vU, vU, vU, vU], [], aq_h m s F c) (aq_Z m s F S c (fun r _ => ∃ v, r = some (vI v) ∧ 0 ≤ v ∧ v ≤ 8)) := by
  obtain ⟨hm, hn1, hn4, hK, hFo, hFd, hFs⟩ := hB
  obtain ⟨hPg, hPr, hPt⟩ := hP
  refine am_E.go (t2 := (1, [vR o, vR (o + 2 + x.toNat), vU, vU, vU, vU], [vR o], aq_h m s F c)) rfl rfl ?_
  refine aq_callv (y := 1) (as2 := []) (rest := []) rfl rfl (by decide) (Nat.le_of_ble_eq_true rfl) rfl rfl (Nat.le_of_ble_eq_true rfl) (by omega) hFo rfl (Nat.le_of_ble_eq_true rfl) (qn_X0_forgetSeen ⟨hm, hn1, hn4, hK, hFo, hFd, hFs⟩) ?_
  rintro r5 h5 ⟨c_1, rfl, sc_1, rfl, hzc_1⟩
  show am_E _ (4, [vR o, vR (o + 2 + x.toNat), vU, vU, vU, vU], [], aq_h m s F c_1) _
  refine am_E.go (t2 := (5, [vR o, vR (o + 2 + x.toNat), vU, vU, vU, vU], [vI 0], aq_h m s F c_1)) rfl rfl ?_
  refine am_E.go (t2 := (6, [vR o, vR (o + 2 + x.toNat), vI 0, vU, vU, vU], [], aq_h m s F c_1)) rfl rfl ?_
  refine am_E.go (t2 := (7, [vR o, vR (o + 2 + x.toNat), vI 0, vU, vU, vU], [vI 0], aq_h m s F c_1)) rfl rfl ?_
  refine am_E.go (t2 := (8, [vR o, vR (o + 2 + x.toNat), vI 0, vI 0, vU, vU], [], aq_h m s F c_1)) rfl rfl ?_
  exact qb_close_o ⟨hm, hn1, hn4, hK, hFo, hFd, hFs⟩ hSs ⟨hPg, hPr, hPt⟩ hx0 hxK 9 0 0 (vU) (vU) c_1 (aq_smt aq_sm0 (aq_smi sc_1 (fun a h => by rw [h]; exact hSs))) (by omega) (by omega) (by omega) (by omega) (by omega)

theorem qb_inner_i {m s : Nat} {F : aq_F} {c0 : aq_C} {S : Nat → Prop} {o n K : Nat} (hB : bx_0 m F o n K) (hSs : S (o + 7 + 3 * K)) {tP : Int → Int → Int} (hP : bx_p F o n K tP) {x : Int} (hx0 : 0 ≤ x) (hxK : x < (K : Int)) {y : Int} (hy0 : 0 ≤ y) (hyK : y < (K : Int)) : ∀ (d : Nat) (f : Int) (m2 : Int) (a : Int) (k : Int) (c : aq_C) (hs : aq_sm S c0 c) (h0 : 0 ≤ a) (h1 : a < 2 * (n : Int)) (h2 : 0 ≤ k) (h3 : k ≤ (n : Int)) (hd : (n : Int) - k < (d : Int)) (K0 : ∀ (a2 : Int) (k2 : Int) (c2 : aq_C) (hs2 : aq_sm S c0 c2), am_E ac_X0_countInnerRings (95, [vR o, vR (o + 2 + x.toNat), vR (o + 2 + y.toNat), vI f, vI m2, vI a2, vI k2], [], aq_h m s F c2) (aq_Z m s F S c0 (fun r _ => ∃ v, r = some (vI v) ∧ 0 ≤ v ∧ v ≤ (n : Int)))), am_E ac_X0_countInnerRings (34, [vR o, vR (o + 2 + x.toNat), vR (o + 2 + y.toNat), vI f, vI m2, vI a, vI k], [], aq_h m s F c) (aq_Z m s F S c0 (fun r _ => ∃ v, r = some (vI v) ∧ 0 ≤ v ∧ v ≤ (n : Int)))
  | 0, f, m2, a, k, c, hs, h0, h1, h2, h3, hd, K0 => by exfalso; omega
  | d + 1, f, m2, a, k, c, hs, h0, h1, h2, h3, hd, K0 => by
    obtain ⟨hm, hn1, hn4, hK, hFo, hFd, hFs⟩ := hB
    obtain ⟨hPg, hPr, hPt⟩ := hP
    refine am_E.go (t2 := (36, [vR o, vR (o + 2 + x.toNat), vR (o + 2 + y.toNat), vI f, vI m2, vI a, vI k], [vI k], aq_h m s F c)) rfl rfl ?_
    refine am_E.go (t2 := (37, [vR o, vR (o + 2 + x.toNat), vR (o + 2 + y.toNat), vI f, vI m2, vI a, vI k], [vR o, vI k], aq_h m s F c)) rfl rfl ?_
    refine aq_gf (v := vI (n : Int)) rfl (by omega) hFo (by decide) rfl ?_
    show am_E _ (40, [vR o, vR (o + 2 + x.toNat), vR (o + 2 + y.toNat), vI f, vI m2, vI a, vI k], [vI (n : Int), vI k], aq_h m s F c) _
    refine ae_icmp rfl (fun (q_1 : (n : Int) ≤ k) => ?_) (fun (q_1 : k < (n : Int)) => ?_)
    · exact K0 a k c hs
    · refine am_E.go (t2 := (44, [vR o, vR (o + 2 + x.toNat), vR (o + 2 + y.toNat), vI f, vI m2, vI a, vI k], [vR o], aq_h m s F c)) rfl rfl ?_
      refine aq_gf (v := vR (o + 7 + 3 * K)) rfl (by omega) hFo (by decide) rfl ?_
      show am_E _ (47, [vR o, vR (o + 2 + x.toNat), vR (o + 2 + y.toNat), vI f, vI m2, vI a, vI k], [vR (o + 7 + 3 * K)], aq_h m s F c) _
      refine am_E.go (t2 := (49, [vR o, vR (o + 2 + x.toNat), vR (o + 2 + y.toNat), vI f, vI m2, vI a, vI k], [vI a, vR (o + 7 + 3 * K)], aq_h m s F c)) rfl rfl ?_
      refine aq_al (ok := fun k => k == 1) (v := vI (c (o + 7 + 3 * K) a)) rfl rfl (by omega) hFs rfl (by omega) (by omega) rfl ?_
      show am_E _ (50, [vR o, vR (o + 2 + x.toNat), vR (o + 2 + y.toNat), vI f, vI m2, vI a, vI k], [vI (c (o + 7 + 3 * K) a)], aq_h m s F c) _
      refine ae_if0 rfl (fun (q_2 : (c (o + 7 + 3 * K) a) ≠ 0) => ?_) (fun (q_2 : (c (o + 7 + 3 * K) a) = 0) => ?_)
      · exact K0 a k c hs
      · refine am_E.go (t2 := (54, [vR o, vR (o + 2 + x.toNat), vR (o + 2 + y.toNat), vI f, vI m2, vI a, vI k], [vR o], aq_h m s F c)) rfl rfl ?_
        refine aq_gf (v := vR (o + 7 + 3 * K)) rfl (by omega) hFo (by decide) rfl ?_
        show am_E _ (57, [vR o, vR (o + 2 + x.toNat), vR (o + 2 + y.toNat), vI f, vI m2, vI a, vI k], [vR (o + 7 + 3 * K)], aq_h m s F c) _
        refine am_E.go (t2 := (59, [vR o, vR (o + 2 + x.toNat), vR (o + 2 + y.toNat), vI f, vI m2, vI a, vI k], [vI a, vR (o + 7 + 3 * K)], aq_h m s F c)) rfl rfl ?_
        refine am_E.go (t2 := (60, [vR o, vR (o + 2 + x.toNat), vR (o + 2 + y.toNat), vI f, vI m2, vI a, vI k], [vI 1, vI a, vR (o + 7 + 3 * K)], aq_h m s F c)) rfl rfl ?_
        refine aq_as (kd := 1) rfl rfl (by omega) hFs (by omega) (by omega) rfl rfl ?_
        show am_E _ (61, [vR o, vR (o + 2 + x.toNat), vR (o + 2 + y.toNat), vI f, vI m2, vI a, vI k], [], aq_h m s F (aq_u c (o + 7 + 3 * K) a 1)) _
        generalize hdc_3 : aq_u c (o + 7 + 3 * K) a 1 = c_3
        have sc_3 := aq_smu hs hdc_3 hSs
        refine am_E.go (t2 := (62, [vR o, vR (o + 2 + x.toNat), vR (o + 2 + y.toNat), vI f, vI m2, vI a, vI k], [vR o], aq_h m s F c_3)) rfl rfl ?_
        refine am_E.go (t2 := (63, [vR o, vR (o + 2 + x.toNat), vR (o + 2 + y.toNat), vI f, vI m2, vI a, vI k], [vR (o + 2 + x.toNat), vR o], aq_h m s F c_3)) rfl rfl ?_
        refine am_E.go (t2 := (64, [vR o, vR (o + 2 + x.toNat), vR (o + 2 + y.toNat), vI f, vI m2, vI a, vI k], [vR o, vR (o + 2 + x.toNat), vR o], aq_h m s F c_3)) rfl rfl ?_
        refine am_E.go (t2 := (66, [vR o, vR (o + 2 + x.toNat), vR (o + 2 + y.toNat), vI f, vI m2, vI a, vI k], [vI a, vR o, vR (o + 2 + x.toNat), vR o], aq_h m s F c_3)) rfl rfl ?_
        refine aq_callv (y := 2) (as2 := [vI a]) (rest := [vR (o + 2 + x.toNat), vR o]) rfl rfl (by decide) (Nat.le_of_ble_eq_true rfl) rfl rfl (Nat.le_of_ble_eq_true rfl) (by omega) hFo rfl (Nat.le_of_ble_eq_true rfl) (qn_X0_across ⟨hm, hn1, hn4, hK, hFo, hFd, hFs⟩ (by omega) (by omega)) ?_
        rintro r5 h5 ⟨rfl, v_4, rfl, hv_4⟩
        show am_E _ (69, [vR o, vR (o + 2 + x.toNat), vR (o + 2 + y.toNat), vI f, vI m2, vI a, vI k], [vI v_4, vR (o + 2 + x.toNat), vR o], aq_h m s F c_3) _
        refine aq_alt (ok := fun k => k == 0) rfl rfl (by omega) (hPr _ (by omega)) rfl (by omega) (by omega) ?_
        show am_E _ (70, [vR o, vR (o + 2 + x.toNat), vR (o + 2 + y.toNat), vI f, vI m2, vI a, vI k], [vI (tP ((x.toNat : Nat) : Int) v_4), vR o], aq_h m s F c_3) _
        have f_5 := hPt ((x.toNat : Nat) : Int) v_4 (by omega) (by omega) (by omega) (by omega)
        refine aq_callv (y := 2) (as2 := [vI (tP ((x.toNat : Nat) : Int) v_4)]) (rest := []) rfl rfl (by decide) (Nat.le_of_ble_eq_true rfl) rfl rfl (Nat.le_of_ble_eq_true rfl) (by omega) hFo rfl (Nat.le_of_ble_eq_true rfl) (qn_X0_across ⟨hm, hn1, hn4, hK, hFo, hFd, hFs⟩ (by omega) (by omega)) ?_
        rintro r5 h5 ⟨rfl, v_6, rfl, hv_6⟩
        show am_E _ (73, [vR o, vR (o + 2 + x.toNat), vR (o + 2 + y.toNat), vI f, vI m2, vI a, vI k], [vI v_6], aq_h m s F c_3) _
        refine am_E.go (t2 := (75, [vR o, vR (o + 2 + x.toNat), vR (o + 2 + y.toNat), vI f, vI m2, vI v_6, vI k], [], aq_h m s F c_3)) rfl rfl ?_
        refine am_E.go (t2 := (76, [vR o, vR (o + 2 + x.toNat), vR (o + 2 + y.toNat), vI f, vI m2, vI v_6, vI k], [vR o], aq_h m s F c_3)) rfl rfl ?_
        refine aq_gf (v := vR (o + 7 + 3 * K)) rfl (by omega) hFo (by decide) rfl ?_
        show am_E _ (79, [vR o, vR (o + 2 + x.toNat), vR (o + 2 + y.toNat), vI f, vI m2, vI v_6, vI k], [vR (o + 7 + 3 * K)], aq_h m s F c_3) _
        refine am_E.go (t2 := (81, [vR o, vR (o + 2 + x.toNat), vR (o + 2 + y.toNat), vI f, vI m2, vI v_6, vI k], [vI v_6, vR (o + 7 + 3 * K)], aq_h m s F c_3)) rfl rfl ?_
        refine am_E.go (t2 := (82, [vR o, vR (o + 2 + x.toNat), vR (o + 2 + y.toNat), vI f, vI m2, vI v_6, vI k], [vI 1, vI v_6, vR (o + 7 + 3 * K)], aq_h m s F c_3)) rfl rfl ?_
        refine aq_as (kd := 1) rfl rfl (by omega) hFs (by omega) (by omega) rfl rfl ?_
        show am_E _ (83, [vR o, vR (o + 2 + x.toNat), vR (o + 2 + y.toNat), vI f, vI m2, vI v_6, vI k], [], aq_h m s F (aq_u c_3 (o + 7 + 3 * K) v_6 1)) _
        generalize hdc_7 : aq_u c_3 (o + 7 + 3 * K) v_6 1 = c_7
        have sc_7 := aq_smu sc_3 hdc_7 hSs
        refine am_E.go (t2 := (84, [vR o, vR (o + 2 + x.toNat), vR (o + 2 + y.toNat), vI f, vI m2, vI v_6, vI k], [vR (o + 2 + y.toNat)], aq_h m s F c_7)) rfl rfl ?_
        refine am_E.go (t2 := (86, [vR o, vR (o + 2 + x.toNat), vR (o + 2 + y.toNat), vI f, vI m2, vI v_6, vI k], [vI v_6, vR (o + 2 + y.toNat)], aq_h m s F c_7)) rfl rfl ?_
        refine aq_alt (ok := fun k => k == 0) rfl rfl (by omega) (hPr _ (by omega)) rfl (by omega) (by omega) ?_
        show am_E _ (87, [vR o, vR (o + 2 + x.toNat), vR (o + 2 + y.toNat), vI f, vI m2, vI v_6, vI k], [vI (tP ((y.toNat : Nat) : Int) v_6)], aq_h m s F c_7) _
        have f_8 := hPt ((y.toNat : Nat) : Int) v_6 (by omega) (by omega) (by omega) (by omega)
        refine am_E.go (t2 := (89, [vR o, vR (o + 2 + x.toNat), vR (o + 2 + y.toNat), vI f, vI m2, vI (tP ((y.toNat : Nat) : Int) v_6), vI k], [], aq_h m s F c_7)) rfl rfl ?_
        refine ae_iinc rfl rfl (am_ri (by omega) (by omega)) ?_
        show am_E _ (92, [vR o, vR (o + 2 + x.toNat), vR (o + 2 + y.toNat), vI f, vI m2, vI (tP ((y.toNat : Nat) : Int) v_6), vI (k + 1)], [], aq_h m s F c_7) _
        refine am_E.go (t2 := (34, [vR o, vR (o + 2 + x.toNat), vR (o + 2 + y.toNat), vI f, vI m2, vI (tP ((y.toNat : Nat) : Int) v_6), vI (k + 1)], [], aq_h m s F c_7)) rfl rfl ?_
        exact qb_inner_i ⟨hm, hn1, hn4, hK, hFo, hFd, hFs⟩ hSs ⟨hPg, hPr, hPt⟩ hx0 hxK hy0 hyK d f m2 (tP ((y.toNat : Nat) : Int) v_6) (k + 1) c_7 sc_7 (by omega) (by omega) (by omega) (by omega) (by omega) K0

theorem qb_inner_o {m s : Nat} {F : aq_F} {c0 : aq_C} {S : Nat → Prop} {o n K : Nat} (hB : bx_0 m F o n K) (hSs : S (o + 7 + 3 * K)) {tP : Int → Int → Int} (hP : bx_p F o n K tP) {x : Int} (hx0 : 0 ≤ x) (hxK : x < (K : Int)) {y : Int} (hy0 : 0 ≤ y) (hyK : y < (K : Int)) : ∀ (d : Nat) (f : Int) (p : Int) (v5 : am_V) (v6 : am_V) (c : aq_C) (hs : aq_sm S c0 c) (h0 : 0 ≤ p) (h1 : p ≤ (n : Int)) (h2 : 0 ≤ f) (h3 : f ≤ p) (hd : (n : Int) - p < (d : Int)), am_E ac_X0_countInnerRings (5, [vR o, vR (o + 2 + x.toNat), vR (o + 2 + y.toNat), vI f, vI p, v5, v6], [], aq_h m s F c) (aq_Z m s F S c0 (fun r _ => ∃ v, r = some (vI v) ∧ 0 ≤ v ∧ v ≤ (n : Int)))
  | 0, f, p, v5, v6, c, hs, h0, h1, h2, h3, hd => by exfalso; omega
  | d + 1, f, p, v5, v6, c, hs, h0, h1, h2, h3, hd => by
    obtain ⟨hm, hn1, hn4, hK, hFo, hFd, hFs⟩ := hB
    obtain ⟨hPg, hPr, hPt⟩ := hP
    refine am_E.go (t2 := (7, [vR o, vR (o + 2 + x.toNat), vR (o + 2 + y.toNat), vI f, vI p, v5, v6], [vI p], aq_h m s F c)) rfl rfl ?_
    refine am_E.go (t2 := (8, [vR o, vR (o + 2 + x.toNat), vR (o + 2 + y.toNat), vI f, vI p, v5, v6], [vR o, vI p], aq_h m s F c)) rfl rfl ?_
    refine aq_gf (v := vI (n : Int)) rfl (by omega) hFo (by decide) rfl ?_
    show am_E _ (11, [vR o, vR (o + 2 + x.toNat), vR (o + 2 + y.toNat), vI f, vI p, v5, v6], [vI (n : Int), vI p], aq_h m s F c) _
    refine ae_icmp rfl (fun (q_1 : (n : Int) ≤ p) => ?_) (fun (q_1 : p < (n : Int)) => ?_)
    · refine am_E.go (t2 := (102, [vR o, vR (o + 2 + x.toNat), vR (o + 2 + y.toNat), vI f, vI p, v5, v6], [vI f], aq_h m s F c)) rfl rfl ?_
      refine am_E.ret rfl rfl ?_
      exact ⟨_, rfl, hs, _, rfl, by omega, by omega⟩
    · refine am_E.go (t2 := (15, [vR o, vR (o + 2 + x.toNat), vR (o + 2 + y.toNat), vI f, vI p, v5, v6], [vR o], aq_h m s F c)) rfl rfl ?_
      refine aq_gf (v := vR (o + 7 + 3 * K)) rfl (by omega) hFo (by decide) rfl ?_
      show am_E _ (18, [vR o, vR (o + 2 + x.toNat), vR (o + 2 + y.toNat), vI f, vI p, v5, v6], [vR (o + 7 + 3 * K)], aq_h m s F c) _
      refine am_E.go (t2 := (20, [vR o, vR (o + 2 + x.toNat), vR (o + 2 + y.toNat), vI f, vI p, v5, v6], [vI p, vR (o + 7 + 3 * K)], aq_h m s F c)) rfl rfl ?_
      refine aq_al (ok := fun k => k == 1) (v := vI (c (o + 7 + 3 * K) p)) rfl rfl (by omega) hFs rfl (by omega) (by omega) rfl ?_
      show am_E _ (21, [vR o, vR (o + 2 + x.toNat), vR (o + 2 + y.toNat), vI f, vI p, v5, v6], [vI (c (o + 7 + 3 * K) p)], aq_h m s F c) _
      refine ae_if0 rfl (fun (q_2 : (c (o + 7 + 3 * K) p) ≠ 0) => ?_) (fun (q_2 : (c (o + 7 + 3 * K) p) = 0) => ?_)
      · refine ae_iinc rfl rfl (am_ri (by omega) (by omega)) ?_
        show am_E _ (98, [vR o, vR (o + 2 + x.toNat), vR (o + 2 + y.toNat), vI f, vI (p + 1), v5, v6], [], aq_h m s F c) _
        refine am_E.go (t2 := (5, [vR o, vR (o + 2 + x.toNat), vR (o + 2 + y.toNat), vI f, vI (p + 1), v5, v6], [], aq_h m s F c)) rfl rfl ?_
        exact qb_inner_o ⟨hm, hn1, hn4, hK, hFo, hFd, hFs⟩ hSs ⟨hPg, hPr, hPt⟩ hx0 hxK hy0 hyK d f (p + 1) (v5) (v6) c hs (by omega) (by omega) (by omega) (by omega) (by omega)
      · refine ae_iinc rfl rfl (am_ri (by omega) (by omega)) ?_
        show am_E _ (27, [vR o, vR (o + 2 + x.toNat), vR (o + 2 + y.toNat), vI (f + 1), vI p, v5, v6], [], aq_h m s F c) _
        refine am_E.go (t2 := (29, [vR o, vR (o + 2 + x.toNat), vR (o + 2 + y.toNat), vI (f + 1), vI p, v5, v6], [vI p], aq_h m s F c)) rfl rfl ?_
        refine am_E.go (t2 := (31, [vR o, vR (o + 2 + x.toNat), vR (o + 2 + y.toNat), vI (f + 1), vI p, vI p, v6], [], aq_h m s F c)) rfl rfl ?_
        refine am_E.go (t2 := (32, [vR o, vR (o + 2 + x.toNat), vR (o + 2 + y.toNat), vI (f + 1), vI p, vI p, v6], [vI 0], aq_h m s F c)) rfl rfl ?_
        refine am_E.go (t2 := (34, [vR o, vR (o + 2 + x.toNat), vR (o + 2 + y.toNat), vI (f + 1), vI p, vI p, vI 0], [], aq_h m s F c)) rfl rfl ?_
        refine qb_inner_i ⟨hm, hn1, hn4, hK, hFo, hFd, hFs⟩ hSs ⟨hPg, hPr, hPt⟩ hx0 hxK hy0 hyK 9 (f + 1) p p 0 c hs (by omega) (by omega) (by omega) (by omega) (by omega) ?_
        · intro a2_34 k2_34 c_3 sc_3
          refine ae_iinc rfl rfl (am_ri (by omega) (by omega)) ?_
          show am_E _ (98, [vR o, vR (o + 2 + x.toNat), vR (o + 2 + y.toNat), vI (f + 1), vI (p + 1), vI a2_34, vI k2_34], [], aq_h m s F c_3) _
          refine am_E.go (t2 := (5, [vR o, vR (o + 2 + x.toNat), vR (o + 2 + y.toNat), vI (f + 1), vI (p + 1), vI a2_34, vI k2_34], [], aq_h m s F c_3)) rfl rfl ?_
          exact qb_inner_o ⟨hm, hn1, hn4, hK, hFo, hFd, hFs⟩ hSs ⟨hPg, hPr, hPt⟩ hx0 hxK hy0 hyK d (f + 1) (p + 1) (vI a2_34) (vI k2_34) c_3 sc_3 (by omega) (by omega) (by omega) (by omega) (by omega)

theorem qb_countInnerRings {m s : Nat} {F : aq_F} {c : aq_C} {S : Nat → Prop} {o n K : Nat} (hB : bx_0 m F o n K) (hSs : S (o + 7 + 3 * K)) {tP : Int → Int → Int} (hP : bx_p F o n K tP) {x : Int} (hx0 : 0 ≤ x) (hxK : x < (K : Int)) {y : Int} (hy0 : 0 ≤ y) (hyK : y < (K : Int)) : am_E ac_X0_countInnerRings (0, [vR o, vR (o + 2 + x.toNat), vR (o + 2 + y.toNat), vU, vU, vU, vU], [], aq_h m s F c) (aq_Z m s F S c (fun r _ => ∃ v, r = some (vI v) ∧ 0 ≤ v ∧ v ≤ (n : Int))) := by
  obtain ⟨hm, hn1, hn4, hK, hFo, hFd, hFs⟩ := hB
  obtain ⟨hPg, hPr, hPt⟩ := hP
  refine am_E.go (t2 := (1, [vR o, vR (o + 2 + x.toNat), vR (o + 2 + y.toNat), vU, vU, vU, vU], [vI 0], aq_h m s F c)) rfl rfl ?_
  refine am_E.go (t2 := (2, [vR o, vR (o + 2 + x.toNat), vR (o + 2 + y.toNat), vI 0, vU, vU, vU], [], aq_h m s F c)) rfl rfl ?_
  refine am_E.go (t2 := (3, [vR o, vR (o + 2 + x.toNat), vR (o + 2 + y.toNat), vI 0, vU, vU, vU], [vI 0], aq_h m s F c)) rfl rfl ?_
  refine am_E.go (t2 := (5, [vR o, vR (o + 2 + x.toNat), vR (o + 2 + y.toNat), vI 0, vI 0, vU, vU], [], aq_h m s F c)) rfl rfl ?_
  exact qb_inner_o ⟨hm, hn1, hn4, hK, hFo, hFd, hFs⟩ hSs ⟨hPg, hPr, hPt⟩ hx0 hxK hy0 hyK 9 0 0 (vU) (vU) c aq_sm0 (by omega) (by omega) (by omega) (by omega) (by omega)
