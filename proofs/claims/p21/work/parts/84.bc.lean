/-! Boxes: follow. Printed by wip/p20/sx/gBC2.py. -/

theorem qb_follow_l {m s : Nat} {F : aq_F} {c0 : aq_C} {S : Nat → Prop} {o n K : Nat} (hB : bx_0 m F o n K) (hSs : S (o + 7 + 3 * K)) {tP : Int → Int → Int} (hP : bx_p F o n K tP) {x : Int} (hx0 : 0 ≤ x) (hxK : x < (K : Int)) {y : Int} (hy0 : 0 ≤ y) (hyK : y < (K : Int)) {T start : Int} (hfi : fi (n : Int) (tP ((x.toNat : Nat) : Int))) (hgi : fi (n : Int) (tP ((y.toNat : Nat) : Int))) : ∀ (d : Nat) (u : Bool) (p k : Int) (c : aq_C) (hs : aq_sm S c0 c) (h0 : 0 ≤ p) (h1 : p < 2 * (n : Int)) (hk0 : 0 ≤ k) (hk : k + (d : Int) ≤ 2 * (n : Int) + 1) (he : exd (n : Int) (tP ((x.toNat : Nat) : Int)) (tP ((y.toNat : Nat) : Int)) d u p) (hT : ldr (n : Int) (tP ((x.toNat : Nat) : Int)) (tP ((y.toNat : Nat) : Int)) d u p = T), am_E ac_X0_follow (21, [vR o, vR (o + 2 + x.toNat), vR (o + 2 + y.toNat), vI start, vI (if u then 1 else 0), vI p, vI k], [], aq_h m s F c) (aq_Z m s F S c0 (fun r _ => r = some (vI T)))
  | 0, u, p, k, c, hs, h0, h1, hk0, hk, he, hT => he.elim
  | d + 1, true, p, k, c, hs, h0, h1, hk0, hk, he, hT => by
    obtain ⟨hm, hn1, hn4, hK, hFo, hFd, hFs⟩ := hB
    obtain ⟨hPg, hPr, hPt⟩ := hP
    show am_E _ (21, [vR o, vR (o + 2 + x.toNat), vR (o + 2 + y.toNat), vI start, vI 1, vI p, vI k], [], aq_h m s F c) _
    refine am_E.go (t2 := (23, [vR o, vR (o + 2 + x.toNat), vR (o + 2 + y.toNat), vI start, vI 1, vI p, vI k], [vI k], aq_h m s F c)) rfl rfl ?_
    refine am_E.go (t2 := (24, [vR o, vR (o + 2 + x.toNat), vR (o + 2 + y.toNat), vI start, vI 1, vI p, vI k], [vR o, vI k], aq_h m s F c)) rfl rfl ?_
    refine aq_gf (v := vI (2 * (n : Int))) rfl (by omega) hFo (by decide) rfl ?_
    show am_E _ (27, [vR o, vR (o + 2 + x.toNat), vR (o + 2 + y.toNat), vI start, vI 1, vI p, vI k], [vI (2 * (n : Int)), vI k], aq_h m s F c) _
    refine ae_icmp rfl (fun (q_1 : (2 * (n : Int)) < k) => ?_) (fun (q_1 : k ≤ (2 * (n : Int))) => ?_)
    · exfalso; omega
    · refine am_E.go (t2 := (32, [vR o, vR (o + 2 + x.toNat), vR (o + 2 + y.toNat), vI start, vI 1, vI p, vI k], [vI 1], aq_h m s F c)) rfl rfl ?_
      refine am_E.go (t2 := (35, [vR o, vR (o + 2 + x.toNat), vR (o + 2 + y.toNat), vI start, vI 1, vI p, vI k], [], aq_h m s F c)) rfl rfl ?_
      refine am_E.go (t2 := (36, [vR o, vR (o + 2 + x.toNat), vR (o + 2 + y.toNat), vI start, vI 1, vI p, vI k], [vR (o + 2 + x.toNat)], aq_h m s F c)) rfl rfl ?_
      refine am_E.go (t2 := (38, [vR o, vR (o + 2 + x.toNat), vR (o + 2 + y.toNat), vI start, vI 1, vI p, vI k], [vI p, vR (o + 2 + x.toNat)], aq_h m s F c)) rfl rfl ?_
      refine aq_alt (ok := fun k => k == 0) rfl rfl (by omega) (hPr _ (by omega)) rfl (by omega) (by omega) ?_
      show am_E _ (39, [vR o, vR (o + 2 + x.toNat), vR (o + 2 + y.toNat), vI start, vI 1, vI p, vI k], [vI (tP ((x.toNat : Nat) : Int) p)], aq_h m s F c) _
      have f_2 := hPt ((x.toNat : Nat) : Int) p (by omega) (by omega) (by omega) (by omega)
      refine am_E.go (t2 := (46, [vR o, vR (o + 2 + x.toNat), vR (o + 2 + y.toNat), vI start, vI 1, vI p, vI k], [vI (tP ((x.toNat : Nat) : Int) p)], aq_h m s F c)) rfl rfl ?_
      refine am_E.go (t2 := (48, [vR o, vR (o + 2 + x.toNat), vR (o + 2 + y.toNat), vI start, vI 1, vI (tP ((x.toNat : Nat) : Int) p), vI k], [], aq_h m s F c)) rfl rfl ?_
      refine am_E.go (t2 := (50, [vR o, vR (o + 2 + x.toNat), vR (o + 2 + y.toNat), vI start, vI 1, vI (tP ((x.toNat : Nat) : Int) p), vI k], [vI 1], aq_h m s F c)) rfl rfl ?_
      refine am_E.go (t2 := (52, [vR o, vR (o + 2 + x.toNat), vR (o + 2 + y.toNat), vI start, vI 1, vI (tP ((x.toNat : Nat) : Int) p), vI k], [vI (tP ((x.toNat : Nat) : Int) p), vI 1], aq_h m s F c)) rfl rfl ?_
      refine am_E.go (t2 := (53, [vR o, vR (o + 2 + x.toNat), vR (o + 2 + y.toNat), vI start, vI 1, vI (tP ((x.toNat : Nat) : Int) p), vI k], [vR o, vI (tP ((x.toNat : Nat) : Int) p), vI 1], aq_h m s F c)) rfl rfl ?_
      refine aq_gf (v := vI (n : Int)) rfl (by omega) hFo (by decide) rfl ?_
      show am_E _ (56, [vR o, vR (o + 2 + x.toNat), vR (o + 2 + y.toNat), vI start, vI 1, vI (tP ((x.toNat : Nat) : Int) p), vI k], [vI (n : Int), vI (tP ((x.toNat : Nat) : Int) p), vI 1], aq_h m s F c) _
      refine ae_icmp rfl (fun (q_3 : (n : Int) ≤ (tP ((x.toNat : Nat) : Int) p)) => ?_) (fun (q_3 : (tP ((x.toNat : Nat) : Int) p) < (n : Int)) => ?_)
      · refine am_E.go (t2 := (64, [vR o, vR (o + 2 + x.toNat), vR (o + 2 + y.toNat), vI start, vI 1, vI (tP ((x.toNat : Nat) : Int) p), vI k], [vI 0, vI 1], aq_h m s F c)) rfl rfl ?_
        refine am_E.go (t2 := (70, [vR o, vR (o + 2 + x.toNat), vR (o + 2 + y.toNat), vI start, vI 1, vI (tP ((x.toNat : Nat) : Int) p), vI k], [], aq_h m s F c)) rfl rfl ?_
        refine am_E.go (t2 := (71, [vR o, vR (o + 2 + x.toNat), vR (o + 2 + y.toNat), vI start, vI 1, vI (tP ((x.toNat : Nat) : Int) p), vI k], [vR o], aq_h m s F c)) rfl rfl ?_
        refine aq_gf (v := vR (o + 7 + 3 * K)) rfl (by omega) hFo (by decide) rfl ?_
        show am_E _ (74, [vR o, vR (o + 2 + x.toNat), vR (o + 2 + y.toNat), vI start, vI 1, vI (tP ((x.toNat : Nat) : Int) p), vI k], [vR (o + 7 + 3 * K)], aq_h m s F c) _
        refine am_E.go (t2 := (76, [vR o, vR (o + 2 + x.toNat), vR (o + 2 + y.toNat), vI start, vI 1, vI (tP ((x.toNat : Nat) : Int) p), vI k], [vI 1, vR (o + 7 + 3 * K)], aq_h m s F c)) rfl rfl ?_
        refine am_E.go (t2 := (79, [vR o, vR (o + 2 + x.toNat), vR (o + 2 + y.toNat), vI start, vI 1, vI (tP ((x.toNat : Nat) : Int) p), vI k], [vR (o + 7 + 3 * K)], aq_h m s F c)) rfl rfl ?_
        refine am_E.go (t2 := (81, [vR o, vR (o + 2 + x.toNat), vR (o + 2 + y.toNat), vI start, vI 1, vI (tP ((x.toNat : Nat) : Int) p), vI k], [vI (tP ((x.toNat : Nat) : Int) p), vR (o + 7 + 3 * K)], aq_h m s F c)) rfl rfl ?_
        refine am_E.go (t2 := (82, [vR o, vR (o + 2 + x.toNat), vR (o + 2 + y.toNat), vI start, vI 1, vI (tP ((x.toNat : Nat) : Int) p), vI k], [vR o, vI (tP ((x.toNat : Nat) : Int) p), vR (o + 7 + 3 * K)], aq_h m s F c)) rfl rfl ?_
        refine aq_gf (v := vI (n : Int)) rfl (by omega) hFo (by decide) rfl ?_
        show am_E _ (85, [vR o, vR (o + 2 + x.toNat), vR (o + 2 + y.toNat), vI start, vI 1, vI (tP ((x.toNat : Nat) : Int) p), vI k], [vI (n : Int), vI (tP ((x.toNat : Nat) : Int) p), vR (o + 7 + 3 * K)], aq_h m s F c) _
        refine ae_sub rfl (am_ri (by omega) (by omega)) ?_
        show am_E _ (86, [vR o, vR (o + 2 + x.toNat), vR (o + 2 + y.toNat), vI start, vI 1, vI (tP ((x.toNat : Nat) : Int) p), vI k], [vI ((tP ((x.toNat : Nat) : Int) p) - (n : Int)), vR (o + 7 + 3 * K)], aq_h m s F c) _
        refine am_E.go (t2 := (91, [vR o, vR (o + 2 + x.toNat), vR (o + 2 + y.toNat), vI start, vI 1, vI (tP ((x.toNat : Nat) : Int) p), vI k], [vI ((tP ((x.toNat : Nat) : Int) p) - (n : Int)), vR (o + 7 + 3 * K)], aq_h m s F c)) rfl rfl ?_
        refine am_E.go (t2 := (92, [vR o, vR (o + 2 + x.toNat), vR (o + 2 + y.toNat), vI start, vI 1, vI (tP ((x.toNat : Nat) : Int) p), vI k], [vI 1, vI ((tP ((x.toNat : Nat) : Int) p) - (n : Int)), vR (o + 7 + 3 * K)], aq_h m s F c)) rfl rfl ?_
        refine aq_as (kd := 1) rfl rfl (by omega) hFs (by omega) (by omega) rfl rfl ?_
        show am_E _ (93, [vR o, vR (o + 2 + x.toNat), vR (o + 2 + y.toNat), vI start, vI 1, vI (tP ((x.toNat : Nat) : Int) p), vI k], [], aq_h m s F (aq_u c (o + 7 + 3 * K) ((tP ((x.toNat : Nat) : Int) p) - (n : Int)) 1)) _
        generalize hdc_4 : aq_u c (o + 7 + 3 * K) ((tP ((x.toNat : Nat) : Int) p) - (n : Int)) 1 = c_4
        have sc_4 := aq_smu hs hdc_4 hSs
        refine am_E.go (t2 := (94, [vR o, vR (o + 2 + x.toNat), vR (o + 2 + y.toNat), vI start, vI 1, vI (tP ((x.toNat : Nat) : Int) p), vI k], [vR o], aq_h m s F c_4)) rfl rfl ?_
        refine am_E.go (t2 := (96, [vR o, vR (o + 2 + x.toNat), vR (o + 2 + y.toNat), vI start, vI 1, vI (tP ((x.toNat : Nat) : Int) p), vI k], [vI (tP ((x.toNat : Nat) : Int) p), vR o], aq_h m s F c_4)) rfl rfl ?_
        refine aq_callv (y := 2) (as2 := [vI (tP ((x.toNat : Nat) : Int) p)]) (rest := []) rfl rfl (by decide) (Nat.le_of_ble_eq_true rfl) rfl rfl (Nat.le_of_ble_eq_true rfl) (by omega) hFo rfl (Nat.le_of_ble_eq_true rfl) (qn_X0_across ⟨hm, hn1, hn4, hK, hFo, hFd, hFs⟩ (by omega) (by omega)) ?_
        rintro r5 h5 ⟨rfl, v_5, rfl, hv_5⟩
        show am_E _ (99, [vR o, vR (o + 2 + x.toNat), vR (o + 2 + y.toNat), vI start, vI 1, vI (tP ((x.toNat : Nat) : Int) p), vI k], [vI v_5], aq_h m s F c_4) _
        refine am_E.go (t2 := (101, [vR o, vR (o + 2 + x.toNat), vR (o + 2 + y.toNat), vI start, vI 1, vI v_5, vI k], [], aq_h m s F c_4)) rfl rfl ?_
        refine am_E.go (t2 := (103, [vR o, vR (o + 2 + x.toNat), vR (o + 2 + y.toNat), vI start, vI 1, vI v_5, vI k], [vI 1], aq_h m s F c_4)) rfl rfl ?_
        refine am_E.go (t2 := (110, [vR o, vR (o + 2 + x.toNat), vR (o + 2 + y.toNat), vI start, vI 1, vI v_5, vI k], [], aq_h m s F c_4)) rfl rfl ?_
        refine am_E.go (t2 := (111, [vR o, vR (o + 2 + x.toNat), vR (o + 2 + y.toNat), vI start, vI 1, vI v_5, vI k], [vI 0], aq_h m s F c_4)) rfl rfl ?_
        refine am_E.go (t2 := (113, [vR o, vR (o + 2 + x.toNat), vR (o + 2 + y.toNat), vI start, vI 0, vI v_5, vI k], [], aq_h m s F c_4)) rfl rfl ?_
        refine ae_iinc rfl rfl (am_ri (by omega) (by omega)) ?_
        show am_E _ (116, [vR o, vR (o + 2 + x.toNat), vR (o + 2 + y.toNat), vI start, vI 0, vI v_5, vI (k + 1)], [], aq_h m s F c_4) _
        refine am_E.go (t2 := (21, [vR o, vR (o + 2 + x.toNat), vR (o + 2 + y.toNat), vI start, vI 0, vI v_5, vI (k + 1)], [], aq_h m s F c_4)) rfl rfl ?_
        have e_v : v_5 = (tP ((x.toNat : Nat) : Int) p) - (n : Int) := by omega
        refine qb_follow_l ⟨hm, hn1, hn4, hK, hFo, hFd, hFs⟩ hSs ⟨hPg, hPr, hPt⟩ hx0 hxK hy0 hyK hfi hgi d false v_5 (k + 1) c_4 sc_4 (by omega) (by omega) (by omega) (by omega) (by rw [e_v]; exact he (by omega)) (by rw [← hT, ldr, if_pos (by omega), e_v])
      · refine am_E.go (t2 := (60, [vR o, vR (o + 2 + x.toNat), vR (o + 2 + y.toNat), vI start, vI 1, vI (tP ((x.toNat : Nat) : Int) p), vI k], [vI 1, vI 1], aq_h m s F c)) rfl rfl ?_
        refine am_E.go (t2 := (64, [vR o, vR (o + 2 + x.toNat), vR (o + 2 + y.toNat), vI start, vI 1, vI (tP ((x.toNat : Nat) : Int) p), vI k], [vI 1, vI 1], aq_h m s F c)) rfl rfl ?_
        refine am_E.go (t2 := (67, [vR o, vR (o + 2 + x.toNat), vR (o + 2 + y.toNat), vI start, vI 1, vI (tP ((x.toNat : Nat) : Int) p), vI k], [], aq_h m s F c)) rfl rfl ?_
        refine am_E.go (t2 := (69, [vR o, vR (o + 2 + x.toNat), vR (o + 2 + y.toNat), vI start, vI 1, vI (tP ((x.toNat : Nat) : Int) p), vI k], [vI (tP ((x.toNat : Nat) : Int) p)], aq_h m s F c)) rfl rfl ?_
        refine am_E.ret rfl rfl ?_
        exact ⟨_, rfl, hs, by rw [← hT, ldr, if_neg (by omega)]⟩
  | d + 1, false, p, k, c, hs, h0, h1, hk0, hk, he, hT => by
    obtain ⟨hm, hn1, hn4, hK, hFo, hFd, hFs⟩ := hB
    obtain ⟨hPg, hPr, hPt⟩ := hP
    show am_E _ (21, [vR o, vR (o + 2 + x.toNat), vR (o + 2 + y.toNat), vI start, vI 0, vI p, vI k], [], aq_h m s F c) _
    refine am_E.go (t2 := (23, [vR o, vR (o + 2 + x.toNat), vR (o + 2 + y.toNat), vI start, vI 0, vI p, vI k], [vI k], aq_h m s F c)) rfl rfl ?_
    refine am_E.go (t2 := (24, [vR o, vR (o + 2 + x.toNat), vR (o + 2 + y.toNat), vI start, vI 0, vI p, vI k], [vR o, vI k], aq_h m s F c)) rfl rfl ?_
    refine aq_gf (v := vI (2 * (n : Int))) rfl (by omega) hFo (by decide) rfl ?_
    show am_E _ (27, [vR o, vR (o + 2 + x.toNat), vR (o + 2 + y.toNat), vI start, vI 0, vI p, vI k], [vI (2 * (n : Int)), vI k], aq_h m s F c) _
    refine ae_icmp rfl (fun (q_1 : (2 * (n : Int)) < k) => ?_) (fun (q_1 : k ≤ (2 * (n : Int))) => ?_)
    · exfalso; omega
    · refine am_E.go (t2 := (32, [vR o, vR (o + 2 + x.toNat), vR (o + 2 + y.toNat), vI start, vI 0, vI p, vI k], [vI 0], aq_h m s F c)) rfl rfl ?_
      refine am_E.go (t2 := (42, [vR o, vR (o + 2 + x.toNat), vR (o + 2 + y.toNat), vI start, vI 0, vI p, vI k], [], aq_h m s F c)) rfl rfl ?_
      refine am_E.go (t2 := (43, [vR o, vR (o + 2 + x.toNat), vR (o + 2 + y.toNat), vI start, vI 0, vI p, vI k], [vR (o + 2 + y.toNat)], aq_h m s F c)) rfl rfl ?_
      refine am_E.go (t2 := (45, [vR o, vR (o + 2 + x.toNat), vR (o + 2 + y.toNat), vI start, vI 0, vI p, vI k], [vI p, vR (o + 2 + y.toNat)], aq_h m s F c)) rfl rfl ?_
      refine aq_alt (ok := fun k => k == 0) rfl rfl (by omega) (hPr _ (by omega)) rfl (by omega) (by omega) ?_
      show am_E _ (46, [vR o, vR (o + 2 + x.toNat), vR (o + 2 + y.toNat), vI start, vI 0, vI p, vI k], [vI (tP ((y.toNat : Nat) : Int) p)], aq_h m s F c) _
      have f_2 := hPt ((y.toNat : Nat) : Int) p (by omega) (by omega) (by omega) (by omega)
      refine am_E.go (t2 := (48, [vR o, vR (o + 2 + x.toNat), vR (o + 2 + y.toNat), vI start, vI 0, vI (tP ((y.toNat : Nat) : Int) p), vI k], [], aq_h m s F c)) rfl rfl ?_
      refine am_E.go (t2 := (50, [vR o, vR (o + 2 + x.toNat), vR (o + 2 + y.toNat), vI start, vI 0, vI (tP ((y.toNat : Nat) : Int) p), vI k], [vI 0], aq_h m s F c)) rfl rfl ?_
      refine am_E.go (t2 := (52, [vR o, vR (o + 2 + x.toNat), vR (o + 2 + y.toNat), vI start, vI 0, vI (tP ((y.toNat : Nat) : Int) p), vI k], [vI (tP ((y.toNat : Nat) : Int) p), vI 0], aq_h m s F c)) rfl rfl ?_
      refine am_E.go (t2 := (53, [vR o, vR (o + 2 + x.toNat), vR (o + 2 + y.toNat), vI start, vI 0, vI (tP ((y.toNat : Nat) : Int) p), vI k], [vR o, vI (tP ((y.toNat : Nat) : Int) p), vI 0], aq_h m s F c)) rfl rfl ?_
      refine aq_gf (v := vI (n : Int)) rfl (by omega) hFo (by decide) rfl ?_
      show am_E _ (56, [vR o, vR (o + 2 + x.toNat), vR (o + 2 + y.toNat), vI start, vI 0, vI (tP ((y.toNat : Nat) : Int) p), vI k], [vI (n : Int), vI (tP ((y.toNat : Nat) : Int) p), vI 0], aq_h m s F c) _
      refine ae_icmp rfl (fun (q_3 : (n : Int) ≤ (tP ((y.toNat : Nat) : Int) p)) => ?_) (fun (q_3 : (tP ((y.toNat : Nat) : Int) p) < (n : Int)) => ?_)
      · refine am_E.go (t2 := (64, [vR o, vR (o + 2 + x.toNat), vR (o + 2 + y.toNat), vI start, vI 0, vI (tP ((y.toNat : Nat) : Int) p), vI k], [vI 0, vI 0], aq_h m s F c)) rfl rfl ?_
        refine am_E.go (t2 := (67, [vR o, vR (o + 2 + x.toNat), vR (o + 2 + y.toNat), vI start, vI 0, vI (tP ((y.toNat : Nat) : Int) p), vI k], [], aq_h m s F c)) rfl rfl ?_
        refine am_E.go (t2 := (69, [vR o, vR (o + 2 + x.toNat), vR (o + 2 + y.toNat), vI start, vI 0, vI (tP ((y.toNat : Nat) : Int) p), vI k], [vI (tP ((y.toNat : Nat) : Int) p)], aq_h m s F c)) rfl rfl ?_
        refine am_E.ret rfl rfl ?_
        exact ⟨_, rfl, hs, by rw [← hT, ldr, if_neg (by omega)]⟩
      · refine am_E.go (t2 := (60, [vR o, vR (o + 2 + x.toNat), vR (o + 2 + y.toNat), vI start, vI 0, vI (tP ((y.toNat : Nat) : Int) p), vI k], [vI 1, vI 0], aq_h m s F c)) rfl rfl ?_
        refine am_E.go (t2 := (64, [vR o, vR (o + 2 + x.toNat), vR (o + 2 + y.toNat), vI start, vI 0, vI (tP ((y.toNat : Nat) : Int) p), vI k], [vI 1, vI 0], aq_h m s F c)) rfl rfl ?_
        refine am_E.go (t2 := (70, [vR o, vR (o + 2 + x.toNat), vR (o + 2 + y.toNat), vI start, vI 0, vI (tP ((y.toNat : Nat) : Int) p), vI k], [], aq_h m s F c)) rfl rfl ?_
        refine am_E.go (t2 := (71, [vR o, vR (o + 2 + x.toNat), vR (o + 2 + y.toNat), vI start, vI 0, vI (tP ((y.toNat : Nat) : Int) p), vI k], [vR o], aq_h m s F c)) rfl rfl ?_
        refine aq_gf (v := vR (o + 7 + 3 * K)) rfl (by omega) hFo (by decide) rfl ?_
        show am_E _ (74, [vR o, vR (o + 2 + x.toNat), vR (o + 2 + y.toNat), vI start, vI 0, vI (tP ((y.toNat : Nat) : Int) p), vI k], [vR (o + 7 + 3 * K)], aq_h m s F c) _
        refine am_E.go (t2 := (76, [vR o, vR (o + 2 + x.toNat), vR (o + 2 + y.toNat), vI start, vI 0, vI (tP ((y.toNat : Nat) : Int) p), vI k], [vI 0, vR (o + 7 + 3 * K)], aq_h m s F c)) rfl rfl ?_
        refine am_E.go (t2 := (89, [vR o, vR (o + 2 + x.toNat), vR (o + 2 + y.toNat), vI start, vI 0, vI (tP ((y.toNat : Nat) : Int) p), vI k], [vR (o + 7 + 3 * K)], aq_h m s F c)) rfl rfl ?_
        refine am_E.go (t2 := (91, [vR o, vR (o + 2 + x.toNat), vR (o + 2 + y.toNat), vI start, vI 0, vI (tP ((y.toNat : Nat) : Int) p), vI k], [vI (tP ((y.toNat : Nat) : Int) p), vR (o + 7 + 3 * K)], aq_h m s F c)) rfl rfl ?_
        refine am_E.go (t2 := (92, [vR o, vR (o + 2 + x.toNat), vR (o + 2 + y.toNat), vI start, vI 0, vI (tP ((y.toNat : Nat) : Int) p), vI k], [vI 1, vI (tP ((y.toNat : Nat) : Int) p), vR (o + 7 + 3 * K)], aq_h m s F c)) rfl rfl ?_
        refine aq_as (kd := 1) rfl rfl (by omega) hFs (by omega) (by omega) rfl rfl ?_
        show am_E _ (93, [vR o, vR (o + 2 + x.toNat), vR (o + 2 + y.toNat), vI start, vI 0, vI (tP ((y.toNat : Nat) : Int) p), vI k], [], aq_h m s F (aq_u c (o + 7 + 3 * K) (tP ((y.toNat : Nat) : Int) p) 1)) _
        generalize hdc_4 : aq_u c (o + 7 + 3 * K) (tP ((y.toNat : Nat) : Int) p) 1 = c_4
        have sc_4 := aq_smu hs hdc_4 hSs
        refine am_E.go (t2 := (94, [vR o, vR (o + 2 + x.toNat), vR (o + 2 + y.toNat), vI start, vI 0, vI (tP ((y.toNat : Nat) : Int) p), vI k], [vR o], aq_h m s F c_4)) rfl rfl ?_
        refine am_E.go (t2 := (96, [vR o, vR (o + 2 + x.toNat), vR (o + 2 + y.toNat), vI start, vI 0, vI (tP ((y.toNat : Nat) : Int) p), vI k], [vI (tP ((y.toNat : Nat) : Int) p), vR o], aq_h m s F c_4)) rfl rfl ?_
        refine aq_callv (y := 2) (as2 := [vI (tP ((y.toNat : Nat) : Int) p)]) (rest := []) rfl rfl (by decide) (Nat.le_of_ble_eq_true rfl) rfl rfl (Nat.le_of_ble_eq_true rfl) (by omega) hFo rfl (Nat.le_of_ble_eq_true rfl) (qn_X0_across ⟨hm, hn1, hn4, hK, hFo, hFd, hFs⟩ (by omega) (by omega)) ?_
        rintro r5 h5 ⟨rfl, v_5, rfl, hv_5⟩
        show am_E _ (99, [vR o, vR (o + 2 + x.toNat), vR (o + 2 + y.toNat), vI start, vI 0, vI (tP ((y.toNat : Nat) : Int) p), vI k], [vI v_5], aq_h m s F c_4) _
        refine am_E.go (t2 := (101, [vR o, vR (o + 2 + x.toNat), vR (o + 2 + y.toNat), vI start, vI 0, vI v_5, vI k], [], aq_h m s F c_4)) rfl rfl ?_
        refine am_E.go (t2 := (103, [vR o, vR (o + 2 + x.toNat), vR (o + 2 + y.toNat), vI start, vI 0, vI v_5, vI k], [vI 0], aq_h m s F c_4)) rfl rfl ?_
        refine am_E.go (t2 := (106, [vR o, vR (o + 2 + x.toNat), vR (o + 2 + y.toNat), vI start, vI 0, vI v_5, vI k], [], aq_h m s F c_4)) rfl rfl ?_
        refine am_E.go (t2 := (107, [vR o, vR (o + 2 + x.toNat), vR (o + 2 + y.toNat), vI start, vI 0, vI v_5, vI k], [vI 1], aq_h m s F c_4)) rfl rfl ?_
        refine am_E.go (t2 := (111, [vR o, vR (o + 2 + x.toNat), vR (o + 2 + y.toNat), vI start, vI 0, vI v_5, vI k], [vI 1], aq_h m s F c_4)) rfl rfl ?_
        refine am_E.go (t2 := (113, [vR o, vR (o + 2 + x.toNat), vR (o + 2 + y.toNat), vI start, vI 1, vI v_5, vI k], [], aq_h m s F c_4)) rfl rfl ?_
        refine ae_iinc rfl rfl (am_ri (by omega) (by omega)) ?_
        show am_E _ (116, [vR o, vR (o + 2 + x.toNat), vR (o + 2 + y.toNat), vI start, vI 1, vI v_5, vI (k + 1)], [], aq_h m s F c_4) _
        refine am_E.go (t2 := (21, [vR o, vR (o + 2 + x.toNat), vR (o + 2 + y.toNat), vI start, vI 1, vI v_5, vI (k + 1)], [], aq_h m s F c_4)) rfl rfl ?_
        have e_v : v_5 = (n : Int) + tP ((y.toNat : Nat) : Int) p := by omega
        refine qb_follow_l ⟨hm, hn1, hn4, hK, hFo, hFd, hFs⟩ hSs ⟨hPg, hPr, hPt⟩ hx0 hxK hy0 hyK hfi hgi d true v_5 (k + 1) c_4 sc_4 (by omega) (by omega) (by omega) (by omega) (by rw [e_v]; exact he (by omega)) (by rw [← hT, ldr, if_pos (by omega), e_v])

theorem qb_follow {m s : Nat} {F : aq_F} {c : aq_C} {S : Nat → Prop} {o n K : Nat} (hB : bx_0 m F o n K) (hSs : S (o + 7 + 3 * K)) {tP : Int → Int → Int} (hP : bx_p F o n K tP) {x : Int} (hx0 : 0 ≤ x) (hxK : x < (K : Int)) {y : Int} (hy0 : 0 ≤ y) (hyK : y < (K : Int)) {start : Int} (hfi : fi (n : Int) (tP ((x.toNat : Nat) : Int))) (hgi : fi (n : Int) (tP ((y.toNat : Nat) : Int))) (h0 : 0 ≤ start) (h1 : start < 2 * (n : Int)) : am_E ac_X0_follow (0, [vR o, vR (o + 2 + x.toNat), vR (o + 2 + y.toNat), vI start, vU, vU, vU], [], aq_h m s F c) (aq_Z m s F S c (fun r _ => r = some (vI (fst_ (n : Int) (tP ((x.toNat : Nat) : Int)) (tP ((y.toNat : Nat) : Int)) start)))) := by
  obtain ⟨hm, hn1, hn4, hK, hFo, hFd, hFs⟩ := hB
  obtain ⟨hPg, hPr, hPt⟩ := hP
  refine am_E.go (t2 := (1, [vR o, vR (o + 2 + x.toNat), vR (o + 2 + y.toNat), vI start, vU, vU, vU], [vI start], aq_h m s F c)) rfl rfl ?_
  refine am_E.go (t2 := (2, [vR o, vR (o + 2 + x.toNat), vR (o + 2 + y.toNat), vI start, vU, vU, vU], [vR o, vI start], aq_h m s F c)) rfl rfl ?_
  refine aq_gf (v := vI (n : Int)) rfl (by omega) hFo (by decide) rfl ?_
  show am_E _ (5, [vR o, vR (o + 2 + x.toNat), vR (o + 2 + y.toNat), vI start, vU, vU, vU], [vI (n : Int), vI start], aq_h m s F c) _
  refine ae_icmp rfl (fun (q_1 : (n : Int) ≤ start) => ?_) (fun (q_1 : start < (n : Int)) => ?_)
  · refine am_E.go (t2 := (13, [vR o, vR (o + 2 + x.toNat), vR (o + 2 + y.toNat), vI start, vU, vU, vU], [vI 0], aq_h m s F c)) rfl rfl ?_
    refine am_E.go (t2 := (15, [vR o, vR (o + 2 + x.toNat), vR (o + 2 + y.toNat), vI start, vI 0, vU, vU], [], aq_h m s F c)) rfl rfl ?_
    refine am_E.go (t2 := (16, [vR o, vR (o + 2 + x.toNat), vR (o + 2 + y.toNat), vI start, vI 0, vU, vU], [vI start], aq_h m s F c)) rfl rfl ?_
    refine am_E.go (t2 := (18, [vR o, vR (o + 2 + x.toNat), vR (o + 2 + y.toNat), vI start, vI 0, vI start, vU], [], aq_h m s F c)) rfl rfl ?_
    refine am_E.go (t2 := (19, [vR o, vR (o + 2 + x.toNat), vR (o + 2 + y.toNat), vI start, vI 0, vI start, vU], [vI 0], aq_h m s F c)) rfl rfl ?_
    refine am_E.go (t2 := (21, [vR o, vR (o + 2 + x.toNat), vR (o + 2 + y.toNat), vI start, vI 0, vI start, vI 0], [], aq_h m s F c)) rfl rfl ?_
    have e5 : fst_ (n : Int) (tP ((x.toNat : Nat) : Int)) (tP ((y.toNat : Nat) : Int)) start = ldr (n : Int) (tP ((x.toNat : Nat) : Int)) (tP ((y.toNat : Nat) : Int)) 5 false start := by unfold fst_; rw [decide_eq_false (show ¬ start < (n : Int) by omega)]
    by_cases hn : n = 1
    · subst hn
      have hx := ld_ex1 hfi hgi h0 (by omega)
      rw [decide_eq_false (show ¬ start < 1 by omega)] at hx
      exact qb_follow_l ⟨hm, hn1, hn4, hK, hFo, hFd, hFs⟩ hSs ⟨hPg, hPr, hPt⟩ hx0 hxK hy0 hyK hfi hgi 3 false start 0 c aq_sm0 h0 h1 (by omega) (by omega) hx (by rw [e5]; exact (ldr_le 3 2 false start hx).symm)
    · have hx := ld_ex (n := (n : Int)) (by omega) hfi hgi h0 h1
      rw [decide_eq_false (show ¬ start < (n : Int) by omega)] at hx
      exact qb_follow_l ⟨hm, hn1, hn4, hK, hFo, hFd, hFs⟩ hSs ⟨hPg, hPr, hPt⟩ hx0 hxK hy0 hyK hfi hgi 5 false start 0 c aq_sm0 h0 h1 (by omega) (by omega) hx e5.symm
  · refine am_E.go (t2 := (9, [vR o, vR (o + 2 + x.toNat), vR (o + 2 + y.toNat), vI start, vU, vU, vU], [vI 1], aq_h m s F c)) rfl rfl ?_
    refine am_E.go (t2 := (13, [vR o, vR (o + 2 + x.toNat), vR (o + 2 + y.toNat), vI start, vU, vU, vU], [vI 1], aq_h m s F c)) rfl rfl ?_
    refine am_E.go (t2 := (15, [vR o, vR (o + 2 + x.toNat), vR (o + 2 + y.toNat), vI start, vI 1, vU, vU], [], aq_h m s F c)) rfl rfl ?_
    refine am_E.go (t2 := (16, [vR o, vR (o + 2 + x.toNat), vR (o + 2 + y.toNat), vI start, vI 1, vU, vU], [vI start], aq_h m s F c)) rfl rfl ?_
    refine am_E.go (t2 := (18, [vR o, vR (o + 2 + x.toNat), vR (o + 2 + y.toNat), vI start, vI 1, vI start, vU], [], aq_h m s F c)) rfl rfl ?_
    refine am_E.go (t2 := (19, [vR o, vR (o + 2 + x.toNat), vR (o + 2 + y.toNat), vI start, vI 1, vI start, vU], [vI 0], aq_h m s F c)) rfl rfl ?_
    refine am_E.go (t2 := (21, [vR o, vR (o + 2 + x.toNat), vR (o + 2 + y.toNat), vI start, vI 1, vI start, vI 0], [], aq_h m s F c)) rfl rfl ?_
    have e5 : fst_ (n : Int) (tP ((x.toNat : Nat) : Int)) (tP ((y.toNat : Nat) : Int)) start = ldr (n : Int) (tP ((x.toNat : Nat) : Int)) (tP ((y.toNat : Nat) : Int)) 5 true start := by unfold fst_; rw [decide_eq_true (show start < (n : Int) by omega)]
    by_cases hn : n = 1
    · subst hn
      have hx := ld_ex1 hfi hgi h0 (by omega)
      rw [decide_eq_true (show start < 1 by omega)] at hx
      exact qb_follow_l ⟨hm, hn1, hn4, hK, hFo, hFd, hFs⟩ hSs ⟨hPg, hPr, hPt⟩ hx0 hxK hy0 hyK hfi hgi 3 true start 0 c aq_sm0 h0 h1 (by omega) (by omega) hx (by rw [e5]; exact (ldr_le 3 2 true start hx).symm)
    · have hx := ld_ex (n := (n : Int)) (by omega) hfi hgi h0 h1
      rw [decide_eq_true (show start < (n : Int) by omega)] at hx
      exact qb_follow_l ⟨hm, hn1, hn4, hK, hFo, hFd, hFs⟩ hSs ⟨hPg, hPr, hPt⟩ hx0 hxK hy0 hyK hfi hgi 5 true start 0 c aq_sm0 h0 h1 (by omega) (by omega) hx e5.symm
