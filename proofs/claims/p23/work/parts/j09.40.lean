
theorem qn_countLeaving_l {m s : Nat} {F : aq_F} {c : aq_C} {o n z : Nat} {tl : Int → Int} {th : Int → Int → Int} (hH : hv_0 m F o n z tl th) {t : Int} : ∀ (d : Nat) (x : Int) (h : Int) (h0 : 0 ≤ h) (h1 : h ≤ (z : Int)) (hd : (z : Int) - h < (d : Int)), am_E ac_X2_countLeaving (4, [vR o, vI t, vI x, vI h], [], aq_h m s F c) (aq_P m s F c aq_vi)
  | 0, x, h, h0, h1, hd => by exfalso; omega
  | d + 1, x, h, h0, h1, hd => by
    obtain ⟨hm, hn1, hn4, hz6, hFo, hFl, hFg, hFt, hFp, hFq, hFd, hFs, hht⟩ := hH
    refine am_E.go (t2 := (5, [vR o, vI t, vI x, vI h], [vI h], aq_h m s F c)) rfl rfl ?_
    refine am_E.go (t2 := (6, [vR o, vI t, vI x, vI h], [vR o, vI h], aq_h m s F c)) rfl rfl ?_
    refine aq_gf (v := vI (z : Int)) rfl (by omega) hFo (by decide) rfl ?_
    show am_E _ (9, [vR o, vI t, vI x, vI h], [vI (z : Int), vI h], aq_h m s F c) _
    refine ae_icmp rfl (fun (q_1 : (z : Int) ≤ h) => ?_) (fun (q_1 : h < (z : Int)) => ?_)
    · refine am_E.go (t2 := (37, [vR o, vI t, vI x, vI h], [vI x], aq_h m s F c)) rfl rfl ?_
      refine am_E.ret rfl rfl ?_
      exact ⟨rfl, _, rfl⟩
    · refine am_E.go (t2 := (13, [vR o, vI t, vI x, vI h], [vI x], aq_h m s F c)) rfl rfl ?_
      refine am_E.go (t2 := (14, [vR o, vI t, vI x, vI h], [vR o, vI x], aq_h m s F c)) rfl rfl ?_
      refine aq_gf (v := vR (o + 1)) rfl (by omega) hFo (by decide) rfl ?_
      show am_E _ (17, [vR o, vI t, vI x, vI h], [vR (o + 1), vI x], aq_h m s F c) _
      refine am_E.go (t2 := (18, [vR o, vI t, vI x, vI h], [vI h, vR (o + 1), vI x], aq_h m s F c)) rfl rfl ?_
      refine aq_alt (ok := fun k => k == 0) rfl rfl (by omega) hFl rfl (by omega) (by omega) ?_
      show am_E _ (19, [vR o, vI t, vI x, vI h], [vI (tl h), vI x], aq_h m s F c) _
      refine am_E.go (t2 := (20, [vR o, vI t, vI x, vI h], [vI t, vI (tl h), vI x], aq_h m s F c)) rfl rfl ?_
      refine ae_icmp rfl (fun (q_2 : (tl h) ≠ t) => ?_) (fun (q_2 : (tl h) = t) => ?_)
      · refine am_E.go (t2 := (28, [vR o, vI t, vI x, vI h], [vI 0, vI x], aq_h m s F c)) rfl rfl ?_
        refine am_E.go (t2 := (29, [vR o, vI t, vI x, vI h], [vI (am_w (x + 0))], aq_h m s F c)) rfl rfl ?_
        refine am_E.go (t2 := (30, [vR o, vI t, vI (am_w (x + 0)), vI h], [], aq_h m s F c)) rfl rfl ?_
        refine ae_iinc rfl rfl (am_ri (by omega) (by omega)) ?_
        show am_E _ (33, [vR o, vI t, vI (am_w (x + 0)), vI (h + 1)], [], aq_h m s F c) _
        refine am_E.go (t2 := (4, [vR o, vI t, vI (am_w (x + 0)), vI (h + 1)], [], aq_h m s F c)) rfl rfl ?_
        exact qn_countLeaving_l ⟨hm, hn1, hn4, hz6, hFo, hFl, hFg, hFt, hFp, hFq, hFd, hFs, hht⟩ d (am_w (x + 0)) (h + 1) (by omega) (by omega) (by omega)
      · refine am_E.go (t2 := (24, [vR o, vI t, vI x, vI h], [vI 1, vI x], aq_h m s F c)) rfl rfl ?_
        refine am_E.go (t2 := (28, [vR o, vI t, vI x, vI h], [vI 1, vI x], aq_h m s F c)) rfl rfl ?_
        refine am_E.go (t2 := (29, [vR o, vI t, vI x, vI h], [vI (am_w (x + 1))], aq_h m s F c)) rfl rfl ?_
        refine am_E.go (t2 := (30, [vR o, vI t, vI (am_w (x + 1)), vI h], [], aq_h m s F c)) rfl rfl ?_
        refine ae_iinc rfl rfl (am_ri (by omega) (by omega)) ?_
        show am_E _ (33, [vR o, vI t, vI (am_w (x + 1)), vI (h + 1)], [], aq_h m s F c) _
        refine am_E.go (t2 := (4, [vR o, vI t, vI (am_w (x + 1)), vI (h + 1)], [], aq_h m s F c)) rfl rfl ?_
        exact qn_countLeaving_l ⟨hm, hn1, hn4, hz6, hFo, hFl, hFg, hFt, hFp, hFq, hFd, hFs, hht⟩ d (am_w (x + 1)) (h + 1) (by omega) (by omega) (by omega)

theorem qn_X2_countLeaving {m s : Nat} {F : aq_F} {c : aq_C} {o n z : Nat} {tl : Int → Int} {th : Int → Int → Int} (hH : hv_0 m F o n z tl th) {t : Int} : am_E ac_X2_countLeaving (0, [vR o, vI t, vU, vU], [], aq_h m s F c) (aq_P m s F c aq_vi) := by
  obtain ⟨hm, hn1, hn4, hz6, hFo, hFl, hFg, hFt, hFp, hFq, hFd, hFs, hht⟩ := hH
  refine am_E.go (t2 := (1, [vR o, vI t, vU, vU], [vI 0], aq_h m s F c)) rfl rfl ?_
  refine am_E.go (t2 := (2, [vR o, vI t, vI 0, vU], [], aq_h m s F c)) rfl rfl ?_
  refine am_E.go (t2 := (3, [vR o, vI t, vI 0, vU], [vI 0], aq_h m s F c)) rfl rfl ?_
  refine am_E.go (t2 := (4, [vR o, vI t, vI 0, vI 0], [], aq_h m s F c)) rfl rfl ?_
  exact qn_countLeaving_l ⟨hm, hn1, hn4, hz6, hFo, hFl, hFg, hFt, hFp, hFq, hFd, hFs, hht⟩ 7 0 0 (by omega) (by omega) (by omega)

theorem qn_find_l {m s : Nat} {F : aq_F} {c : aq_C} {o n z : Nat} {tl : Int → Int} {th : Int → Int → Int} (hH : hv_0 m F o n z tl th) {t i : Int} : ∀ (d : Nat) (x : Int) (h : Int) (h0 : 0 ≤ h) (h1 : h ≤ (z : Int)) (hd : (z : Int) - h < (d : Int)), am_E ac_X2_find (5, [vR o, vI t, vI i, vI x, vI h], [], aq_h m s F c) (aq_P m s F c (fun r => ∃ v, r = some (vI v) ∧ (-1 ≤ v ∧ v < (z : Int))))
  | 0, x, h, h0, h1, hd => by exfalso; omega
  | d + 1, x, h, h0, h1, hd => by
    obtain ⟨hm, hn1, hn4, hz6, hFo, hFl, hFg, hFt, hFp, hFq, hFd, hFs, hht⟩ := hH
    refine am_E.go (t2 := (7, [vR o, vI t, vI i, vI x, vI h], [vI h], aq_h m s F c)) rfl rfl ?_
    refine am_E.go (t2 := (8, [vR o, vI t, vI i, vI x, vI h], [vR o, vI h], aq_h m s F c)) rfl rfl ?_
    refine aq_gf (v := vI (z : Int)) rfl (by omega) hFo (by decide) rfl ?_
    show am_E _ (11, [vR o, vI t, vI i, vI x, vI h], [vI (z : Int), vI h], aq_h m s F c) _
    refine ae_icmp rfl (fun (q_1 : (z : Int) ≤ h) => ?_) (fun (q_1 : h < (z : Int)) => ?_)
    · refine am_E.go (t2 := (43, [vR o, vI t, vI i, vI x, vI h], [vI (-1)], aq_h m s F c)) rfl rfl ?_
      refine am_E.ret rfl rfl ?_
      exact ⟨rfl, _, rfl, by omega⟩
    · refine am_E.go (t2 := (15, [vR o, vI t, vI i, vI x, vI h], [vR o], aq_h m s F c)) rfl rfl ?_
      refine aq_gf (v := vR (o + 1)) rfl (by omega) hFo (by decide) rfl ?_
      show am_E _ (18, [vR o, vI t, vI i, vI x, vI h], [vR (o + 1)], aq_h m s F c) _
      refine am_E.go (t2 := (20, [vR o, vI t, vI i, vI x, vI h], [vI h, vR (o + 1)], aq_h m s F c)) rfl rfl ?_
      refine aq_alt (ok := fun k => k == 0) rfl rfl (by omega) hFl rfl (by omega) (by omega) ?_
      show am_E _ (21, [vR o, vI t, vI i, vI x, vI h], [vI (tl h)], aq_h m s F c) _
      refine am_E.go (t2 := (22, [vR o, vI t, vI i, vI x, vI h], [vI t, vI (tl h)], aq_h m s F c)) rfl rfl ?_
      refine ae_icmp rfl (fun (q_2 : (tl h) ≠ t) => ?_) (fun (q_2 : (tl h) = t) => ?_)
      · refine ae_iinc rfl rfl (am_ri (by omega) (by omega)) ?_
        show am_E _ (39, [vR o, vI t, vI i, vI x, vI (h + 1)], [], aq_h m s F c) _
        refine am_E.go (t2 := (5, [vR o, vI t, vI i, vI x, vI (h + 1)], [], aq_h m s F c)) rfl rfl ?_
        exact qn_find_l ⟨hm, hn1, hn4, hz6, hFo, hFl, hFg, hFt, hFp, hFq, hFd, hFs, hht⟩ d x (h + 1) (by omega) (by omega) (by omega)
      · refine am_E.go (t2 := (26, [vR o, vI t, vI i, vI x, vI h], [vI x], aq_h m s F c)) rfl rfl ?_
        refine am_E.go (t2 := (27, [vR o, vI t, vI i, vI x, vI h], [vI i, vI x], aq_h m s F c)) rfl rfl ?_
        refine ae_icmp rfl (fun (q_3 : x ≠ i) => ?_) (fun (q_3 : x = i) => ?_)
        · refine am_E.go (t2 := (36, [vR o, vI t, vI i, vI (am_w (x + 1)), vI h], [], aq_h m s F c)) rfl rfl ?_
          refine ae_iinc rfl rfl (am_ri (by omega) (by omega)) ?_
          show am_E _ (39, [vR o, vI t, vI i, vI (am_w (x + 1)), vI (h + 1)], [], aq_h m s F c) _
          refine am_E.go (t2 := (5, [vR o, vI t, vI i, vI (am_w (x + 1)), vI (h + 1)], [], aq_h m s F c)) rfl rfl ?_
          exact qn_find_l ⟨hm, hn1, hn4, hz6, hFo, hFl, hFg, hFt, hFp, hFq, hFd, hFs, hht⟩ d (am_w (x + 1)) (h + 1) (by omega) (by omega) (by omega)
        · refine am_E.go (t2 := (32, [vR o, vI t, vI i, vI x, vI h], [vI h], aq_h m s F c)) rfl rfl ?_
          refine am_E.ret rfl rfl ?_
          exact ⟨rfl, _, rfl, by omega⟩

theorem qn_X2_find {m s : Nat} {F : aq_F} {c : aq_C} {o n z : Nat} {tl : Int → Int} {th : Int → Int → Int} (hH : hv_0 m F o n z tl th) {t i : Int} : am_E ac_X2_find (0, [vR o, vI t, vI i, vU, vU], [], aq_h m s F c) (aq_P m s F c (fun r => ∃ v, r = some (vI v) ∧ (-1 ≤ v ∧ v < (z : Int)))) := by
  obtain ⟨hm, hn1, hn4, hz6, hFo, hFl, hFg, hFt, hFp, hFq, hFd, hFs, hht⟩ := hH
  refine am_E.go (t2 := (1, [vR o, vI t, vI i, vU, vU], [vI 0], aq_h m s F c)) rfl rfl ?_
  refine am_E.go (t2 := (2, [vR o, vI t, vI i, vI 0, vU], [], aq_h m s F c)) rfl rfl ?_
  refine am_E.go (t2 := (3, [vR o, vI t, vI i, vI 0, vU], [vI 0], aq_h m s F c)) rfl rfl ?_
  refine am_E.go (t2 := (5, [vR o, vI t, vI i, vI 0, vI 0], [], aq_h m s F c)) rfl rfl ?_
  exact qn_find_l ⟨hm, hn1, hn4, hz6, hFo, hFl, hFg, hFt, hFp, hFq, hFd, hFs, hht⟩ 7 0 0 (by omega) (by omega) (by omega)

theorem qn_leadsOut_l {m s : Nat} {F : aq_F} {c0 : aq_C} {S : Nat → Prop} {o n z : Nat} {tl : Int → Int} {th : Int → Int → Int} (hH : hv_0 m F o n z tl th) (hSs : S (o + 17)) (hSt : ∀ j, j < 6 → S (o + 3 + j)) {x y : Int} (hx0 : 0 ≤ x) (hx6 : x < 6) (hy0 : 0 ≤ y) (hy6 : y < 6) {p : Int} : ∀ (d : Nat) (a : Int) (k : Int) (v6 : am_V) (c : aq_C) (hs : aq_sm S c0 c) (h0 : 0 ≤ a) (h1 : a < (n : Int)) (h2 : 0 ≤ k) (h3 : k ≤ (n : Int)) (hd : (n : Int) - k < (d : Int)), am_E ac_X2_leadsOut (6, [vR o, vR (o + 10 + x.toNat), vR (o + 10 + y.toNat), vI p, vI a, vI k, v6], [], aq_h m s F c) (aq_Z m s F S c0 (fun r _ => aq_vb r))
  | 0, a, k, v6, c, hs, h0, h1, h2, h3, hd => by exfalso; omega
  | d + 1, a, k, v6, c, hs, h0, h1, h2, h3, hd => by
    obtain ⟨hm, hn1, hn4, hz6, hFo, hFl, hFg, hFt, hFp, hFq, hFd, hFs, hht⟩ := hH
    refine am_E.go (t2 := (8, [vR o, vR (o + 10 + x.toNat), vR (o + 10 + y.toNat), vI p, vI a, vI k, v6], [vI k], aq_h m s F c)) rfl rfl ?_
    refine am_E.go (t2 := (9, [vR o, vR (o + 10 + x.toNat), vR (o + 10 + y.toNat), vI p, vI a, vI k, v6], [vR o, vI k], aq_h m s F c)) rfl rfl ?_
    refine aq_gf (v := vI (n : Int)) rfl (by omega) hFo (by decide) rfl ?_
    show am_E _ (12, [vR o, vR (o + 10 + x.toNat), vR (o + 10 + y.toNat), vI p, vI a, vI k, v6], [vI (n : Int), vI k], aq_h m s F c) _
    refine ae_icmp rfl (fun (q_1 : (n : Int) ≤ k) => ?_) (fun (q_1 : k < (n : Int)) => ?_)
    · refine am_E.go (t2 := (72, [vR o, vR (o + 10 + x.toNat), vR (o + 10 + y.toNat), vI p, vI a, vI k, v6], [vI 0], aq_h m s F c)) rfl rfl ?_
      refine am_E.ret rfl rfl ?_
      exact ⟨_, rfl, hs, _, rfl, by omega⟩
    · refine am_E.go (t2 := (16, [vR o, vR (o + 10 + x.toNat), vR (o + 10 + y.toNat), vI p, vI a, vI k, v6], [vR o], aq_h m s F c)) rfl rfl ?_
      refine aq_gf (v := vR (o + 17)) rfl (by omega) hFo (by decide) rfl ?_
      show am_E _ (19, [vR o, vR (o + 10 + x.toNat), vR (o + 10 + y.toNat), vI p, vI a, vI k, v6], [vR (o + 17)], aq_h m s F c) _
      refine am_E.go (t2 := (21, [vR o, vR (o + 10 + x.toNat), vR (o + 10 + y.toNat), vI p, vI a, vI k, v6], [vI a, vR (o + 17)], aq_h m s F c)) rfl rfl ?_
      refine am_E.go (t2 := (22, [vR o, vR (o + 10 + x.toNat), vR (o + 10 + y.toNat), vI p, vI a, vI k, v6], [vI 1, vI a, vR (o + 17)], aq_h m s F c)) rfl rfl ?_
      refine aq_as (kd := 1) rfl rfl (by omega) hFs (by omega) (by omega) rfl rfl ?_
      show am_E _ (23, [vR o, vR (o + 10 + x.toNat), vR (o + 10 + y.toNat), vI p, vI a, vI k, v6], [], aq_h m s F (aq_u c (o + 17) a 1)) _
      generalize hdc_2 : aq_u c (o + 17) a 1 = c_2
      have sc_2 := aq_smu hs hdc_2 hSs
      refine am_E.go (t2 := (24, [vR o, vR (o + 10 + x.toNat), vR (o + 10 + y.toNat), vI p, vI a, vI k, v6], [vR (o + 10 + y.toNat)], aq_h m s F c_2)) rfl rfl ?_
      refine am_E.go (t2 := (26, [vR o, vR (o + 10 + x.toNat), vR (o + 10 + y.toNat), vI p, vI a, vI k, v6], [vI a, vR (o + 10 + y.toNat)], aq_h m s F c_2)) rfl rfl ?_
      refine aq_alt (ok := fun k => k == 0) rfl rfl (by omega) (hFq _ (by omega)) rfl (by omega) (by omega) ?_
      show am_E _ (27, [vR o, vR (o + 10 + x.toNat), vR (o + 10 + y.toNat), vI p, vI a, vI k, v6], [vI (th ((y.toNat : Nat) : Int) a)], aq_h m s F c_2) _
      have f_3 := hht ((y.toNat : Nat) : Int) a (by omega) (by omega) (by omega) (by omega)
      refine am_E.go (t2 := (29, [vR o, vR (o + 10 + x.toNat), vR (o + 10 + y.toNat), vI p, vI a, vI k, vI (th ((y.toNat : Nat) : Int) a)], [], aq_h m s F c_2)) rfl rfl ?_
      refine am_E.go (t2 := (31, [vR o, vR (o + 10 + x.toNat), vR (o + 10 + y.toNat), vI p, vI a, vI k, vI (th ((y.toNat : Nat) : Int) a)], [vI (th ((y.toNat : Nat) : Int) a)], aq_h m s F c_2)) rfl rfl ?_
      refine am_E.go (t2 := (32, [vR o, vR (o + 10 + x.toNat), vR (o + 10 + y.toNat), vI p, vI a, vI k, vI (th ((y.toNat : Nat) : Int) a)], [vR o, vI (th ((y.toNat : Nat) : Int) a)], aq_h m s F c_2)) rfl rfl ?_
      refine aq_gf (v := vI (n : Int)) rfl (by omega) hFo (by decide) rfl ?_
      show am_E _ (35, [vR o, vR (o + 10 + x.toNat), vR (o + 10 + y.toNat), vI p, vI a, vI k, vI (th ((y.toNat : Nat) : Int) a)], [vI (n : Int), vI (th ((y.toNat : Nat) : Int) a)], aq_h m s F c_2) _
      refine ae_icmp rfl (fun (q_4 : (th ((y.toNat : Nat) : Int) a) ≠ (n : Int)) => ?_) (fun (q_4 : (th ((y.toNat : Nat) : Int) a) = (n : Int)) => ?_)
      · refine am_E.go (t2 := (41, [vR o, vR (o + 10 + x.toNat), vR (o + 10 + y.toNat), vI p, vI a, vI k, vI (th ((y.toNat : Nat) : Int) a)], [vR o], aq_h m s F c_2)) rfl rfl ?_
        refine aq_gf (v := vR (o + 17)) rfl (by omega) hFo (by decide) rfl ?_
        show am_E _ (44, [vR o, vR (o + 10 + x.toNat), vR (o + 10 + y.toNat), vI p, vI a, vI k, vI (th ((y.toNat : Nat) : Int) a)], [vR (o + 17)], aq_h m s F c_2) _
        refine am_E.go (t2 := (46, [vR o, vR (o + 10 + x.toNat), vR (o + 10 + y.toNat), vI p, vI a, vI k, vI (th ((y.toNat : Nat) : Int) a)], [vI (th ((y.toNat : Nat) : Int) a), vR (o + 17)], aq_h m s F c_2)) rfl rfl ?_
        refine am_E.go (t2 := (47, [vR o, vR (o + 10 + x.toNat), vR (o + 10 + y.toNat), vI p, vI a, vI k, vI (th ((y.toNat : Nat) : Int) a)], [vI 1, vI (th ((y.toNat : Nat) : Int) a), vR (o + 17)], aq_h m s F c_2)) rfl rfl ?_
        refine aq_as (kd := 1) rfl rfl (by omega) hFs (by omega) (by omega) rfl rfl ?_
        show am_E _ (48, [vR o, vR (o + 10 + x.toNat), vR (o + 10 + y.toNat), vI p, vI a, vI k, vI (th ((y.toNat : Nat) : Int) a)], [], aq_h m s F (aq_u c_2 (o + 17) (th ((y.toNat : Nat) : Int) a) 1)) _
        generalize hdc_5 : aq_u c_2 (o + 17) (th ((y.toNat : Nat) : Int) a) 1 = c_5
        have sc_5 := aq_smu sc_2 hdc_5 hSs
        refine am_E.go (t2 := (49, [vR o, vR (o + 10 + x.toNat), vR (o + 10 + y.toNat), vI p, vI a, vI k, vI (th ((y.toNat : Nat) : Int) a)], [vR (o + 10 + x.toNat)], aq_h m s F c_5)) rfl rfl ?_
        refine am_E.go (t2 := (51, [vR o, vR (o + 10 + x.toNat), vR (o + 10 + y.toNat), vI p, vI a, vI k, vI (th ((y.toNat : Nat) : Int) a)], [vI (th ((y.toNat : Nat) : Int) a), vR (o + 10 + x.toNat)], aq_h m s F c_5)) rfl rfl ?_
        refine aq_alt (ok := fun k => k == 0) rfl rfl (by omega) (hFq _ (by omega)) rfl (by omega) (by omega) ?_
        show am_E _ (52, [vR o, vR (o + 10 + x.toNat), vR (o + 10 + y.toNat), vI p, vI a, vI k, vI (th ((y.toNat : Nat) : Int) a)], [vI (th ((x.toNat : Nat) : Int) (th ((y.toNat : Nat) : Int) a))], aq_h m s F c_5) _
        have f_6 := hht ((x.toNat : Nat) : Int) (th ((y.toNat : Nat) : Int) a) (by omega) (by omega) (by omega) (by omega)
        refine am_E.go (t2 := (54, [vR o, vR (o + 10 + x.toNat), vR (o + 10 + y.toNat), vI p, vI (th ((x.toNat : Nat) : Int) (th ((y.toNat : Nat) : Int) a)), vI k, vI (th ((y.toNat : Nat) : Int) a)], [], aq_h m s F c_5)) rfl rfl ?_
        refine am_E.go (t2 := (56, [vR o, vR (o + 10 + x.toNat), vR (o + 10 + y.toNat), vI p, vI (th ((x.toNat : Nat) : Int) (th ((y.toNat : Nat) : Int) a)), vI k, vI (th ((y.toNat : Nat) : Int) a)], [vI (th ((x.toNat : Nat) : Int) (th ((y.toNat : Nat) : Int) a))], aq_h m s F c_5)) rfl rfl ?_
        refine am_E.go (t2 := (57, [vR o, vR (o + 10 + x.toNat), vR (o + 10 + y.toNat), vI p, vI (th ((x.toNat : Nat) : Int) (th ((y.toNat : Nat) : Int) a)), vI k, vI (th ((y.toNat : Nat) : Int) a)], [vR o, vI (th ((x.toNat : Nat) : Int) (th ((y.toNat : Nat) : Int) a))], aq_h m s F c_5)) rfl rfl ?_
        refine aq_gf (v := vI (n : Int)) rfl (by omega) hFo (by decide) rfl ?_
        show am_E _ (60, [vR o, vR (o + 10 + x.toNat), vR (o + 10 + y.toNat), vI p, vI (th ((x.toNat : Nat) : Int) (th ((y.toNat : Nat) : Int) a)), vI k, vI (th ((y.toNat : Nat) : Int) a)], [vI (n : Int), vI (th ((x.toNat : Nat) : Int) (th ((y.toNat : Nat) : Int) a))], aq_h m s F c_5) _
        refine ae_icmp rfl (fun (q_7 : (th ((x.toNat : Nat) : Int) (th ((y.toNat : Nat) : Int) a)) ≠ (n : Int)) => ?_) (fun (q_7 : (th ((x.toNat : Nat) : Int) (th ((y.toNat : Nat) : Int) a)) = (n : Int)) => ?_)
        · refine ae_iinc rfl rfl (am_ri (by omega) (by omega)) ?_
          show am_E _ (68, [vR o, vR (o + 10 + x.toNat), vR (o + 10 + y.toNat), vI p, vI (th ((x.toNat : Nat) : Int) (th ((y.toNat : Nat) : Int) a)), vI (k + 1), vI (th ((y.toNat : Nat) : Int) a)], [], aq_h m s F c_5) _
          refine am_E.go (t2 := (6, [vR o, vR (o + 10 + x.toNat), vR (o + 10 + y.toNat), vI p, vI (th ((x.toNat : Nat) : Int) (th ((y.toNat : Nat) : Int) a)), vI (k + 1), vI (th ((y.toNat : Nat) : Int) a)], [], aq_h m s F c_5)) rfl rfl ?_
          exact qn_leadsOut_l ⟨hm, hn1, hn4, hz6, hFo, hFl, hFg, hFt, hFp, hFq, hFd, hFs, hht⟩ hSs hSt hx0 hx6 hy0 hy6 d (th ((x.toNat : Nat) : Int) (th ((y.toNat : Nat) : Int) a)) (k + 1) (vI (th ((y.toNat : Nat) : Int) a)) c_5 sc_5 (by omega) (by omega) (by omega) (by omega) (by omega)
        · refine am_E.go (t2 := (64, [vR o, vR (o + 10 + x.toNat), vR (o + 10 + y.toNat), vI p, vI (th ((x.toNat : Nat) : Int) (th ((y.toNat : Nat) : Int) a)), vI k, vI (th ((y.toNat : Nat) : Int) a)], [vI 0], aq_h m s F c_5)) rfl rfl ?_
          refine am_E.ret rfl rfl ?_
          exact ⟨_, rfl, sc_5, _, rfl, by omega⟩
      · refine am_E.go (t2 := (39, [vR o, vR (o + 10 + x.toNat), vR (o + 10 + y.toNat), vI p, vI a, vI k, vI (th ((y.toNat : Nat) : Int) a)], [vI 1], aq_h m s F c_2)) rfl rfl ?_
        refine am_E.ret rfl rfl ?_
        exact ⟨_, rfl, sc_2, _, rfl, by omega⟩

theorem qn_X2_leadsOut {m s : Nat} {F : aq_F} {c : aq_C} {S : Nat → Prop} {o n z : Nat} {tl : Int → Int} {th : Int → Int → Int} (hH : hv_0 m F o n z tl th) (hSs : S (o + 17)) (hSt : ∀ j, j < 6 → S (o + 3 + j)) {x y : Int} (hx0 : 0 ≤ x) (hx6 : x < 6) (hy0 : 0 ≤ y) (hy6 : y < 6) {p : Int} (hp0 : 0 ≤ p) (hpn : p < (n : Int)) : am_E ac_X2_leadsOut (0, [vR o, vR (o + 10 + x.toNat), vR (o + 10 + y.toNat), vI p, vU, vU, vU], [], aq_h m s F c) (aq_Z m s F S c (fun r _ => aq_vb r)) := by
  obtain ⟨hm, hn1, hn4, hz6, hFo, hFl, hFg, hFt, hFp, hFq, hFd, hFs, hht⟩ := hH
  refine am_E.go (t2 := (1, [vR o, vR (o + 10 + x.toNat), vR (o + 10 + y.toNat), vI p, vU, vU, vU], [vI p], aq_h m s F c)) rfl rfl ?_
  refine am_E.go (t2 := (3, [vR o, vR (o + 10 + x.toNat), vR (o + 10 + y.toNat), vI p, vI p, vU, vU], [], aq_h m s F c)) rfl rfl ?_
  refine am_E.go (t2 := (4, [vR o, vR (o + 10 + x.toNat), vR (o + 10 + y.toNat), vI p, vI p, vU, vU], [vI 0], aq_h m s F c)) rfl rfl ?_
  refine am_E.go (t2 := (6, [vR o, vR (o + 10 + x.toNat), vR (o + 10 + y.toNat), vI p, vI p, vI 0, vU], [], aq_h m s F c)) rfl rfl ?_
  exact qn_leadsOut_l ⟨hm, hn1, hn4, hz6, hFo, hFl, hFg, hFt, hFp, hFq, hFd, hFs, hht⟩ hSs hSt hx0 hx6 hy0 hy6 7 p 0 (vU) c aq_sm0 (by omega) (by omega) (by omega) (by omega) (by omega)

theorem qn_goRound_l {m s : Nat} {F : aq_F} {c0 : aq_C} {S : Nat → Prop} {o n z : Nat} {tl : Int → Int} {th : Int → Int → Int} (hH : hv_0 m F o n z tl th) (hSs : S (o + 17)) (hSt : ∀ j, j < 6 → S (o + 3 + j)) {x y : Int} (hx0 : 0 ≤ x) (hx6 : x < 6) (hy0 : 0 ≤ y) (hy6 : y < 6) {p : Int} : ∀ (d : Nat) (a : Int) (k : Int) (v6 : am_V) (c : aq_C) (hs : aq_sm S c0 c) (h0 : 0 ≤ a) (h1 : a ≤ (n : Int)) (h2 : 0 ≤ k) (h3 : k ≤ (n : Int)) (hd : (n : Int) - k < (d : Int)), am_E ac_X2_goRound (6, [vR o, vR (o + 10 + x.toNat), vR (o + 10 + y.toNat), vI p, vI a, vI k, v6], [], aq_h m s F c) (aq_Z m s F S c0 (fun r _ => r = none))
  | 0, a, k, v6, c, hs, h0, h1, h2, h3, hd => by exfalso; omega
  | d + 1, a, k, v6, c, hs, h0, h1, h2, h3, hd => by
    obtain ⟨hm, hn1, hn4, hz6, hFo, hFl, hFg, hFt, hFp, hFq, hFd, hFs, hht⟩ := hH
    refine am_E.go (t2 := (8, [vR o, vR (o + 10 + x.toNat), vR (o + 10 + y.toNat), vI p, vI a, vI k, v6], [vI k], aq_h m s F c)) rfl rfl ?_
    refine am_E.go (t2 := (9, [vR o, vR (o + 10 + x.toNat), vR (o + 10 + y.toNat), vI p, vI a, vI k, v6], [vR o, vI k], aq_h m s F c)) rfl rfl ?_
    refine aq_gf (v := vI (n : Int)) rfl (by omega) hFo (by decide) rfl ?_
    show am_E _ (12, [vR o, vR (o + 10 + x.toNat), vR (o + 10 + y.toNat), vI p, vI a, vI k, v6], [vI (n : Int), vI k], aq_h m s F c) _
    refine ae_icmp rfl (fun (q_1 : (n : Int) ≤ k) => ?_) (fun (q_1 : k < (n : Int)) => ?_)
    · refine am_E.ret rfl rfl ?_
      exact ⟨_, rfl, hs, rfl⟩
    · refine am_E.go (t2 := (17, [vR o, vR (o + 10 + x.toNat), vR (o + 10 + y.toNat), vI p, vI a, vI k, v6], [vI a], aq_h m s F c)) rfl rfl ?_
      refine am_E.go (t2 := (18, [vR o, vR (o + 10 + x.toNat), vR (o + 10 + y.toNat), vI p, vI a, vI k, v6], [vR o, vI a], aq_h m s F c)) rfl rfl ?_
      refine aq_gf (v := vI (n : Int)) rfl (by omega) hFo (by decide) rfl ?_
      show am_E _ (21, [vR o, vR (o + 10 + x.toNat), vR (o + 10 + y.toNat), vI p, vI a, vI k, v6], [vI (n : Int), vI a], aq_h m s F c) _
      refine ae_icmp rfl (fun (q_2 : (n : Int) ≤ a) => ?_) (fun (q_2 : a < (n : Int)) => ?_)
      · refine am_E.ret rfl rfl ?_
        exact ⟨_, rfl, hs, rfl⟩
      · refine am_E.go (t2 := (25, [vR o, vR (o + 10 + x.toNat), vR (o + 10 + y.toNat), vI p, vI a, vI k, v6], [vR o], aq_h m s F c)) rfl rfl ?_
        refine aq_gf (v := vR (o + 17)) rfl (by omega) hFo (by decide) rfl ?_
        show am_E _ (28, [vR o, vR (o + 10 + x.toNat), vR (o + 10 + y.toNat), vI p, vI a, vI k, v6], [vR (o + 17)], aq_h m s F c) _
        refine am_E.go (t2 := (30, [vR o, vR (o + 10 + x.toNat), vR (o + 10 + y.toNat), vI p, vI a, vI k, v6], [vI a, vR (o + 17)], aq_h m s F c)) rfl rfl ?_
        refine aq_al (ok := fun k => k == 1) (v := vI (c (o + 17) a)) rfl rfl (by omega) hFs rfl (by omega) (by omega) rfl ?_
        show am_E _ (31, [vR o, vR (o + 10 + x.toNat), vR (o + 10 + y.toNat), vI p, vI a, vI k, v6], [vI (c (o + 17) a)], aq_h m s F c) _
        refine ae_if0 rfl (fun (q_3 : (c (o + 17) a) ≠ 0) => ?_) (fun (q_3 : (c (o + 17) a) = 0) => ?_)
        · refine am_E.ret rfl rfl ?_
          exact ⟨_, rfl, hs, rfl⟩
        · refine am_E.go (t2 := (35, [vR o, vR (o + 10 + x.toNat), vR (o + 10 + y.toNat), vI p, vI a, vI k, v6], [vR o], aq_h m s F c)) rfl rfl ?_
          refine aq_gf (v := vR (o + 17)) rfl (by omega) hFo (by decide) rfl ?_
          show am_E _ (38, [vR o, vR (o + 10 + x.toNat), vR (o + 10 + y.toNat), vI p, vI a, vI k, v6], [vR (o + 17)], aq_h m s F c) _
          refine am_E.go (t2 := (40, [vR o, vR (o + 10 + x.toNat), vR (o + 10 + y.toNat), vI p, vI a, vI k, v6], [vI a, vR (o + 17)], aq_h m s F c)) rfl rfl ?_
          refine am_E.go (t2 := (41, [vR o, vR (o + 10 + x.toNat), vR (o + 10 + y.toNat), vI p, vI a, vI k, v6], [vI 1, vI a, vR (o + 17)], aq_h m s F c)) rfl rfl ?_
          refine aq_as (kd := 1) rfl rfl (by omega) hFs (by omega) (by omega) rfl rfl ?_
          show am_E _ (42, [vR o, vR (o + 10 + x.toNat), vR (o + 10 + y.toNat), vI p, vI a, vI k, v6], [], aq_h m s F (aq_u c (o + 17) a 1)) _
          generalize hdc_4 : aq_u c (o + 17) a 1 = c_4
          have sc_4 := aq_smu hs hdc_4 hSs
          refine am_E.go (t2 := (43, [vR o, vR (o + 10 + x.toNat), vR (o + 10 + y.toNat), vI p, vI a, vI k, v6], [vR (o + 10 + y.toNat)], aq_h m s F c_4)) rfl rfl ?_
          refine am_E.go (t2 := (45, [vR o, vR (o + 10 + x.toNat), vR (o + 10 + y.toNat), vI p, vI a, vI k, v6], [vI a, vR (o + 10 + y.toNat)], aq_h m s F c_4)) rfl rfl ?_
          refine aq_alt (ok := fun k => k == 0) rfl rfl (by omega) (hFq _ (by omega)) rfl (by omega) (by omega) ?_
          show am_E _ (46, [vR o, vR (o + 10 + x.toNat), vR (o + 10 + y.toNat), vI p, vI a, vI k, v6], [vI (th ((y.toNat : Nat) : Int) a)], aq_h m s F c_4) _
          have f_5 := hht ((y.toNat : Nat) : Int) a (by omega) (by omega) (by omega) (by omega)
          refine am_E.go (t2 := (48, [vR o, vR (o + 10 + x.toNat), vR (o + 10 + y.toNat), vI p, vI a, vI k, vI (th ((y.toNat : Nat) : Int) a)], [], aq_h m s F c_4)) rfl rfl ?_
          refine am_E.go (t2 := (50, [vR o, vR (o + 10 + x.toNat), vR (o + 10 + y.toNat), vI p, vI a, vI k, vI (th ((y.toNat : Nat) : Int) a)], [vI (th ((y.toNat : Nat) : Int) a)], aq_h m s F c_4)) rfl rfl ?_
          refine am_E.go (t2 := (51, [vR o, vR (o + 10 + x.toNat), vR (o + 10 + y.toNat), vI p, vI a, vI k, vI (th ((y.toNat : Nat) : Int) a)], [vR o, vI (th ((y.toNat : Nat) : Int) a)], aq_h m s F c_4)) rfl rfl ?_
          refine aq_gf (v := vI (n : Int)) rfl (by omega) hFo (by decide) rfl ?_
          show am_E _ (54, [vR o, vR (o + 10 + x.toNat), vR (o + 10 + y.toNat), vI p, vI a, vI k, vI (th ((y.toNat : Nat) : Int) a)], [vI (n : Int), vI (th ((y.toNat : Nat) : Int) a)], aq_h m s F c_4) _
          refine ae_icmp rfl (fun (q_6 : (n : Int) ≤ (th ((y.toNat : Nat) : Int) a)) => ?_) (fun (q_6 : (th ((y.toNat : Nat) : Int) a) < (n : Int)) => ?_)
          · refine ae_iinc rfl rfl (am_ri (by omega) (by omega)) ?_
            show am_E _ (74, [vR o, vR (o + 10 + x.toNat), vR (o + 10 + y.toNat), vI p, vI a, vI (k + 1), vI (th ((y.toNat : Nat) : Int) a)], [], aq_h m s F c_4) _
            refine am_E.go (t2 := (6, [vR o, vR (o + 10 + x.toNat), vR (o + 10 + y.toNat), vI p, vI a, vI (k + 1), vI (th ((y.toNat : Nat) : Int) a)], [], aq_h m s F c_4)) rfl rfl ?_
            exact qn_goRound_l ⟨hm, hn1, hn4, hz6, hFo, hFl, hFg, hFt, hFp, hFq, hFd, hFs, hht⟩ hSs hSt hx0 hx6 hy0 hy6 d a (k + 1) (vI (th ((y.toNat : Nat) : Int) a)) c_4 sc_4 (by omega) (by omega) (by omega) (by omega) (by omega)
          · refine am_E.go (t2 := (58, [vR o, vR (o + 10 + x.toNat), vR (o + 10 + y.toNat), vI p, vI a, vI k, vI (th ((y.toNat : Nat) : Int) a)], [vR o], aq_h m s F c_4)) rfl rfl ?_
            refine aq_gf (v := vR (o + 17)) rfl (by omega) hFo (by decide) rfl ?_
            show am_E _ (61, [vR o, vR (o + 10 + x.toNat), vR (o + 10 + y.toNat), vI p, vI a, vI k, vI (th ((y.toNat : Nat) : Int) a)], [vR (o + 17)], aq_h m s F c_4) _
            refine am_E.go (t2 := (63, [vR o, vR (o + 10 + x.toNat), vR (o + 10 + y.toNat), vI p, vI a, vI k, vI (th ((y.toNat : Nat) : Int) a)], [vI (th ((y.toNat : Nat) : Int) a), vR (o + 17)], aq_h m s F c_4)) rfl rfl ?_
            refine am_E.go (t2 := (64, [vR o, vR (o + 10 + x.toNat), vR (o + 10 + y.toNat), vI p, vI a, vI k, vI (th ((y.toNat : Nat) : Int) a)], [vI 1, vI (th ((y.toNat : Nat) : Int) a), vR (o + 17)], aq_h m s F c_4)) rfl rfl ?_
            refine aq_as (kd := 1) rfl rfl (by omega) hFs (by omega) (by omega) rfl rfl ?_
            show am_E _ (65, [vR o, vR (o + 10 + x.toNat), vR (o + 10 + y.toNat), vI p, vI a, vI k, vI (th ((y.toNat : Nat) : Int) a)], [], aq_h m s F (aq_u c_4 (o + 17) (th ((y.toNat : Nat) : Int) a) 1)) _
            generalize hdc_7 : aq_u c_4 (o + 17) (th ((y.toNat : Nat) : Int) a) 1 = c_7
            have sc_7 := aq_smu sc_4 hdc_7 hSs
            refine am_E.go (t2 := (66, [vR o, vR (o + 10 + x.toNat), vR (o + 10 + y.toNat), vI p, vI a, vI k, vI (th ((y.toNat : Nat) : Int) a)], [vR (o + 10 + x.toNat)], aq_h m s F c_7)) rfl rfl ?_
            refine am_E.go (t2 := (68, [vR o, vR (o + 10 + x.toNat), vR (o + 10 + y.toNat), vI p, vI a, vI k, vI (th ((y.toNat : Nat) : Int) a)], [vI (th ((y.toNat : Nat) : Int) a), vR (o + 10 + x.toNat)], aq_h m s F c_7)) rfl rfl ?_
            refine aq_alt (ok := fun k => k == 0) rfl rfl (by omega) (hFq _ (by omega)) rfl (by omega) (by omega) ?_
            show am_E _ (69, [vR o, vR (o + 10 + x.toNat), vR (o + 10 + y.toNat), vI p, vI a, vI k, vI (th ((y.toNat : Nat) : Int) a)], [vI (th ((x.toNat : Nat) : Int) (th ((y.toNat : Nat) : Int) a))], aq_h m s F c_7) _
            have f_8 := hht ((x.toNat : Nat) : Int) (th ((y.toNat : Nat) : Int) a) (by omega) (by omega) (by omega) (by omega)
            refine am_E.go (t2 := (71, [vR o, vR (o + 10 + x.toNat), vR (o + 10 + y.toNat), vI p, vI (th ((x.toNat : Nat) : Int) (th ((y.toNat : Nat) : Int) a)), vI k, vI (th ((y.toNat : Nat) : Int) a)], [], aq_h m s F c_7)) rfl rfl ?_
            refine ae_iinc rfl rfl (am_ri (by omega) (by omega)) ?_
            show am_E _ (74, [vR o, vR (o + 10 + x.toNat), vR (o + 10 + y.toNat), vI p, vI (th ((x.toNat : Nat) : Int) (th ((y.toNat : Nat) : Int) a)), vI (k + 1), vI (th ((y.toNat : Nat) : Int) a)], [], aq_h m s F c_7) _
            refine am_E.go (t2 := (6, [vR o, vR (o + 10 + x.toNat), vR (o + 10 + y.toNat), vI p, vI (th ((x.toNat : Nat) : Int) (th ((y.toNat : Nat) : Int) a)), vI (k + 1), vI (th ((y.toNat : Nat) : Int) a)], [], aq_h m s F c_7)) rfl rfl ?_
            exact qn_goRound_l ⟨hm, hn1, hn4, hz6, hFo, hFl, hFg, hFt, hFp, hFq, hFd, hFs, hht⟩ hSs hSt hx0 hx6 hy0 hy6 d (th ((x.toNat : Nat) : Int) (th ((y.toNat : Nat) : Int) a)) (k + 1) (vI (th ((y.toNat : Nat) : Int) a)) c_7 sc_7 (by omega) (by omega) (by omega) (by omega) (by omega)

theorem qn_X2_goRound {m s : Nat} {F : aq_F} {c : aq_C} {S : Nat → Prop} {o n z : Nat} {tl : Int → Int} {th : Int → Int → Int} (hH : hv_0 m F o n z tl th) (hSs : S (o + 17)) (hSt : ∀ j, j < 6 → S (o + 3 + j)) {x y : Int} (hx0 : 0 ≤ x) (hx6 : x < 6) (hy0 : 0 ≤ y) (hy6 : y < 6) {p : Int} (hp0 : 0 ≤ p) (hpn : p < (n : Int)) : am_E ac_X2_goRound (0, [vR o, vR (o + 10 + x.toNat), vR (o + 10 + y.toNat), vI p, vU, vU, vU], [], aq_h m s F c) (aq_Z m s F S c (fun r _ => r = none)) := by
  obtain ⟨hm, hn1, hn4, hz6, hFo, hFl, hFg, hFt, hFp, hFq, hFd, hFs, hht⟩ := hH
  refine am_E.go (t2 := (1, [vR o, vR (o + 10 + x.toNat), vR (o + 10 + y.toNat), vI p, vU, vU, vU], [vI p], aq_h m s F c)) rfl rfl ?_
  refine am_E.go (t2 := (3, [vR o, vR (o + 10 + x.toNat), vR (o + 10 + y.toNat), vI p, vI p, vU, vU], [], aq_h m s F c)) rfl rfl ?_
  refine am_E.go (t2 := (4, [vR o, vR (o + 10 + x.toNat), vR (o + 10 + y.toNat), vI p, vI p, vU, vU], [vI 0], aq_h m s F c)) rfl rfl ?_
  refine am_E.go (t2 := (6, [vR o, vR (o + 10 + x.toNat), vR (o + 10 + y.toNat), vI p, vI p, vI 0, vU], [], aq_h m s F c)) rfl rfl ?_
  exact qn_goRound_l ⟨hm, hn1, hn4, hz6, hFo, hFl, hFg, hFt, hFp, hFq, hFd, hFs, hht⟩ hSs hSt hx0 hx6 hy0 hy6 7 p 0 (vU) c aq_sm0 (by omega) (by omega) (by omega) (by omega) (by omega)

theorem qn_lay_3 {m s : Nat} {F : aq_F} {c0 : aq_C} {S : Nat → Prop} {o n z : Nat} {tl : Int → Int} {th : Int → Int → Int} (hH : hv_0 m F o n z tl th) (hSs : S (o + 17)) (hSt : ∀ j, j < 6 → S (o + 3 + j)) {x y : Int} (hx0 : 0 ≤ x) (hx6 : x < 6) (hy0 : 0 ≤ y) (hy6 : y < 6) : ∀ (d : Nat) (f : Int) (p : Int) (c : aq_C) (hs : aq_sm S c0 c) (h0 : 0 ≤ p) (h1 : p ≤ (n : Int)) (h2 : 0 ≤ f) (h3 : f ≤ p) (hd : (n : Int) - p < (d : Int)), am_E ac_X2_lay (82, [vR o, vI x, vI y, vI f, vI p], [], aq_h m s F c) (aq_Z m s F S c0 (fun r _ => ∃ v, r = some (vI v) ∧ (-4 ≤ v ∧ v ≤ 4)))
  | 0, f, p, c, hs, h0, h1, h2, h3, hd => by exfalso; omega
  | d + 1, f, p, c, hs, h0, h1, h2, h3, hd => by
    obtain ⟨hm, hn1, hn4, hz6, hFo, hFl, hFg, hFt, hFp, hFq, hFd, hFs, hht⟩ := hH
    refine am_E.go (t2 := (84, [vR o, vI x, vI y, vI f, vI p], [vI p], aq_h m s F c)) rfl rfl ?_
    refine am_E.go (t2 := (85, [vR o, vI x, vI y, vI f, vI p], [vR o, vI p], aq_h m s F c)) rfl rfl ?_
    refine aq_gf (v := vI (n : Int)) rfl (by omega) hFo (by decide) rfl ?_
    show am_E _ (88, [vR o, vI x, vI y, vI f, vI p], [vI (n : Int), vI p], aq_h m s F c) _
    refine ae_icmp rfl (fun (q_1 : (n : Int) ≤ p) => ?_) (fun (q_1 : p < (n : Int)) => ?_)
    · refine am_E.go (t2 := (129, [vR o, vI x, vI y, vI f, vI p], [vI f], aq_h m s F c)) rfl rfl ?_
      refine am_E.ret rfl rfl ?_
      exact ⟨_, rfl, hs, _, rfl, by omega⟩
    · refine am_E.go (t2 := (92, [vR o, vI x, vI y, vI f, vI p], [vR o], aq_h m s F c)) rfl rfl ?_
      refine aq_gf (v := vR (o + 17)) rfl (by omega) hFo (by decide) rfl ?_
      show am_E _ (95, [vR o, vI x, vI y, vI f, vI p], [vR (o + 17)], aq_h m s F c) _
      refine am_E.go (t2 := (97, [vR o, vI x, vI y, vI f, vI p], [vI p, vR (o + 17)], aq_h m s F c)) rfl rfl ?_
      refine aq_al (ok := fun k => k == 1) (v := vI (c (o + 17) p)) rfl rfl (by omega) hFs rfl (by omega) (by omega) rfl ?_
      show am_E _ (98, [vR o, vI x, vI y, vI f, vI p], [vI (c (o + 17) p)], aq_h m s F c) _
      refine ae_if0 rfl (fun (q_2 : (c (o + 17) p) ≠ 0) => ?_) (fun (q_2 : (c (o + 17) p) = 0) => ?_)
      · refine ae_iinc rfl rfl (am_ri (by omega) (by omega)) ?_
        show am_E _ (125, [vR o, vI x, vI y, vI f, vI (p + 1)], [], aq_h m s F c) _
        refine am_E.go (t2 := (82, [vR o, vI x, vI y, vI f, vI (p + 1)], [], aq_h m s F c)) rfl rfl ?_
        exact qn_lay_3 ⟨hm, hn1, hn4, hz6, hFo, hFl, hFg, hFt, hFp, hFq, hFd, hFs, hht⟩ hSs hSt hx0 hx6 hy0 hy6 d f (p + 1) c hs (by omega) (by omega) (by omega) (by omega) (by omega)
      · refine ae_iinc rfl rfl (am_ri (by omega) (by omega)) ?_
        show am_E _ (104, [vR o, vI x, vI y, vI (f + 1), vI p], [], aq_h m s F c) _
        refine am_E.go (t2 := (105, [vR o, vI x, vI y, vI (f + 1), vI p], [vR o], aq_h m s F c)) rfl rfl ?_
        refine am_E.go (t2 := (106, [vR o, vI x, vI y, vI (f + 1), vI p], [vR o, vR o], aq_h m s F c)) rfl rfl ?_
        refine aq_gf (v := vR (o + 9)) rfl (by omega) hFo (by decide) rfl ?_
        show am_E _ (109, [vR o, vI x, vI y, vI (f + 1), vI p], [vR (o + 9), vR o], aq_h m s F c) _
        refine am_E.go (t2 := (110, [vR o, vI x, vI y, vI (f + 1), vI p], [vI x, vR (o + 9), vR o], aq_h m s F c)) rfl rfl ?_
        refine aq_al (ok := fun k => decide (3 ≤ k) && decide (k < 7)) (v := vR (o + 10 + x.toNat)) rfl rfl (by omega) hFp rfl (by omega) (by omega) (aq_gi (by omega)) ?_
        show am_E _ (111, [vR o, vI x, vI y, vI (f + 1), vI p], [vR (o + 10 + x.toNat), vR o], aq_h m s F c) _
        refine am_E.go (t2 := (112, [vR o, vI x, vI y, vI (f + 1), vI p], [vR o, vR (o + 10 + x.toNat), vR o], aq_h m s F c)) rfl rfl ?_
        refine aq_gf (v := vR (o + 9)) rfl (by omega) hFo (by decide) rfl ?_
        show am_E _ (115, [vR o, vI x, vI y, vI (f + 1), vI p], [vR (o + 9), vR (o + 10 + x.toNat), vR o], aq_h m s F c) _
        refine am_E.go (t2 := (116, [vR o, vI x, vI y, vI (f + 1), vI p], [vI y, vR (o + 9), vR (o + 10 + x.toNat), vR o], aq_h m s F c)) rfl rfl ?_
        refine aq_al (ok := fun k => decide (3 ≤ k) && decide (k < 7)) (v := vR (o + 10 + y.toNat)) rfl rfl (by omega) hFp rfl (by omega) (by omega) (aq_gi (by omega)) ?_
        show am_E _ (117, [vR o, vI x, vI y, vI (f + 1), vI p], [vR (o + 10 + y.toNat), vR (o + 10 + x.toNat), vR o], aq_h m s F c) _
        refine am_E.go (t2 := (119, [vR o, vI x, vI y, vI (f + 1), vI p], [vI p, vR (o + 10 + y.toNat), vR (o + 10 + x.toNat), vR o], aq_h m s F c)) rfl rfl ?_
        refine aq_callv (y := 4) (as2 := [vR (o + 10 + x.toNat), vR (o + 10 + y.toNat), vI p]) (rest := []) rfl rfl (by decide) (Nat.le_of_ble_eq_true rfl) rfl rfl (Nat.le_of_ble_eq_true rfl) (by omega) hFo rfl (Nat.le_of_ble_eq_true rfl) (qn_X2_goRound ⟨hm, hn1, hn4, hz6, hFo, hFl, hFg, hFt, hFp, hFq, hFd, hFs, hht⟩ hSs hSt (x := x) (y := y) (by omega) (by omega) (by omega) (by omega) (by omega) (by omega)) ?_
        rintro r5 h5 ⟨c_3, rfl, sc_3, rfl⟩
        show am_E _ (122, [vR o, vI x, vI y, vI (f + 1), vI p], [], aq_h m s F c_3) _
        refine ae_iinc rfl rfl (am_ri (by omega) (by omega)) ?_
        show am_E _ (125, [vR o, vI x, vI y, vI (f + 1), vI (p + 1)], [], aq_h m s F c_3) _
        refine am_E.go (t2 := (82, [vR o, vI x, vI y, vI (f + 1), vI (p + 1)], [], aq_h m s F c_3)) rfl rfl ?_
        exact qn_lay_3 ⟨hm, hn1, hn4, hz6, hFo, hFl, hFg, hFt, hFp, hFq, hFd, hFs, hht⟩ hSs hSt hx0 hx6 hy0 hy6 d (f + 1) (p + 1) c_3 (aq_smt hs sc_3) (by omega) (by omega) (by omega) (by omega) (by omega)

theorem qn_lay_2 {m s : Nat} {F : aq_F} {c0 : aq_C} {S : Nat → Prop} {o n z : Nat} {tl : Int → Int} {th : Int → Int → Int} (hH : hv_0 m F o n z tl th) (hSs : S (o + 17)) (hSt : ∀ j, j < 6 → S (o + 3 + j)) {x y : Int} (hx0 : 0 ≤ x) (hx6 : x < 6) (hy0 : 0 ≤ y) (hy6 : y < 6) : ∀ (d : Nat) (p : Int) (v4 : am_V) (c : aq_C) (hs : aq_sm S c0 c) (h0 : 0 ≤ p) (h1 : p ≤ (n : Int)) (hd : (n : Int) - p < (d : Int)), am_E ac_X2_lay (25, [vR o, vI x, vI y, vI p, v4], [], aq_h m s F c) (aq_Z m s F S c0 (fun r _ => ∃ v, r = some (vI v) ∧ (-4 ≤ v ∧ v ≤ 4)))
  | 0, p, v4, c, hs, h0, h1, hd => by exfalso; omega
  | d + 1, p, v4, c, hs, h0, h1, hd => by
    obtain ⟨hm, hn1, hn4, hz6, hFo, hFl, hFg, hFt, hFp, hFq, hFd, hFs, hht⟩ := hH
    refine am_E.go (t2 := (26, [vR o, vI x, vI y, vI p, v4], [vI p], aq_h m s F c)) rfl rfl ?_
    refine am_E.go (t2 := (27, [vR o, vI x, vI y, vI p, v4], [vR o, vI p], aq_h m s F c)) rfl rfl ?_
    refine aq_gf (v := vI (n : Int)) rfl (by omega) hFo (by decide) rfl ?_
    show am_E _ (30, [vR o, vI x, vI y, vI p, v4], [vI (n : Int), vI p], aq_h m s F c) _
    refine ae_icmp rfl (fun (q_1 : (n : Int) ≤ p) => ?_) (fun (q_1 : p < (n : Int)) => ?_)
    · refine am_E.go (t2 := (78, [vR o, vI x, vI y, vI p, v4], [vI 0], aq_h m s F c)) rfl rfl ?_
      refine am_E.go (t2 := (79, [vR o, vI x, vI y, vI 0, v4], [], aq_h m s F c)) rfl rfl ?_
      refine am_E.go (t2 := (80, [vR o, vI x, vI y, vI 0, v4], [vI 0], aq_h m s F c)) rfl rfl ?_
      refine am_E.go (t2 := (82, [vR o, vI x, vI y, vI 0, vI 0], [], aq_h m s F c)) rfl rfl ?_
      exact qn_lay_3 ⟨hm, hn1, hn4, hz6, hFo, hFl, hFg, hFt, hFp, hFq, hFd, hFs, hht⟩ hSs hSt hx0 hx6 hy0 hy6 7 0 0 c hs (by omega) (by omega) (by omega) (by omega) (by omega)
    · refine am_E.go (t2 := (34, [vR o, vI x, vI y, vI p, v4], [vR o], aq_h m s F c)) rfl rfl ?_
      refine aq_gf (v := vR (o + 9)) rfl (by omega) hFo (by decide) rfl ?_
      show am_E _ (37, [vR o, vI x, vI y, vI p, v4], [vR (o + 9)], aq_h m s F c) _
      refine am_E.go (t2 := (38, [vR o, vI x, vI y, vI p, v4], [vI x, vR (o + 9)], aq_h m s F c)) rfl rfl ?_
      refine aq_al (ok := fun k => decide (3 ≤ k) && decide (k < 7)) (v := vR (o + 10 + x.toNat)) rfl rfl (by omega) hFp rfl (by omega) (by omega) (aq_gi (by omega)) ?_
      show am_E _ (39, [vR o, vI x, vI y, vI p, v4], [vR (o + 10 + x.toNat)], aq_h m s F c) _
      refine am_E.go (t2 := (40, [vR o, vI x, vI y, vI p, v4], [vI p, vR (o + 10 + x.toNat)], aq_h m s F c)) rfl rfl ?_
      refine aq_alt (ok := fun k => k == 0) rfl rfl (by omega) (hFq _ (by omega)) rfl (by omega) (by omega) ?_
      show am_E _ (41, [vR o, vI x, vI y, vI p, v4], [vI (th ((x.toNat : Nat) : Int) p)], aq_h m s F c) _
      have f_2 := hht ((x.toNat : Nat) : Int) p (by omega) (by omega) (by omega) (by omega)
      refine am_E.go (t2 := (42, [vR o, vI x, vI y, vI p, v4], [vR o, vI (th ((x.toNat : Nat) : Int) p)], aq_h m s F c)) rfl rfl ?_
      refine aq_gf (v := vI (n : Int)) rfl (by omega) hFo (by decide) rfl ?_
      show am_E _ (45, [vR o, vI x, vI y, vI p, v4], [vI (n : Int), vI (th ((x.toNat : Nat) : Int) p)], aq_h m s F c) _
      refine ae_icmp rfl (fun (q_3 : (th ((x.toNat : Nat) : Int) p) ≠ (n : Int)) => ?_) (fun (q_3 : (th ((x.toNat : Nat) : Int) p) = (n : Int)) => ?_)
      · refine ae_iinc rfl rfl (am_ri (by omega) (by omega)) ?_
        show am_E _ (74, [vR o, vI x, vI y, vI (p + 1), v4], [], aq_h m s F c) _
        refine am_E.go (t2 := (25, [vR o, vI x, vI y, vI (p + 1), v4], [], aq_h m s F c)) rfl rfl ?_
        exact qn_lay_2 ⟨hm, hn1, hn4, hz6, hFo, hFl, hFg, hFt, hFp, hFq, hFd, hFs, hht⟩ hSs hSt hx0 hx6 hy0 hy6 d (p + 1) (v4) c hs (by omega) (by omega) (by omega)
      · refine am_E.go (t2 := (49, [vR o, vI x, vI y, vI p, v4], [vR o], aq_h m s F c)) rfl rfl ?_
        refine am_E.go (t2 := (50, [vR o, vI x, vI y, vI p, v4], [vR o, vR o], aq_h m s F c)) rfl rfl ?_
        refine aq_gf (v := vR (o + 9)) rfl (by omega) hFo (by decide) rfl ?_
        show am_E _ (53, [vR o, vI x, vI y, vI p, v4], [vR (o + 9), vR o], aq_h m s F c) _
        refine am_E.go (t2 := (54, [vR o, vI x, vI y, vI p, v4], [vI x, vR (o + 9), vR o], aq_h m s F c)) rfl rfl ?_
        refine aq_al (ok := fun k => decide (3 ≤ k) && decide (k < 7)) (v := vR (o + 10 + x.toNat)) rfl rfl (by omega) hFp rfl (by omega) (by omega) (aq_gi (by omega)) ?_
        show am_E _ (55, [vR o, vI x, vI y, vI p, v4], [vR (o + 10 + x.toNat), vR o], aq_h m s F c) _
        refine am_E.go (t2 := (56, [vR o, vI x, vI y, vI p, v4], [vR o, vR (o + 10 + x.toNat), vR o], aq_h m s F c)) rfl rfl ?_
        refine aq_gf (v := vR (o + 9)) rfl (by omega) hFo (by decide) rfl ?_
        show am_E _ (59, [vR o, vI x, vI y, vI p, v4], [vR (o + 9), vR (o + 10 + x.toNat), vR o], aq_h m s F c) _
        refine am_E.go (t2 := (60, [vR o, vI x, vI y, vI p, v4], [vI y, vR (o + 9), vR (o + 10 + x.toNat), vR o], aq_h m s F c)) rfl rfl ?_
        refine aq_al (ok := fun k => decide (3 ≤ k) && decide (k < 7)) (v := vR (o + 10 + y.toNat)) rfl rfl (by omega) hFp rfl (by omega) (by omega) (aq_gi (by omega)) ?_
        show am_E _ (61, [vR o, vI x, vI y, vI p, v4], [vR (o + 10 + y.toNat), vR (o + 10 + x.toNat), vR o], aq_h m s F c) _
        refine am_E.go (t2 := (62, [vR o, vI x, vI y, vI p, v4], [vI p, vR (o + 10 + y.toNat), vR (o + 10 + x.toNat), vR o], aq_h m s F c)) rfl rfl ?_
        refine aq_callv (y := 4) (as2 := [vR (o + 10 + x.toNat), vR (o + 10 + y.toNat), vI p]) (rest := []) rfl rfl (by decide) (Nat.le_of_ble_eq_true rfl) rfl rfl (Nat.le_of_ble_eq_true rfl) (by omega) hFo rfl (Nat.le_of_ble_eq_true rfl) (qn_X2_leadsOut ⟨hm, hn1, hn4, hz6, hFo, hFl, hFg, hFt, hFp, hFq, hFd, hFs, hht⟩ hSs hSt (x := x) (y := y) (by omega) (by omega) (by omega) (by omega) (by omega) (by omega)) ?_
        rintro r5 h5 ⟨c_4, rfl, sc_4, v_5, rfl, hv_5⟩
        show am_E _ (65, [vR o, vI x, vI y, vI p, v4], [vI v_5], aq_h m s F c_4) _
        refine ae_if0 rfl (fun (q_6 : v_5 ≠ 0) => ?_) (fun (q_6 : v_5 = 0) => ?_)
        · refine ae_iinc rfl rfl (am_ri (by omega) (by omega)) ?_
          show am_E _ (74, [vR o, vI x, vI y, vI (p + 1), v4], [], aq_h m s F c_4) _
          refine am_E.go (t2 := (25, [vR o, vI x, vI y, vI (p + 1), v4], [], aq_h m s F c_4)) rfl rfl ?_
          exact qn_lay_2 ⟨hm, hn1, hn4, hz6, hFo, hFl, hFg, hFt, hFp, hFq, hFd, hFs, hht⟩ hSs hSt hx0 hx6 hy0 hy6 d (p + 1) (v4) c_4 (aq_smt hs sc_4) (by omega) (by omega) (by omega)
        · refine am_E.go (t2 := (70, [vR o, vI x, vI y, vI p, v4], [vI (-4)], aq_h m s F c_4)) rfl rfl ?_
          refine am_E.ret rfl rfl ?_
          exact ⟨_, rfl, (aq_smt hs sc_4), _, rfl, by omega⟩

theorem qn_lay_1 {m s : Nat} {F : aq_F} {c0 : aq_C} {S : Nat → Prop} {o n z : Nat} {tl : Int → Int} {th : Int → Int → Int} (hH : hv_0 m F o n z tl th) (hSs : S (o + 17)) (hSt : ∀ j, j < 6 → S (o + 3 + j)) {x y : Int} (hx0 : 0 ≤ x) (hx6 : x < 6) (hy0 : 0 ≤ y) (hy6 : y < 6) : ∀ (d : Nat) (p : Int) (v4 : am_V) (c : aq_C) (hs : aq_sm S c0 c) (h0 : 0 ≤ p) (h1 : p ≤ (n : Int)) (hd : (n : Int) - p < (d : Int)), am_E ac_X2_lay (2, [vR o, vI x, vI y, vI p, v4], [], aq_h m s F c) (aq_Z m s F S c0 (fun r _ => ∃ v, r = some (vI v) ∧ (-4 ≤ v ∧ v ≤ 4)))
  | 0, p, v4, c, hs, h0, h1, hd => by exfalso; omega
  | d + 1, p, v4, c, hs, h0, h1, hd => by
    obtain ⟨hm, hn1, hn4, hz6, hFo, hFl, hFg, hFt, hFp, hFq, hFd, hFs, hht⟩ := hH
    refine am_E.go (t2 := (3, [vR o, vI x, vI y, vI p, v4], [vI p], aq_h m s F c)) rfl rfl ?_
    refine am_E.go (t2 := (4, [vR o, vI x, vI y, vI p, v4], [vR o, vI p], aq_h m s F c)) rfl rfl ?_
    refine aq_gf (v := vI (n : Int)) rfl (by omega) hFo (by decide) rfl ?_
    show am_E _ (7, [vR o, vI x, vI y, vI p, v4], [vI (n : Int), vI p], aq_h m s F c) _
    refine ae_icmp rfl (fun (q_1 : (n : Int) ≤ p) => ?_) (fun (q_1 : p < (n : Int)) => ?_)
    · refine am_E.go (t2 := (24, [vR o, vI x, vI y, vI p, v4], [vI 0], aq_h m s F c)) rfl rfl ?_
      refine am_E.go (t2 := (25, [vR o, vI x, vI y, vI 0, v4], [], aq_h m s F c)) rfl rfl ?_
      exact qn_lay_2 ⟨hm, hn1, hn4, hz6, hFo, hFl, hFg, hFt, hFp, hFq, hFd, hFs, hht⟩ hSs hSt hx0 hx6 hy0 hy6 7 0 (v4) c hs (by omega) (by omega) (by omega)
    · refine am_E.go (t2 := (11, [vR o, vI x, vI y, vI p, v4], [vR o], aq_h m s F c)) rfl rfl ?_
      refine aq_gf (v := vR (o + 17)) rfl (by omega) hFo (by decide) rfl ?_
      show am_E _ (14, [vR o, vI x, vI y, vI p, v4], [vR (o + 17)], aq_h m s F c) _
      refine am_E.go (t2 := (15, [vR o, vI x, vI y, vI p, v4], [vI p, vR (o + 17)], aq_h m s F c)) rfl rfl ?_
      refine am_E.go (t2 := (16, [vR o, vI x, vI y, vI p, v4], [vI 0, vI p, vR (o + 17)], aq_h m s F c)) rfl rfl ?_
      refine aq_as (kd := 1) rfl rfl (by omega) hFs (by omega) (by omega) rfl rfl ?_
      show am_E _ (17, [vR o, vI x, vI y, vI p, v4], [], aq_h m s F (aq_u c (o + 17) p 0)) _
      generalize hdc_2 : aq_u c (o + 17) p 0 = c_2
      have sc_2 := aq_smu hs hdc_2 hSs
      refine ae_iinc rfl rfl (am_ri (by omega) (by omega)) ?_
      show am_E _ (20, [vR o, vI x, vI y, vI (p + 1), v4], [], aq_h m s F c_2) _
      refine am_E.go (t2 := (2, [vR o, vI x, vI y, vI (p + 1), v4], [], aq_h m s F c_2)) rfl rfl ?_
      exact qn_lay_1 ⟨hm, hn1, hn4, hz6, hFo, hFl, hFg, hFt, hFp, hFq, hFd, hFs, hht⟩ hSs hSt hx0 hx6 hy0 hy6 d (p + 1) (v4) c_2 sc_2 (by omega) (by omega) (by omega)

theorem qn_X2_lay {m s : Nat} {F : aq_F} {c : aq_C} {S : Nat → Prop} {o n z : Nat} {tl : Int → Int} {th : Int → Int → Int} (hH : hv_0 m F o n z tl th) (hSs : S (o + 17)) (hSt : ∀ j, j < 6 → S (o + 3 + j)) {x y : Int} (hx0 : 0 ≤ x) (hx6 : x < 6) (hy0 : 0 ≤ y) (hy6 : y < 6) : am_E ac_X2_lay (0, [vR o, vI x, vI y, vU, vU], [], aq_h m s F c) (aq_Z m s F S c (fun r _ => ∃ v, r = some (vI v) ∧ (-4 ≤ v ∧ v ≤ 4))) := by
  obtain ⟨hm, hn1, hn4, hz6, hFo, hFl, hFg, hFt, hFp, hFq, hFd, hFs, hht⟩ := hH
  refine am_E.go (t2 := (1, [vR o, vI x, vI y, vU, vU], [vI 0], aq_h m s F c)) rfl rfl ?_
  refine am_E.go (t2 := (2, [vR o, vI x, vI y, vI 0, vU], [], aq_h m s F c)) rfl rfl ?_
  exact qn_lay_1 ⟨hm, hn1, hn4, hz6, hFo, hFl, hFg, hFt, hFp, hFq, hFd, hFs, hht⟩ hSs hSt hx0 hx6 hy0 hy6 7 0 (vU) c aq_sm0 (by omega) (by omega) (by omega)

theorem qn_raise_l {m s : Nat} {F : aq_F} {c : aq_C} {v e p : Int} (hp : p ≠ 0) (he : e ≤ 4) : ∀ (d : Nat) (x : Int) (i : Int) (h0 : 0 ≤ i) (h1 : i ≤ 4) (hd : max 0 (e - i) < (d : Int)), am_E ac_X2_raise (7, [vI v, vI e, vI p, vI x, vI i], [], aq_h m s F c) (aq_P m s F c aq_vi)
  | 0, x, i, h0, h1, hd => by exfalso; omega
  | d + 1, x, i, h0, h1, hd => by
    refine am_E.go (t2 := (9, [vI v, vI e, vI p, vI x, vI i], [vI i], aq_h m s F c)) rfl rfl ?_
    refine am_E.go (t2 := (10, [vI v, vI e, vI p, vI x, vI i], [vI e, vI i], aq_h m s F c)) rfl rfl ?_
    refine ae_icmp rfl (fun (q_1 : e ≤ i) => ?_) (fun (q_1 : i < e) => ?_)
    · refine am_E.go (t2 := (26, [vI v, vI e, vI p, vI x, vI i], [vI x], aq_h m s F c)) rfl rfl ?_
      refine am_E.ret rfl rfl ?_
      exact ⟨rfl, _, rfl⟩
    · refine am_E.go (t2 := (14, [vI v, vI e, vI p, vI x, vI i], [vI x], aq_h m s F c)) rfl rfl ?_
      refine am_E.go (t2 := (15, [vI v, vI e, vI p, vI x, vI i], [vI v, vI x], aq_h m s F c)) rfl rfl ?_
      refine am_E.go (t2 := (16, [vI v, vI e, vI p, vI x, vI i], [vI (am_w (x * v))], aq_h m s F c)) rfl rfl ?_
      refine am_E.go (t2 := (17, [vI v, vI e, vI p, vI x, vI i], [vI p, vI (am_w (x * v))], aq_h m s F c)) rfl rfl ?_
      refine ae_bin (z := (am_w (x * v)).tmod p) rfl rfl (am_rem_s hp) ?_
      show am_E _ (18, [vI v, vI e, vI p, vI x, vI i], [vI ((am_w (x * v)).tmod p)], aq_h m s F c) _
      refine am_E.go (t2 := (19, [vI v, vI e, vI p, vI ((am_w (x * v)).tmod p), vI i], [], aq_h m s F c)) rfl rfl ?_
      refine ae_iinc rfl rfl (am_ri (by omega) (by omega)) ?_
      show am_E _ (22, [vI v, vI e, vI p, vI ((am_w (x * v)).tmod p), vI (i + 1)], [], aq_h m s F c) _
      refine am_E.go (t2 := (7, [vI v, vI e, vI p, vI ((am_w (x * v)).tmod p), vI (i + 1)], [], aq_h m s F c)) rfl rfl ?_
      exact qn_raise_l hp he d ((am_w (x * v)).tmod p) (i + 1) (by omega) (by omega) (by omega)

theorem qn_X2_raise {m s : Nat} {F : aq_F} {c : aq_C} {v e p : Int} (hp : p ≠ 0) (he : e ≤ 4) : am_E ac_X2_raise (0, [vI v, vI e, vI p, vU, vU], [], aq_h m s F c) (aq_P m s F c aq_vi) := by
  refine am_E.go (t2 := (1, [vI v, vI e, vI p, vU, vU], [vI 1], aq_h m s F c)) rfl rfl ?_
  refine am_E.go (t2 := (2, [vI v, vI e, vI p, vU, vU], [vI p, vI 1], aq_h m s F c)) rfl rfl ?_
  refine ae_bin (z := (1 : Int).tmod p) rfl rfl (am_rem_s hp) ?_
  show am_E _ (3, [vI v, vI e, vI p, vU, vU], [vI ((1 : Int).tmod p)], aq_h m s F c) _
  refine am_E.go (t2 := (4, [vI v, vI e, vI p, vI ((1 : Int).tmod p), vU], [], aq_h m s F c)) rfl rfl ?_
  refine am_E.go (t2 := (5, [vI v, vI e, vI p, vI ((1 : Int).tmod p), vU], [vI 0], aq_h m s F c)) rfl rfl ?_
  refine am_E.go (t2 := (7, [vI v, vI e, vI p, vI ((1 : Int).tmod p), vI 0], [], aq_h m s F c)) rfl rfl ?_
  exact qn_raise_l hp he 6 ((1 : Int).tmod p) 0 (by omega) (by omega) (by omega)

theorem qn_fillRow_l {m s : Nat} {F : aq_F} {c0 : aq_C} {S : Nat → Prop} {o n z : Nat} {tl : Int → Int} {th : Int → Int → Int} (hH : hv_0 m F o n z tl th) (hSs : S (o + 17)) (hSt : ∀ j, j < 6 → S (o + 3 + j)) {k x v p : Int} (hk0 : 0 ≤ k) (hk6 : k < 6) (hx0 : 0 ≤ x) (hxz : x < (z : Int)) (hp : p ≠ 0) : ∀ (d : Nat) (q : Int) (y : Int) (v7 : am_V) (c : aq_C) (hs : aq_sm S c0 c) (h0 : 0 ≤ q) (h1 : q ≤ y) (h2 : y ≤ (z : Int)) (hd : (z : Int) - y < (d : Int)), am_E ac_X2_fillRow (6, [vR o, vR (o + 3 + k.toNat), vI x, vI v, vI p, vI q, vI y, v7], [], aq_h m s F c) (aq_Z m s F S c0 (fun r _ => r = none))
  | 0, q, y, v7, c, hs, h0, h1, h2, hd => by exfalso; omega
  | d + 1, q, y, v7, c, hs, h0, h1, h2, hd => by
    obtain ⟨hm, hn1, hn4, hz6, hFo, hFl, hFg, hFt, hFp, hFq, hFd, hFs, hht⟩ := hH
    refine am_E.go (t2 := (8, [vR o, vR (o + 3 + k.toNat), vI x, vI v, vI p, vI q, vI y, v7], [vI y], aq_h m s F c)) rfl rfl ?_
    refine am_E.go (t2 := (9, [vR o, vR (o + 3 + k.toNat), vI x, vI v, vI p, vI q, vI y, v7], [vR o, vI y], aq_h m s F c)) rfl rfl ?_
    refine aq_gf (v := vI (z : Int)) rfl (by omega) hFo (by decide) rfl ?_
    show am_E _ (12, [vR o, vR (o + 3 + k.toNat), vI x, vI v, vI p, vI q, vI y, v7], [vI (z : Int), vI y], aq_h m s F c) _
    refine ae_icmp rfl (fun (q_1 : (z : Int) ≤ y) => ?_) (fun (q_1 : y < (z : Int)) => ?_)
    · refine am_E.ret rfl rfl ?_
      exact ⟨_, rfl, hs, rfl⟩
    · refine am_E.go (t2 := (16, [vR o, vR (o + 3 + k.toNat), vI x, vI v, vI p, vI q, vI y, v7], [vR o], aq_h m s F c)) rfl rfl ?_
      refine aq_gf (v := vR (o + 1)) rfl (by omega) hFo (by decide) rfl ?_
      show am_E _ (19, [vR o, vR (o + 3 + k.toNat), vI x, vI v, vI p, vI q, vI y, v7], [vR (o + 1)], aq_h m s F c) _
      refine am_E.go (t2 := (21, [vR o, vR (o + 3 + k.toNat), vI x, vI v, vI p, vI q, vI y, v7], [vI y, vR (o + 1)], aq_h m s F c)) rfl rfl ?_
      refine aq_alt (ok := fun k => k == 0) rfl rfl (by omega) hFl rfl (by omega) (by omega) ?_
      show am_E _ (22, [vR o, vR (o + 3 + k.toNat), vI x, vI v, vI p, vI q, vI y, v7], [vI (tl y)], aq_h m s F c) _
      refine am_E.go (t2 := (23, [vR o, vR (o + 3 + k.toNat), vI x, vI v, vI p, vI q, vI y, v7], [vR o, vI (tl y)], aq_h m s F c)) rfl rfl ?_
      refine aq_gf (v := vR (o + 1)) rfl (by omega) hFo (by decide) rfl ?_
      show am_E _ (26, [vR o, vR (o + 3 + k.toNat), vI x, vI v, vI p, vI q, vI y, v7], [vR (o + 1), vI (tl y)], aq_h m s F c) _
      refine am_E.go (t2 := (27, [vR o, vR (o + 3 + k.toNat), vI x, vI v, vI p, vI q, vI y, v7], [vI x, vR (o + 1), vI (tl y)], aq_h m s F c)) rfl rfl ?_
      refine aq_alt (ok := fun k => k == 0) rfl rfl (by omega) hFl rfl (by omega) (by omega) ?_
      show am_E _ (28, [vR o, vR (o + 3 + k.toNat), vI x, vI v, vI p, vI q, vI y, v7], [vI (tl x), vI (tl y)], aq_h m s F c) _
      refine ae_icmp rfl (fun (q_2 : (tl y) ≠ (tl x)) => ?_) (fun (q_2 : (tl y) = (tl x)) => ?_)
      · refine ae_iinc rfl rfl (am_ri (by omega) (by omega)) ?_
        show am_E _ (69, [vR o, vR (o + 3 + k.toNat), vI x, vI v, vI p, vI q, vI (y + 1), v7], [], aq_h m s F c) _
        refine am_E.go (t2 := (6, [vR o, vR (o + 3 + k.toNat), vI x, vI v, vI p, vI q, vI (y + 1), v7], [], aq_h m s F c)) rfl rfl ?_
        exact qn_fillRow_l ⟨hm, hn1, hn4, hz6, hFo, hFl, hFg, hFt, hFp, hFq, hFd, hFs, hht⟩ hSs hSt hk0 hk6 hx0 hxz hp d q (y + 1) (v7) c hs (by omega) (by omega) (by omega) (by omega)
      · refine am_E.go (t2 := (32, [vR o, vR (o + 3 + k.toNat), vI x, vI v, vI p, vI q, vI y, v7], [vR o], aq_h m s F c)) rfl rfl ?_
        refine am_E.go (t2 := (33, [vR o, vR (o + 3 + k.toNat), vI x, vI v, vI p, vI q, vI y, v7], [vI x, vR o], aq_h m s F c)) rfl rfl ?_
        refine am_E.go (t2 := (35, [vR o, vR (o + 3 + k.toNat), vI x, vI v, vI p, vI q, vI y, v7], [vI y, vI x, vR o], aq_h m s F c)) rfl rfl ?_
        refine aq_callv (y := 3) (as2 := [vI x, vI y]) (rest := []) rfl rfl (by decide) (Nat.le_of_ble_eq_true rfl) rfl rfl (Nat.le_of_ble_eq_true rfl) (by omega) hFo rfl (Nat.le_of_ble_eq_true rfl) (qn_X2_lay ⟨hm, hn1, hn4, hz6, hFo, hFl, hFg, hFt, hFp, hFq, hFd, hFs, hht⟩ hSs hSt (by omega) (by omega) (by omega) (by omega)) ?_
        rintro r5 h5 ⟨c_3, rfl, sc_3, v_4, rfl, hv_4⟩
        show am_E _ (38, [vR o, vR (o + 3 + k.toNat), vI x, vI v, vI p, vI q, vI y, v7], [vI v_4], aq_h m s F c_3) _
        refine am_E.go (t2 := (40, [vR o, vR (o + 3 + k.toNat), vI x, vI v, vI p, vI q, vI y, vI v_4], [], aq_h m s F c_3)) rfl rfl ?_
        refine am_E.go (t2 := (41, [vR o, vR (o + 3 + k.toNat), vI x, vI v, vI p, vI q, vI y, vI v_4], [vR (o + 3 + k.toNat)], aq_h m s F c_3)) rfl rfl ?_
        refine am_E.go (t2 := (43, [vR o, vR (o + 3 + k.toNat), vI x, vI v, vI p, vI q, vI y, vI v_4], [vI q, vR (o + 3 + k.toNat)], aq_h m s F c_3)) rfl rfl ?_
        refine am_E.go (t2 := (45, [vR o, vR (o + 3 + k.toNat), vI x, vI v, vI p, vI q, vI y, vI v_4], [vI v_4, vI q, vR (o + 3 + k.toNat)], aq_h m s F c_3)) rfl rfl ?_
        refine am_E.go (t2 := (47, [vR o, vR (o + 3 + k.toNat), vI x, vI v, vI p, vI q, vI y, vI v_4], [vI (-4), vI v_4, vI q, vR (o + 3 + k.toNat)], aq_h m s F c_3)) rfl rfl ?_
        refine ae_icmp rfl (fun (q_5 : v_4 ≠ (-4)) => ?_) (fun (q_5 : v_4 = (-4)) => ?_)
        · refine am_E.go (t2 := (55, [vR o, vR (o + 3 + k.toNat), vI x, vI v, vI p, vI q, vI y, vI v_4], [vI v, vI q, vR (o + 3 + k.toNat)], aq_h m s F c_3)) rfl rfl ?_
          refine am_E.go (t2 := (57, [vR o, vR (o + 3 + k.toNat), vI x, vI v, vI p, vI q, vI y, vI v_4], [vI v_4, vI v, vI q, vR (o + 3 + k.toNat)], aq_h m s F c_3)) rfl rfl ?_
          refine am_E.go (t2 := (59, [vR o, vR (o + 3 + k.toNat), vI x, vI v, vI p, vI q, vI y, vI v_4], [vI p, vI v_4, vI v, vI q, vR (o + 3 + k.toNat)], aq_h m s F c_3)) rfl rfl ?_
          refine am_E.call rfl rfl rfl (Nat.le_of_ble_eq_true rfl) (qn_X2_raise (by omega) (by omega)) ?_
          rintro r5 h5 ⟨rfl, v_6, rfl⟩
          show am_E _ (62, [vR o, vR (o + 3 + k.toNat), vI x, vI v, vI p, vI q, vI y, vI v_4], [vI v_6, vI q, vR (o + 3 + k.toNat)], aq_h m s F c_3) _
          refine aq_as (kd := 0) rfl rfl (by omega) (hFt _ (by omega)) (by omega) (by omega) rfl rfl ?_
          show am_E _ (63, [vR o, vR (o + 3 + k.toNat), vI x, vI v, vI p, vI q, vI y, vI v_4], [], aq_h m s F (aq_u c_3 (o + 3 + k.toNat) q v_6)) _
          generalize hdc_7 : aq_u c_3 (o + 3 + k.toNat) q v_6 = c_7
          have sc_7 := aq_smu (aq_smt hs sc_3) hdc_7 (hSt _ (by omega))
          refine ae_iinc rfl rfl (am_ri (by omega) (by omega)) ?_
          show am_E _ (66, [vR o, vR (o + 3 + k.toNat), vI x, vI v, vI p, vI (q + 1), vI y, vI v_4], [], aq_h m s F c_7) _
          refine ae_iinc rfl rfl (am_ri (by omega) (by omega)) ?_
          show am_E _ (69, [vR o, vR (o + 3 + k.toNat), vI x, vI v, vI p, vI (q + 1), vI (y + 1), vI v_4], [], aq_h m s F c_7) _
          refine am_E.go (t2 := (6, [vR o, vR (o + 3 + k.toNat), vI x, vI v, vI p, vI (q + 1), vI (y + 1), vI v_4], [], aq_h m s F c_7)) rfl rfl ?_
          exact qn_fillRow_l ⟨hm, hn1, hn4, hz6, hFo, hFl, hFg, hFt, hFp, hFq, hFd, hFs, hht⟩ hSs hSt hk0 hk6 hx0 hxz hp d (q + 1) (y + 1) (vI v_4) c_7 sc_7 (by omega) (by omega) (by omega) (by omega)
        · refine am_E.go (t2 := (51, [vR o, vR (o + 3 + k.toNat), vI x, vI v, vI p, vI q, vI y, vI v_4], [vI 0, vI q, vR (o + 3 + k.toNat)], aq_h m s F c_3)) rfl rfl ?_
          refine am_E.go (t2 := (62, [vR o, vR (o + 3 + k.toNat), vI x, vI v, vI p, vI q, vI y, vI v_4], [vI 0, vI q, vR (o + 3 + k.toNat)], aq_h m s F c_3)) rfl rfl ?_
          refine aq_as (kd := 0) rfl rfl (by omega) (hFt _ (by omega)) (by omega) (by omega) rfl rfl ?_
          show am_E _ (63, [vR o, vR (o + 3 + k.toNat), vI x, vI v, vI p, vI q, vI y, vI v_4], [], aq_h m s F (aq_u c_3 (o + 3 + k.toNat) q 0)) _
          generalize hdc_8 : aq_u c_3 (o + 3 + k.toNat) q 0 = c_8
          have sc_8 := aq_smu (aq_smt hs sc_3) hdc_8 (hSt _ (by omega))
          refine ae_iinc rfl rfl (am_ri (by omega) (by omega)) ?_
          show am_E _ (66, [vR o, vR (o + 3 + k.toNat), vI x, vI v, vI p, vI (q + 1), vI y, vI v_4], [], aq_h m s F c_8) _
          refine ae_iinc rfl rfl (am_ri (by omega) (by omega)) ?_
          show am_E _ (69, [vR o, vR (o + 3 + k.toNat), vI x, vI v, vI p, vI (q + 1), vI (y + 1), vI v_4], [], aq_h m s F c_8) _
          refine am_E.go (t2 := (6, [vR o, vR (o + 3 + k.toNat), vI x, vI v, vI p, vI (q + 1), vI (y + 1), vI v_4], [], aq_h m s F c_8)) rfl rfl ?_
          exact qn_fillRow_l ⟨hm, hn1, hn4, hz6, hFo, hFl, hFg, hFt, hFp, hFq, hFd, hFs, hht⟩ hSs hSt hk0 hk6 hx0 hxz hp d (q + 1) (y + 1) (vI v_4) c_8 sc_8 (by omega) (by omega) (by omega) (by omega)

theorem qn_X2_fillRow {m s : Nat} {F : aq_F} {c : aq_C} {S : Nat → Prop} {o n z : Nat} {tl : Int → Int} {th : Int → Int → Int} (hH : hv_0 m F o n z tl th) (hSs : S (o + 17)) (hSt : ∀ j, j < 6 → S (o + 3 + j)) {k x v p : Int} (hk0 : 0 ≤ k) (hk6 : k < 6) (hx0 : 0 ≤ x) (hxz : x < (z : Int)) (hp : p ≠ 0) : am_E ac_X2_fillRow (0, [vR o, vR (o + 3 + k.toNat), vI x, vI v, vI p, vU, vU, vU], [], aq_h m s F c) (aq_Z m s F S c (fun r _ => r = none)) := by
  obtain ⟨hm, hn1, hn4, hz6, hFo, hFl, hFg, hFt, hFp, hFq, hFd, hFs, hht⟩ := hH
  refine am_E.go (t2 := (1, [vR o, vR (o + 3 + k.toNat), vI x, vI v, vI p, vU, vU, vU], [vI 0], aq_h m s F c)) rfl rfl ?_
  refine am_E.go (t2 := (3, [vR o, vR (o + 3 + k.toNat), vI x, vI v, vI p, vI 0, vU, vU], [], aq_h m s F c)) rfl rfl ?_
  refine am_E.go (t2 := (4, [vR o, vR (o + 3 + k.toNat), vI x, vI v, vI p, vI 0, vU, vU], [vI 0], aq_h m s F c)) rfl rfl ?_
  refine am_E.go (t2 := (6, [vR o, vR (o + 3 + k.toNat), vI x, vI v, vI p, vI 0, vI 0, vU], [], aq_h m s F c)) rfl rfl ?_
  exact qn_fillRow_l ⟨hm, hn1, hn4, hz6, hFo, hFl, hFg, hFt, hFp, hFq, hFd, hFs, hht⟩ hSs hSt hk0 hk6 hx0 hxz hp 7 0 0 (vU) c aq_sm0 (by omega) (by omega) (by omega) (by omega)

theorem qn_fillTable_l {m s : Nat} {F : aq_F} {c0 : aq_C} {S : Nat → Prop} {o n z : Nat} {tl : Int → Int} {th : Int → Int → Int} (hH : hv_0 m F o n z tl th) (hSs : S (o + 17)) (hSt : ∀ j, j < 6 → S (o + 3 + j)) {t v p : Int} (hp : p ≠ 0) : ∀ (d : Nat) (r : Int) (x : Int) (c : aq_C) (hs : aq_sm S c0 c) (h0 : 0 ≤ r) (h1 : r ≤ x) (h2 : x ≤ (z : Int)) (hd : (z : Int) - x < (d : Int)), am_E ac_X2_fillTable (6, [vR o, vI t, vI v, vI p, vI r, vI x], [], aq_h m s F c) (aq_Z m s F S c0 (fun r _ => ∃ v, r = some (vI v) ∧ (0 ≤ v ∧ v ≤ (z : Int))))
  | 0, r, x, c, hs, h0, h1, h2, hd => by exfalso; omega
  | d + 1, r, x, c, hs, h0, h1, h2, hd => by
    obtain ⟨hm, hn1, hn4, hz6, hFo, hFl, hFg, hFt, hFp, hFq, hFd, hFs, hht⟩ := hH
    refine am_E.go (t2 := (8, [vR o, vI t, vI v, vI p, vI r, vI x], [vI x], aq_h m s F c)) rfl rfl ?_
    refine am_E.go (t2 := (9, [vR o, vI t, vI v, vI p, vI r, vI x], [vR o, vI x], aq_h m s F c)) rfl rfl ?_
    refine aq_gf (v := vI (z : Int)) rfl (by omega) hFo (by decide) rfl ?_
    show am_E _ (12, [vR o, vI t, vI v, vI p, vI r, vI x], [vI (z : Int), vI x], aq_h m s F c) _
    refine ae_icmp rfl (fun (q_1 : (z : Int) ≤ x) => ?_) (fun (q_1 : x < (z : Int)) => ?_)
    · refine am_E.go (t2 := (52, [vR o, vI t, vI v, vI p, vI r, vI x], [vI r], aq_h m s F c)) rfl rfl ?_
      refine am_E.ret rfl rfl ?_
      exact ⟨_, rfl, hs, _, rfl, by omega⟩
    · refine am_E.go (t2 := (16, [vR o, vI t, vI v, vI p, vI r, vI x], [vR o], aq_h m s F c)) rfl rfl ?_
      refine aq_gf (v := vR (o + 1)) rfl (by omega) hFo (by decide) rfl ?_
      show am_E _ (19, [vR o, vI t, vI v, vI p, vI r, vI x], [vR (o + 1)], aq_h m s F c) _
      refine am_E.go (t2 := (21, [vR o, vI t, vI v, vI p, vI r, vI x], [vI x, vR (o + 1)], aq_h m s F c)) rfl rfl ?_
      refine aq_alt (ok := fun k => k == 0) rfl rfl (by omega) hFl rfl (by omega) (by omega) ?_
      show am_E _ (22, [vR o, vI t, vI v, vI p, vI r, vI x], [vI (tl x)], aq_h m s F c) _
      refine am_E.go (t2 := (23, [vR o, vI t, vI v, vI p, vI r, vI x], [vI t, vI (tl x)], aq_h m s F c)) rfl rfl ?_
      refine ae_icmp rfl (fun (q_2 : (tl x) ≠ t) => ?_) (fun (q_2 : (tl x) = t) => ?_)
      · refine ae_iinc rfl rfl (am_ri (by omega) (by omega)) ?_
        show am_E _ (47, [vR o, vI t, vI v, vI p, vI r, vI (x + 1)], [], aq_h m s F c) _
        refine am_E.go (t2 := (6, [vR o, vI t, vI v, vI p, vI r, vI (x + 1)], [], aq_h m s F c)) rfl rfl ?_
        exact qn_fillTable_l ⟨hm, hn1, hn4, hz6, hFo, hFl, hFg, hFt, hFp, hFq, hFd, hFs, hht⟩ hSs hSt hp d r (x + 1) c hs (by omega) (by omega) (by omega) (by omega)
      · refine am_E.go (t2 := (27, [vR o, vI t, vI v, vI p, vI r, vI x], [vR o], aq_h m s F c)) rfl rfl ?_
        refine am_E.go (t2 := (28, [vR o, vI t, vI v, vI p, vI r, vI x], [vR o, vR o], aq_h m s F c)) rfl rfl ?_
        refine aq_gf (v := vR (o + 2)) rfl (by omega) hFo (by decide) rfl ?_
        show am_E _ (31, [vR o, vI t, vI v, vI p, vI r, vI x], [vR (o + 2), vR o], aq_h m s F c) _
        refine am_E.go (t2 := (33, [vR o, vI t, vI v, vI p, vI r, vI x], [vI r, vR (o + 2), vR o], aq_h m s F c)) rfl rfl ?_
        refine aq_al (ok := fun k => decide (3 ≤ k) && decide (k < 7)) (v := vR (o + 3 + r.toNat)) rfl rfl (by omega) hFg rfl (by omega) (by omega) (aq_gi (by omega)) ?_
        show am_E _ (34, [vR o, vI t, vI v, vI p, vI r, vI x], [vR (o + 3 + r.toNat), vR o], aq_h m s F c) _
        refine am_E.go (t2 := (36, [vR o, vI t, vI v, vI p, vI r, vI x], [vI x, vR (o + 3 + r.toNat), vR o], aq_h m s F c)) rfl rfl ?_
        refine am_E.go (t2 := (37, [vR o, vI t, vI v, vI p, vI r, vI x], [vI v, vI x, vR (o + 3 + r.toNat), vR o], aq_h m s F c)) rfl rfl ?_
        refine am_E.go (t2 := (38, [vR o, vI t, vI v, vI p, vI r, vI x], [vI p, vI v, vI x, vR (o + 3 + r.toNat), vR o], aq_h m s F c)) rfl rfl ?_
        refine aq_callv (y := 5) (as2 := [vR (o + 3 + r.toNat), vI x, vI v, vI p]) (rest := []) rfl rfl (by decide) (Nat.le_of_ble_eq_true rfl) rfl rfl (Nat.le_of_ble_eq_true rfl) (by omega) hFo rfl (Nat.le_of_ble_eq_true rfl) (qn_X2_fillRow ⟨hm, hn1, hn4, hz6, hFo, hFl, hFg, hFt, hFp, hFq, hFd, hFs, hht⟩ hSs hSt (by omega) (by omega) (by omega) (by omega) (by omega)) ?_
        rintro r5 h5 ⟨c_3, rfl, sc_3, rfl⟩
        show am_E _ (41, [vR o, vI t, vI v, vI p, vI r, vI x], [], aq_h m s F c_3) _
        refine ae_iinc rfl rfl (am_ri (by omega) (by omega)) ?_
        show am_E _ (44, [vR o, vI t, vI v, vI p, vI (r + 1), vI x], [], aq_h m s F c_3) _
        refine ae_iinc rfl rfl (am_ri (by omega) (by omega)) ?_
        show am_E _ (47, [vR o, vI t, vI v, vI p, vI (r + 1), vI (x + 1)], [], aq_h m s F c_3) _
        refine am_E.go (t2 := (6, [vR o, vI t, vI v, vI p, vI (r + 1), vI (x + 1)], [], aq_h m s F c_3)) rfl rfl ?_
        exact qn_fillTable_l ⟨hm, hn1, hn4, hz6, hFo, hFl, hFg, hFt, hFp, hFq, hFd, hFs, hht⟩ hSs hSt hp d (r + 1) (x + 1) c_3 (aq_smt hs sc_3) (by omega) (by omega) (by omega) (by omega)

theorem qn_X2_fillTable {m s : Nat} {F : aq_F} {c : aq_C} {S : Nat → Prop} {o n z : Nat} {tl : Int → Int} {th : Int → Int → Int} (hH : hv_0 m F o n z tl th) (hSs : S (o + 17)) (hSt : ∀ j, j < 6 → S (o + 3 + j)) {t v p : Int} (hp : p ≠ 0) : am_E ac_X2_fillTable (0, [vR o, vI t, vI v, vI p, vU, vU], [], aq_h m s F c) (aq_Z m s F S c (fun r _ => ∃ v, r = some (vI v) ∧ (0 ≤ v ∧ v ≤ (z : Int)))) := by
  obtain ⟨hm, hn1, hn4, hz6, hFo, hFl, hFg, hFt, hFp, hFq, hFd, hFs, hht⟩ := hH
  refine am_E.go (t2 := (1, [vR o, vI t, vI v, vI p, vU, vU], [vI 0], aq_h m s F c)) rfl rfl ?_
  refine am_E.go (t2 := (3, [vR o, vI t, vI v, vI p, vI 0, vU], [], aq_h m s F c)) rfl rfl ?_
  refine am_E.go (t2 := (4, [vR o, vI t, vI v, vI p, vI 0, vU], [vI 0], aq_h m s F c)) rfl rfl ?_
  refine am_E.go (t2 := (6, [vR o, vI t, vI v, vI p, vI 0, vI 0], [], aq_h m s F c)) rfl rfl ?_
  exact qn_fillTable_l ⟨hm, hn1, hn4, hz6, hFo, hFl, hFg, hFt, hFp, hFq, hFd, hFs, hht⟩ hSs hSt hp 7 0 0 c aq_sm0 (by omega) (by omega) (by omega) (by omega)

theorem qn_swapRows_l {m s : Nat} {F : aq_F} {c0 : aq_C} {S : Nat → Prop} {o n z : Nat} {tl : Int → Int} {th : Int → Int → Int} (hH : hv_0 m F o n z tl th) (hSs : S (o + 17)) (hSt : ∀ j, j < 6 → S (o + 3 + j)) {i j r : Int} (hi0 : 0 ≤ i) (hi6 : i < 6) (hj0 : 0 ≤ j) (hj6 : j < 6) (hr6 : r ≤ 6) : ∀ (d : Nat) (q : Int) (v5 : am_V) (c : aq_C) (hs : aq_sm S c0 c) (h0 : 0 ≤ q) (h1 : q ≤ 6) (hd : max 0 (r - q) < (d : Int)), am_E ac_X2_swapRows (3, [vR o, vI i, vI j, vI r, vI q, v5], [], aq_h m s F c) (aq_Z m s F S c0 (fun r _ => r = none))
  | 0, q, v5, c, hs, h0, h1, hd => by exfalso; omega
  | d + 1, q, v5, c, hs, h0, h1, hd => by
    obtain ⟨hm, hn1, hn4, hz6, hFo, hFl, hFg, hFt, hFp, hFq, hFd, hFs, hht⟩ := hH
    refine am_E.go (t2 := (5, [vR o, vI i, vI j, vI r, vI q, v5], [vI q], aq_h m s F c)) rfl rfl ?_
    refine am_E.go (t2 := (6, [vR o, vI i, vI j, vI r, vI q, v5], [vI r, vI q], aq_h m s F c)) rfl rfl ?_
    refine ae_icmp rfl (fun (q_1 : r ≤ q) => ?_) (fun (q_1 : q < r) => ?_)
    · refine am_E.ret rfl rfl ?_
      exact ⟨_, rfl, hs, rfl⟩
    · refine am_E.go (t2 := (10, [vR o, vI i, vI j, vI r, vI q, v5], [vR o], aq_h m s F c)) rfl rfl ?_
      refine aq_gf (v := vR (o + 2)) rfl (by omega) hFo (by decide) rfl ?_
      show am_E _ (13, [vR o, vI i, vI j, vI r, vI q, v5], [vR (o + 2)], aq_h m s F c) _
      refine am_E.go (t2 := (14, [vR o, vI i, vI j, vI r, vI q, v5], [vI i, vR (o + 2)], aq_h m s F c)) rfl rfl ?_
      refine aq_al (ok := fun k => decide (3 ≤ k) && decide (k < 7)) (v := vR (o + 3 + i.toNat)) rfl rfl (by omega) hFg rfl (by omega) (by omega) (aq_gi (by omega)) ?_
      show am_E _ (15, [vR o, vI i, vI j, vI r, vI q, v5], [vR (o + 3 + i.toNat)], aq_h m s F c) _
      refine am_E.go (t2 := (17, [vR o, vI i, vI j, vI r, vI q, v5], [vI q, vR (o + 3 + i.toNat)], aq_h m s F c)) rfl rfl ?_
      refine aq_al (ok := fun k => k == 0) (v := vI (c (o + 3 + i.toNat) q)) rfl rfl (by omega) (hFt _ (by omega)) rfl (by omega) (by omega) rfl ?_
      show am_E _ (18, [vR o, vI i, vI j, vI r, vI q, v5], [vI (c (o + 3 + i.toNat) q)], aq_h m s F c) _
      refine am_E.go (t2 := (20, [vR o, vI i, vI j, vI r, vI q, vI (c (o + 3 + i.toNat) q)], [], aq_h m s F c)) rfl rfl ?_
      refine am_E.go (t2 := (21, [vR o, vI i, vI j, vI r, vI q, vI (c (o + 3 + i.toNat) q)], [vR o], aq_h m s F c)) rfl rfl ?_
      refine aq_gf (v := vR (o + 2)) rfl (by omega) hFo (by decide) rfl ?_
      show am_E _ (24, [vR o, vI i, vI j, vI r, vI q, vI (c (o + 3 + i.toNat) q)], [vR (o + 2)], aq_h m s F c) _
      refine am_E.go (t2 := (25, [vR o, vI i, vI j, vI r, vI q, vI (c (o + 3 + i.toNat) q)], [vI i, vR (o + 2)], aq_h m s F c)) rfl rfl ?_
      refine aq_al (ok := fun k => decide (3 ≤ k) && decide (k < 7)) (v := vR (o + 3 + i.toNat)) rfl rfl (by omega) hFg rfl (by omega) (by omega) (aq_gi (by omega)) ?_
      show am_E _ (26, [vR o, vI i, vI j, vI r, vI q, vI (c (o + 3 + i.toNat) q)], [vR (o + 3 + i.toNat)], aq_h m s F c) _
      refine am_E.go (t2 := (28, [vR o, vI i, vI j, vI r, vI q, vI (c (o + 3 + i.toNat) q)], [vI q, vR (o + 3 + i.toNat)], aq_h m s F c)) rfl rfl ?_
      refine am_E.go (t2 := (29, [vR o, vI i, vI j, vI r, vI q, vI (c (o + 3 + i.toNat) q)], [vR o, vI q, vR (o + 3 + i.toNat)], aq_h m s F c)) rfl rfl ?_
      refine aq_gf (v := vR (o + 2)) rfl (by omega) hFo (by decide) rfl ?_
      show am_E _ (32, [vR o, vI i, vI j, vI r, vI q, vI (c (o + 3 + i.toNat) q)], [vR (o + 2), vI q, vR (o + 3 + i.toNat)], aq_h m s F c) _
      refine am_E.go (t2 := (33, [vR o, vI i, vI j, vI r, vI q, vI (c (o + 3 + i.toNat) q)], [vI j, vR (o + 2), vI q, vR (o + 3 + i.toNat)], aq_h m s F c)) rfl rfl ?_
      refine aq_al (ok := fun k => decide (3 ≤ k) && decide (k < 7)) (v := vR (o + 3 + j.toNat)) rfl rfl (by omega) hFg rfl (by omega) (by omega) (aq_gi (by omega)) ?_
      show am_E _ (34, [vR o, vI i, vI j, vI r, vI q, vI (c (o + 3 + i.toNat) q)], [vR (o + 3 + j.toNat), vI q, vR (o + 3 + i.toNat)], aq_h m s F c) _
      refine am_E.go (t2 := (36, [vR o, vI i, vI j, vI r, vI q, vI (c (o + 3 + i.toNat) q)], [vI q, vR (o + 3 + j.toNat), vI q, vR (o + 3 + i.toNat)], aq_h m s F c)) rfl rfl ?_
      refine aq_al (ok := fun k => k == 0) (v := vI (c (o + 3 + j.toNat) q)) rfl rfl (by omega) (hFt _ (by omega)) rfl (by omega) (by omega) rfl ?_
      show am_E _ (37, [vR o, vI i, vI j, vI r, vI q, vI (c (o + 3 + i.toNat) q)], [vI (c (o + 3 + j.toNat) q), vI q, vR (o + 3 + i.toNat)], aq_h m s F c) _
      refine aq_as (kd := 0) rfl rfl (by omega) (hFt _ (by omega)) (by omega) (by omega) rfl rfl ?_
      show am_E _ (38, [vR o, vI i, vI j, vI r, vI q, vI (c (o + 3 + i.toNat) q)], [], aq_h m s F (aq_u c (o + 3 + i.toNat) q (c (o + 3 + j.toNat) q))) _
      generalize hdc_2 : aq_u c (o + 3 + i.toNat) q (c (o + 3 + j.toNat) q) = c_2
      have sc_2 := aq_smu hs hdc_2 (hSt _ (by omega))
      refine am_E.go (t2 := (39, [vR o, vI i, vI j, vI r, vI q, vI (c (o + 3 + i.toNat) q)], [vR o], aq_h m s F c_2)) rfl rfl ?_
      refine aq_gf (v := vR (o + 2)) rfl (by omega) hFo (by decide) rfl ?_
      show am_E _ (42, [vR o, vI i, vI j, vI r, vI q, vI (c (o + 3 + i.toNat) q)], [vR (o + 2)], aq_h m s F c_2) _
      refine am_E.go (t2 := (43, [vR o, vI i, vI j, vI r, vI q, vI (c (o + 3 + i.toNat) q)], [vI j, vR (o + 2)], aq_h m s F c_2)) rfl rfl ?_
      refine aq_al (ok := fun k => decide (3 ≤ k) && decide (k < 7)) (v := vR (o + 3 + j.toNat)) rfl rfl (by omega) hFg rfl (by omega) (by omega) (aq_gi (by omega)) ?_
      show am_E _ (44, [vR o, vI i, vI j, vI r, vI q, vI (c (o + 3 + i.toNat) q)], [vR (o + 3 + j.toNat)], aq_h m s F c_2) _
      refine am_E.go (t2 := (46, [vR o, vI i, vI j, vI r, vI q, vI (c (o + 3 + i.toNat) q)], [vI q, vR (o + 3 + j.toNat)], aq_h m s F c_2)) rfl rfl ?_
      refine am_E.go (t2 := (48, [vR o, vI i, vI j, vI r, vI q, vI (c (o + 3 + i.toNat) q)], [vI (c (o + 3 + i.toNat) q), vI q, vR (o + 3 + j.toNat)], aq_h m s F c_2)) rfl rfl ?_
      refine aq_as (kd := 0) rfl rfl (by omega) (hFt _ (by omega)) (by omega) (by omega) rfl rfl ?_
      show am_E _ (49, [vR o, vI i, vI j, vI r, vI q, vI (c (o + 3 + i.toNat) q)], [], aq_h m s F (aq_u c_2 (o + 3 + j.toNat) q (c (o + 3 + i.toNat) q))) _
      generalize hdc_3 : aq_u c_2 (o + 3 + j.toNat) q (c (o + 3 + i.toNat) q) = c_3
      have sc_3 := aq_smu sc_2 hdc_3 (hSt _ (by omega))
      refine ae_iinc rfl rfl (am_ri (by omega) (by omega)) ?_
      show am_E _ (52, [vR o, vI i, vI j, vI r, vI (q + 1), vI (c (o + 3 + i.toNat) q)], [], aq_h m s F c_3) _
      refine am_E.go (t2 := (3, [vR o, vI i, vI j, vI r, vI (q + 1), vI (c (o + 3 + i.toNat) q)], [], aq_h m s F c_3)) rfl rfl ?_
      exact qn_swapRows_l ⟨hm, hn1, hn4, hz6, hFo, hFl, hFg, hFt, hFp, hFq, hFd, hFs, hht⟩ hSs hSt hi0 hi6 hj0 hj6 hr6 d (q + 1) (vI (c (o + 3 + i.toNat) q)) c_3 sc_3 (by omega) (by omega) (by omega)

theorem qn_X2_swapRows {m s : Nat} {F : aq_F} {c : aq_C} {S : Nat → Prop} {o n z : Nat} {tl : Int → Int} {th : Int → Int → Int} (hH : hv_0 m F o n z tl th) (hSs : S (o + 17)) (hSt : ∀ j, j < 6 → S (o + 3 + j)) {i j r : Int} (hi0 : 0 ≤ i) (hi6 : i < 6) (hj0 : 0 ≤ j) (hj6 : j < 6) (hr6 : r ≤ 6) : am_E ac_X2_swapRows (0, [vR o, vI i, vI j, vI r, vU, vU], [], aq_h m s F c) (aq_Z m s F S c (fun r _ => r = none)) := by
  obtain ⟨hm, hn1, hn4, hz6, hFo, hFl, hFg, hFt, hFp, hFq, hFd, hFs, hht⟩ := hH
  refine am_E.go (t2 := (1, [vR o, vI i, vI j, vI r, vU, vU], [vI 0], aq_h m s F c)) rfl rfl ?_
  refine am_E.go (t2 := (3, [vR o, vI i, vI j, vI r, vI 0, vU], [], aq_h m s F c)) rfl rfl ?_
  exact qn_swapRows_l ⟨hm, hn1, hn4, hz6, hFo, hFl, hFg, hFt, hFp, hFq, hFd, hFs, hht⟩ hSs hSt hi0 hi6 hj0 hj6 hr6 8 0 (vU) c aq_sm0 (by omega) (by omega) (by omega)

theorem qn_clearBelow_in {m s : Nat} {F : aq_F} {c0 : aq_C} {S : Nat → Prop} {o n z : Nat} {tl : Int → Int} {th : Int → Int → Int} (hH : hv_0 m F o n z tl th) (hSs : S (o + 17)) (hSt : ∀ j, j < 6 → S (o + 3 + j)) {h q r p : Int} (hh0 : 0 ≤ h) (hh6 : h < 6) (hq0 : 0 ≤ q) (hq6 : q < 6) (hr6 : r ≤ 6) (hp : p ≠ 0) : ∀ (d : Nat) (top : Int) (i : Int) (w : Int) (j : Int) (c : aq_C) (hs : aq_sm S c0 c) (h0 : 0 ≤ i) (h1 : i < 6) (h2 : 0 ≤ j) (h3 : j ≤ 6) (hd : max 0 (r - j) < (d : Int)) (K0 : ∀ (j2 : Int) (c2 : aq_C) (hs2 : aq_sm S c0 c2), am_E ac_X2_clearBelow (88, [vR o, vI h, vI q, vI r, vI p, vI top, vI i, vI w, vI j2], [], aq_h m s F c2) (aq_Z m s F S c0 (fun r _ => r = none))), am_E ac_X2_clearBelow (35, [vR o, vI h, vI q, vI r, vI p, vI top, vI i, vI w, vI j], [], aq_h m s F c) (aq_Z m s F S c0 (fun r _ => r = none))
  | 0, top, i, w, j, c, hs, h0, h1, h2, h3, hd, K0 => by exfalso; omega
  | d + 1, top, i, w, j, c, hs, h0, h1, h2, h3, hd, K0 => by
    obtain ⟨hm, hn1, hn4, hz6, hFo, hFl, hFg, hFt, hFp, hFq, hFd, hFs, hht⟩ := hH
    refine am_E.go (t2 := (37, [vR o, vI h, vI q, vI r, vI p, vI top, vI i, vI w, vI j], [vI j], aq_h m s F c)) rfl rfl ?_
    refine am_E.go (t2 := (38, [vR o, vI h, vI q, vI r, vI p, vI top, vI i, vI w, vI j], [vI r, vI j], aq_h m s F c)) rfl rfl ?_
    refine ae_icmp rfl (fun (q_1 : r ≤ j) => ?_) (fun (q_1 : j < r) => ?_)
    · exact K0 j c hs
    · refine am_E.go (t2 := (42, [vR o, vI h, vI q, vI r, vI p, vI top, vI i, vI w, vI j], [vR o], aq_h m s F c)) rfl rfl ?_
      refine aq_gf (v := vR (o + 2)) rfl (by omega) hFo (by decide) rfl ?_
      show am_E _ (45, [vR o, vI h, vI q, vI r, vI p, vI top, vI i, vI w, vI j], [vR (o + 2)], aq_h m s F c) _
      refine am_E.go (t2 := (47, [vR o, vI h, vI q, vI r, vI p, vI top, vI i, vI w, vI j], [vI i, vR (o + 2)], aq_h m s F c)) rfl rfl ?_
      refine aq_al (ok := fun k => decide (3 ≤ k) && decide (k < 7)) (v := vR (o + 3 + i.toNat)) rfl rfl (by omega) hFg rfl (by omega) (by omega) (aq_gi (by omega)) ?_
      show am_E _ (48, [vR o, vI h, vI q, vI r, vI p, vI top, vI i, vI w, vI j], [vR (o + 3 + i.toNat)], aq_h m s F c) _
      refine am_E.go (t2 := (50, [vR o, vI h, vI q, vI r, vI p, vI top, vI i, vI w, vI j], [vI j, vR (o + 3 + i.toNat)], aq_h m s F c)) rfl rfl ?_
      refine am_E.go (t2 := (51, [vR o, vI h, vI q, vI r, vI p, vI top, vI i, vI w, vI j], [vR o, vI j, vR (o + 3 + i.toNat)], aq_h m s F c)) rfl rfl ?_
      refine aq_gf (v := vR (o + 2)) rfl (by omega) hFo (by decide) rfl ?_
      show am_E _ (54, [vR o, vI h, vI q, vI r, vI p, vI top, vI i, vI w, vI j], [vR (o + 2), vI j, vR (o + 3 + i.toNat)], aq_h m s F c) _
      refine am_E.go (t2 := (56, [vR o, vI h, vI q, vI r, vI p, vI top, vI i, vI w, vI j], [vI i, vR (o + 2), vI j, vR (o + 3 + i.toNat)], aq_h m s F c)) rfl rfl ?_
      refine aq_al (ok := fun k => decide (3 ≤ k) && decide (k < 7)) (v := vR (o + 3 + i.toNat)) rfl rfl (by omega) hFg rfl (by omega) (by omega) (aq_gi (by omega)) ?_
      show am_E _ (57, [vR o, vI h, vI q, vI r, vI p, vI top, vI i, vI w, vI j], [vR (o + 3 + i.toNat), vI j, vR (o + 3 + i.toNat)], aq_h m s F c) _
      refine am_E.go (t2 := (59, [vR o, vI h, vI q, vI r, vI p, vI top, vI i, vI w, vI j], [vI j, vR (o + 3 + i.toNat), vI j, vR (o + 3 + i.toNat)], aq_h m s F c)) rfl rfl ?_
      refine aq_al (ok := fun k => k == 0) (v := vI (c (o + 3 + i.toNat) j)) rfl rfl (by omega) (hFt _ (by omega)) rfl (by omega) (by omega) rfl ?_
      show am_E _ (60, [vR o, vI h, vI q, vI r, vI p, vI top, vI i, vI w, vI j], [vI (c (o + 3 + i.toNat) j), vI j, vR (o + 3 + i.toNat)], aq_h m s F c) _
      refine am_E.go (t2 := (62, [vR o, vI h, vI q, vI r, vI p, vI top, vI i, vI w, vI j], [vI top, vI (c (o + 3 + i.toNat) j), vI j, vR (o + 3 + i.toNat)], aq_h m s F c)) rfl rfl ?_
      refine am_E.go (t2 := (63, [vR o, vI h, vI q, vI r, vI p, vI top, vI i, vI w, vI j], [vI (am_w ((c (o + 3 + i.toNat) j) * top)), vI j, vR (o + 3 + i.toNat)], aq_h m s F c)) rfl rfl ?_
      refine am_E.go (t2 := (64, [vR o, vI h, vI q, vI r, vI p, vI top, vI i, vI w, vI j], [vR o, vI (am_w ((c (o + 3 + i.toNat) j) * top)), vI j, vR (o + 3 + i.toNat)], aq_h m s F c)) rfl rfl ?_
      refine aq_gf (v := vR (o + 2)) rfl (by omega) hFo (by decide) rfl ?_
      show am_E _ (67, [vR o, vI h, vI q, vI r, vI p, vI top, vI i, vI w, vI j], [vR (o + 2), vI (am_w ((c (o + 3 + i.toNat) j) * top)), vI j, vR (o + 3 + i.toNat)], aq_h m s F c) _
      refine am_E.go (t2 := (68, [vR o, vI h, vI q, vI r, vI p, vI top, vI i, vI w, vI j], [vI h, vR (o + 2), vI (am_w ((c (o + 3 + i.toNat) j) * top)), vI j, vR (o + 3 + i.toNat)], aq_h m s F c)) rfl rfl ?_
      refine aq_al (ok := fun k => decide (3 ≤ k) && decide (k < 7)) (v := vR (o + 3 + h.toNat)) rfl rfl (by omega) hFg rfl (by omega) (by omega) (aq_gi (by omega)) ?_
      show am_E _ (69, [vR o, vI h, vI q, vI r, vI p, vI top, vI i, vI w, vI j], [vR (o + 3 + h.toNat), vI (am_w ((c (o + 3 + i.toNat) j) * top)), vI j, vR (o + 3 + i.toNat)], aq_h m s F c) _
      refine am_E.go (t2 := (71, [vR o, vI h, vI q, vI r, vI p, vI top, vI i, vI w, vI j], [vI j, vR (o + 3 + h.toNat), vI (am_w ((c (o + 3 + i.toNat) j) * top)), vI j, vR (o + 3 + i.toNat)], aq_h m s F c)) rfl rfl ?_
      refine aq_al (ok := fun k => k == 0) (v := vI (c (o + 3 + h.toNat) j)) rfl rfl (by omega) (hFt _ (by omega)) rfl (by omega) (by omega) rfl ?_
      show am_E _ (72, [vR o, vI h, vI q, vI r, vI p, vI top, vI i, vI w, vI j], [vI (c (o + 3 + h.toNat) j), vI (am_w ((c (o + 3 + i.toNat) j) * top)), vI j, vR (o + 3 + i.toNat)], aq_h m s F c) _
      refine am_E.go (t2 := (74, [vR o, vI h, vI q, vI r, vI p, vI top, vI i, vI w, vI j], [vI w, vI (c (o + 3 + h.toNat) j), vI (am_w ((c (o + 3 + i.toNat) j) * top)), vI j, vR (o + 3 + i.toNat)], aq_h m s F c)) rfl rfl ?_
      refine am_E.go (t2 := (75, [vR o, vI h, vI q, vI r, vI p, vI top, vI i, vI w, vI j], [vI (am_w ((c (o + 3 + h.toNat) j) * w)), vI (am_w ((c (o + 3 + i.toNat) j) * top)), vI j, vR (o + 3 + i.toNat)], aq_h m s F c)) rfl rfl ?_
      refine am_E.go (t2 := (76, [vR o, vI h, vI q, vI r, vI p, vI top, vI i, vI w, vI j], [vI (am_w ((am_w ((c (o + 3 + i.toNat) j) * top)) - (am_w ((c (o + 3 + h.toNat) j) * w)))), vI j, vR (o + 3 + i.toNat)], aq_h m s F c)) rfl rfl ?_
      refine am_E.go (t2 := (78, [vR o, vI h, vI q, vI r, vI p, vI top, vI i, vI w, vI j], [vI p, vI (am_w ((am_w ((c (o + 3 + i.toNat) j) * top)) - (am_w ((c (o + 3 + h.toNat) j) * w)))), vI j, vR (o + 3 + i.toNat)], aq_h m s F c)) rfl rfl ?_
      refine am_E.call rfl rfl rfl (Nat.le_of_ble_eq_true rfl) (rn_J9_floorMod (by omega) _) ?_
      rintro r5 h5 ⟨rfl, v_2, rfl⟩
      show am_E _ (81, [vR o, vI h, vI q, vI r, vI p, vI top, vI i, vI w, vI j], [vI v_2, vI j, vR (o + 3 + i.toNat)], aq_h m s F c) _
      refine aq_as (kd := 0) rfl rfl (by omega) (hFt _ (by omega)) (by omega) (by omega) rfl rfl ?_
      show am_E _ (82, [vR o, vI h, vI q, vI r, vI p, vI top, vI i, vI w, vI j], [], aq_h m s F (aq_u c (o + 3 + i.toNat) j v_2)) _
      generalize hdc_3 : aq_u c (o + 3 + i.toNat) j v_2 = c_3
      have sc_3 := aq_smu hs hdc_3 (hSt _ (by omega))
      refine ae_iinc rfl rfl (am_ri (by omega) (by omega)) ?_
      show am_E _ (85, [vR o, vI h, vI q, vI r, vI p, vI top, vI i, vI w, vI (j + 1)], [], aq_h m s F c_3) _
      refine am_E.go (t2 := (35, [vR o, vI h, vI q, vI r, vI p, vI top, vI i, vI w, vI (j + 1)], [], aq_h m s F c_3)) rfl rfl ?_
      exact qn_clearBelow_in ⟨hm, hn1, hn4, hz6, hFo, hFl, hFg, hFt, hFp, hFq, hFd, hFs, hht⟩ hSs hSt hh0 hh6 hq0 hq6 hr6 hp d top i w (j + 1) c_3 sc_3 (by omega) (by omega) (by omega) (by omega) (by omega) K0

theorem qn_clearBelow_out {m s : Nat} {F : aq_F} {c0 : aq_C} {S : Nat → Prop} {o n z : Nat} {tl : Int → Int} {th : Int → Int → Int} (hH : hv_0 m F o n z tl th) (hSs : S (o + 17)) (hSt : ∀ j, j < 6 → S (o + 3 + j)) {h q r p : Int} (hh0 : 0 ≤ h) (hh6 : h < 6) (hq0 : 0 ≤ q) (hq6 : q < 6) (hr6 : r ≤ 6) (hp : p ≠ 0) : ∀ (d : Nat) (top : Int) (i : Int) (v7 : am_V) (v8 : am_V) (c : aq_C) (hs : aq_sm S c0 c) (h0 : 0 ≤ i) (h1 : i ≤ 6) (hd : max 0 (r - i) < (d : Int)), am_E ac_X2_clearBelow (15, [vR o, vI h, vI q, vI r, vI p, vI top, vI i, v7, v8], [], aq_h m s F c) (aq_Z m s F S c0 (fun r _ => r = none))
  | 0, top, i, v7, v8, c, hs, h0, h1, hd => by exfalso; omega
  | d + 1, top, i, v7, v8, c, hs, h0, h1, hd => by
    obtain ⟨hm, hn1, hn4, hz6, hFo, hFl, hFg, hFt, hFp, hFq, hFd, hFs, hht⟩ := hH
    refine am_E.go (t2 := (17, [vR o, vI h, vI q, vI r, vI p, vI top, vI i, v7, v8], [vI i], aq_h m s F c)) rfl rfl ?_
    refine am_E.go (t2 := (18, [vR o, vI h, vI q, vI r, vI p, vI top, vI i, v7, v8], [vI r, vI i], aq_h m s F c)) rfl rfl ?_
    refine ae_icmp rfl (fun (q_1 : r ≤ i) => ?_) (fun (q_1 : i < r) => ?_)
    · refine am_E.ret rfl rfl ?_
      exact ⟨_, rfl, hs, rfl⟩
    · refine am_E.go (t2 := (22, [vR o, vI h, vI q, vI r, vI p, vI top, vI i, v7, v8], [vR o], aq_h m s F c)) rfl rfl ?_
      refine aq_gf (v := vR (o + 2)) rfl (by omega) hFo (by decide) rfl ?_
      show am_E _ (25, [vR o, vI h, vI q, vI r, vI p, vI top, vI i, v7, v8], [vR (o + 2)], aq_h m s F c) _
      refine am_E.go (t2 := (27, [vR o, vI h, vI q, vI r, vI p, vI top, vI i, v7, v8], [vI i, vR (o + 2)], aq_h m s F c)) rfl rfl ?_
      refine aq_al (ok := fun k => decide (3 ≤ k) && decide (k < 7)) (v := vR (o + 3 + i.toNat)) rfl rfl (by omega) hFg rfl (by omega) (by omega) (aq_gi (by omega)) ?_
      show am_E _ (28, [vR o, vI h, vI q, vI r, vI p, vI top, vI i, v7, v8], [vR (o + 3 + i.toNat)], aq_h m s F c) _
      refine am_E.go (t2 := (29, [vR o, vI h, vI q, vI r, vI p, vI top, vI i, v7, v8], [vI q, vR (o + 3 + i.toNat)], aq_h m s F c)) rfl rfl ?_
      refine aq_al (ok := fun k => k == 0) (v := vI (c (o + 3 + i.toNat) q)) rfl rfl (by omega) (hFt _ (by omega)) rfl (by omega) (by omega) rfl ?_
      show am_E _ (30, [vR o, vI h, vI q, vI r, vI p, vI top, vI i, v7, v8], [vI (c (o + 3 + i.toNat) q)], aq_h m s F c) _
      refine am_E.go (t2 := (32, [vR o, vI h, vI q, vI r, vI p, vI top, vI i, vI (c (o + 3 + i.toNat) q), v8], [], aq_h m s F c)) rfl rfl ?_
      refine am_E.go (t2 := (33, [vR o, vI h, vI q, vI r, vI p, vI top, vI i, vI (c (o + 3 + i.toNat) q), v8], [vI 0], aq_h m s F c)) rfl rfl ?_
      refine am_E.go (t2 := (35, [vR o, vI h, vI q, vI r, vI p, vI top, vI i, vI (c (o + 3 + i.toNat) q), vI 0], [], aq_h m s F c)) rfl rfl ?_
      refine qn_clearBelow_in ⟨hm, hn1, hn4, hz6, hFo, hFl, hFg, hFt, hFp, hFq, hFd, hFs, hht⟩ hSs hSt hh0 hh6 hq0 hq6 hr6 hp 8 top i (c (o + 3 + i.toNat) q) 0 c hs (by omega) (by omega) (by omega) (by omega) (by omega) ?_
      · intro j2_35 c_2 sc_2
        refine ae_iinc rfl rfl (am_ri (by omega) (by omega)) ?_
        show am_E _ (91, [vR o, vI h, vI q, vI r, vI p, vI top, vI (i + 1), vI (c (o + 3 + i.toNat) q), vI j2_35], [], aq_h m s F c_2) _
        refine am_E.go (t2 := (15, [vR o, vI h, vI q, vI r, vI p, vI top, vI (i + 1), vI (c (o + 3 + i.toNat) q), vI j2_35], [], aq_h m s F c_2)) rfl rfl ?_
        exact qn_clearBelow_out ⟨hm, hn1, hn4, hz6, hFo, hFl, hFg, hFt, hFp, hFq, hFd, hFs, hht⟩ hSs hSt hh0 hh6 hq0 hq6 hr6 hp d top (i + 1) (vI (c (o + 3 + i.toNat) q)) (vI j2_35) c_2 sc_2 (by omega) (by omega) (by omega)

theorem qn_X2_clearBelow {m s : Nat} {F : aq_F} {c : aq_C} {S : Nat → Prop} {o n z : Nat} {tl : Int → Int} {th : Int → Int → Int} (hH : hv_0 m F o n z tl th) (hSs : S (o + 17)) (hSt : ∀ j, j < 6 → S (o + 3 + j)) {h q r p : Int} (hh0 : 0 ≤ h) (hh6 : h < 6) (hq0 : 0 ≤ q) (hq6 : q < 6) (hr6 : r ≤ 6) (hp : p ≠ 0) : am_E ac_X2_clearBelow (0, [vR o, vI h, vI q, vI r, vI p, vU, vU, vU, vU], [], aq_h m s F c) (aq_Z m s F S c (fun r _ => r = none)) := by
  obtain ⟨hm, hn1, hn4, hz6, hFo, hFl, hFg, hFt, hFp, hFq, hFd, hFs, hht⟩ := hH
  refine am_E.go (t2 := (1, [vR o, vI h, vI q, vI r, vI p, vU, vU, vU, vU], [vR o], aq_h m s F c)) rfl rfl ?_
  refine aq_gf (v := vR (o + 2)) rfl (by omega) hFo (by decide) rfl ?_
  show am_E _ (4, [vR o, vI h, vI q, vI r, vI p, vU, vU, vU, vU], [vR (o + 2)], aq_h m s F c) _
  refine am_E.go (t2 := (5, [vR o, vI h, vI q, vI r, vI p, vU, vU, vU, vU], [vI h, vR (o + 2)], aq_h m s F c)) rfl rfl ?_
  refine aq_al (ok := fun k => decide (3 ≤ k) && decide (k < 7)) (v := vR (o + 3 + h.toNat)) rfl rfl (by omega) hFg rfl (by omega) (by omega) (aq_gi (by omega)) ?_
  show am_E _ (6, [vR o, vI h, vI q, vI r, vI p, vU, vU, vU, vU], [vR (o + 3 + h.toNat)], aq_h m s F c) _
  refine am_E.go (t2 := (7, [vR o, vI h, vI q, vI r, vI p, vU, vU, vU, vU], [vI q, vR (o + 3 + h.toNat)], aq_h m s F c)) rfl rfl ?_
  refine aq_al (ok := fun k => k == 0) (v := vI (c (o + 3 + h.toNat) q)) rfl rfl (by omega) (hFt _ (by omega)) rfl (by omega) (by omega) rfl ?_
  show am_E _ (8, [vR o, vI h, vI q, vI r, vI p, vU, vU, vU, vU], [vI (c (o + 3 + h.toNat) q)], aq_h m s F c) _
  refine am_E.go (t2 := (10, [vR o, vI h, vI q, vI r, vI p, vI (c (o + 3 + h.toNat) q), vU, vU, vU], [], aq_h m s F c)) rfl rfl ?_
  refine am_E.go (t2 := (11, [vR o, vI h, vI q, vI r, vI p, vI (c (o + 3 + h.toNat) q), vU, vU, vU], [vI h], aq_h m s F c)) rfl rfl ?_
  refine am_E.go (t2 := (12, [vR o, vI h, vI q, vI r, vI p, vI (c (o + 3 + h.toNat) q), vU, vU, vU], [vI 1, vI h], aq_h m s F c)) rfl rfl ?_
  refine ae_add rfl (am_ri (by omega) (by omega)) ?_
  show am_E _ (13, [vR o, vI h, vI q, vI r, vI p, vI (c (o + 3 + h.toNat) q), vU, vU, vU], [vI (h + 1)], aq_h m s F c) _
  refine am_E.go (t2 := (15, [vR o, vI h, vI q, vI r, vI p, vI (c (o + 3 + h.toNat) q), vI (h + 1), vU, vU], [], aq_h m s F c)) rfl rfl ?_
  exact qn_clearBelow_out ⟨hm, hn1, hn4, hz6, hFo, hFl, hFg, hFt, hFp, hFq, hFd, hFs, hht⟩ hSs hSt hh0 hh6 hq0 hq6 hr6 hp 8 (c (o + 3 + h.toNat) q) (h + 1) (vU) (vU) c aq_sm0 (by omega) (by omega) (by omega)

theorem qn_rank_in {m s : Nat} {F : aq_F} {c0 : aq_C} {S : Nat → Prop} {o n z : Nat} {tl : Int → Int} {th : Int → Int → Int} (hH : hv_0 m F o n z tl th) (hSs : S (o + 17)) (hSt : ∀ j, j < 6 → S (o + 3 + j)) {t v p r : Int} (hp : p ≠ 0) (hr0 : 0 ≤ r) (hr6 : r ≤ 6) : ∀ (d : Nat) (d5 : Int) (q : Int) (w : Int) (c : aq_C) (hs : aq_sm S c0 c) (h0 : 0 ≤ q) (h1 : q < r) (h2 : 0 ≤ d5) (h3 : d5 ≤ w) (h4 : w ≤ r) (hd : r - w < (d : Int)) (K0 : ∀ (w2 : Int) (c2 : aq_C) (hs2 : aq_sm S c0 c2) (f1 : d5 ≤ w2) (f2 : w2 ≤ r), am_E ac_X2_rank (56, [vR o, vI t, vI v, vI p, vI r, vI d5, vI q, vI w2], [], aq_h m s F c2) (aq_Z m s F S c0 (fun r _ => aq_vi r))), am_E ac_X2_rank (30, [vR o, vI t, vI v, vI p, vI r, vI d5, vI q, vI w], [], aq_h m s F c) (aq_Z m s F S c0 (fun r _ => aq_vi r))
  | 0, d5, q, w, c, hs, h0, h1, h2, h3, h4, hd, K0 => by exfalso; omega
  | d + 1, d5, q, w, c, hs, h0, h1, h2, h3, h4, hd, K0 => by
    obtain ⟨hm, hn1, hn4, hz6, hFo, hFl, hFg, hFt, hFp, hFq, hFd, hFs, hht⟩ := hH
    refine am_E.go (t2 := (32, [vR o, vI t, vI v, vI p, vI r, vI d5, vI q, vI w], [vI w], aq_h m s F c)) rfl rfl ?_
    refine am_E.go (t2 := (34, [vR o, vI t, vI v, vI p, vI r, vI d5, vI q, vI w], [vI r, vI w], aq_h m s F c)) rfl rfl ?_
    refine ae_icmp rfl (fun (q_1 : r ≤ w) => ?_) (fun (q_1 : w < r) => ?_)
    · exact K0 w c hs (by omega) (by omega)
    · refine am_E.go (t2 := (38, [vR o, vI t, vI v, vI p, vI r, vI d5, vI q, vI w], [vR o], aq_h m s F c)) rfl rfl ?_
      refine aq_gf (v := vR (o + 2)) rfl (by omega) hFo (by decide) rfl ?_
      show am_E _ (41, [vR o, vI t, vI v, vI p, vI r, vI d5, vI q, vI w], [vR (o + 2)], aq_h m s F c) _
      refine am_E.go (t2 := (43, [vR o, vI t, vI v, vI p, vI r, vI d5, vI q, vI w], [vI w, vR (o + 2)], aq_h m s F c)) rfl rfl ?_
      refine aq_al (ok := fun k => decide (3 ≤ k) && decide (k < 7)) (v := vR (o + 3 + w.toNat)) rfl rfl (by omega) hFg rfl (by omega) (by omega) (aq_gi (by omega)) ?_
      show am_E _ (44, [vR o, vI t, vI v, vI p, vI r, vI d5, vI q, vI w], [vR (o + 3 + w.toNat)], aq_h m s F c) _
      refine am_E.go (t2 := (46, [vR o, vI t, vI v, vI p, vI r, vI d5, vI q, vI w], [vI q, vR (o + 3 + w.toNat)], aq_h m s F c)) rfl rfl ?_
      refine aq_al (ok := fun k => k == 0) (v := vI (c (o + 3 + w.toNat) q)) rfl rfl (by omega) (hFt _ (by omega)) rfl (by omega) (by omega) rfl ?_
      show am_E _ (47, [vR o, vI t, vI v, vI p, vI r, vI d5, vI q, vI w], [vI (c (o + 3 + w.toNat) q)], aq_h m s F c) _
      refine ae_if0 rfl (fun (q_2 : (c (o + 3 + w.toNat) q) ≠ 0) => ?_) (fun (q_2 : (c (o + 3 + w.toNat) q) = 0) => ?_)
      · exact K0 w c hs (by omega) (by omega)
      · refine ae_iinc rfl rfl (am_ri (by omega) (by omega)) ?_
        show am_E _ (53, [vR o, vI t, vI v, vI p, vI r, vI d5, vI q, vI (w + 1)], [], aq_h m s F c) _
        refine am_E.go (t2 := (30, [vR o, vI t, vI v, vI p, vI r, vI d5, vI q, vI (w + 1)], [], aq_h m s F c)) rfl rfl ?_
        exact qn_rank_in ⟨hm, hn1, hn4, hz6, hFo, hFl, hFg, hFt, hFp, hFq, hFd, hFs, hht⟩ hSs hSt hp hr0 hr6 d d5 q (w + 1) c hs (by omega) (by omega) (by omega) (by omega) (by omega) (by omega) K0

theorem qn_rank_out {m s : Nat} {F : aq_F} {c0 : aq_C} {S : Nat → Prop} {o n z : Nat} {tl : Int → Int} {th : Int → Int → Int} (hH : hv_0 m F o n z tl th) (hSs : S (o + 17)) (hSt : ∀ j, j < 6 → S (o + 3 + j)) {t v p r : Int} (hp : p ≠ 0) (hr0 : 0 ≤ r) (hr6 : r ≤ 6) : ∀ (d : Nat) (d5 : Int) (q : Int) (v7 : am_V) (c : aq_C) (hs : aq_sm S c0 c) (h0 : 0 ≤ q) (h1 : q ≤ r) (h2 : 0 ≤ d5) (h3 : d5 ≤ q) (hd : r - q < (d : Int)), am_E ac_X2_rank (19, [vR o, vI t, vI v, vI p, vI r, vI d5, vI q, v7], [], aq_h m s F c) (aq_Z m s F S c0 (fun r _ => aq_vi r))
  | 0, d5, q, v7, c, hs, h0, h1, h2, h3, hd => by exfalso; omega
  | d + 1, d5, q, v7, c, hs, h0, h1, h2, h3, hd => by
    obtain ⟨hm, hn1, hn4, hz6, hFo, hFl, hFg, hFt, hFp, hFq, hFd, hFs, hht⟩ := hH
    refine am_E.go (t2 := (21, [vR o, vI t, vI v, vI p, vI r, vI d5, vI q, v7], [vI q], aq_h m s F c)) rfl rfl ?_
    refine am_E.go (t2 := (23, [vR o, vI t, vI v, vI p, vI r, vI d5, vI q, v7], [vI r, vI q], aq_h m s F c)) rfl rfl ?_
    refine ae_icmp rfl (fun (q_1 : r ≤ q) => ?_) (fun (q_1 : q < r) => ?_)
    · refine am_E.go (t2 := (95, [vR o, vI t, vI v, vI p, vI r, vI d5, vI q, v7], [vI d5], aq_h m s F c)) rfl rfl ?_
      refine am_E.ret rfl rfl ?_
      exact ⟨_, rfl, hs, _, rfl⟩
    · refine am_E.go (t2 := (28, [vR o, vI t, vI v, vI p, vI r, vI d5, vI q, v7], [vI d5], aq_h m s F c)) rfl rfl ?_
      refine am_E.go (t2 := (30, [vR o, vI t, vI v, vI p, vI r, vI d5, vI q, vI d5], [], aq_h m s F c)) rfl rfl ?_
      refine qn_rank_in ⟨hm, hn1, hn4, hz6, hFo, hFl, hFg, hFt, hFp, hFq, hFd, hFs, hht⟩ hSs hSt hp hr0 hr6 8 d5 q d5 c hs (by omega) (by omega) (by omega) (by omega) (by omega) (by omega) ?_
      · intro w2_30 c_2 sc_2 f1_30 f2_30
        refine am_E.go (t2 := (58, [vR o, vI t, vI v, vI p, vI r, vI d5, vI q, vI w2_30], [vI w2_30], aq_h m s F c_2)) rfl rfl ?_
        refine am_E.go (t2 := (60, [vR o, vI t, vI v, vI p, vI r, vI d5, vI q, vI w2_30], [vI r, vI w2_30], aq_h m s F c_2)) rfl rfl ?_
        refine ae_icmp rfl (fun (q_3 : r ≤ w2_30) => ?_) (fun (q_3 : w2_30 < r) => ?_)
        · refine ae_iinc rfl rfl (am_ri (by omega) (by omega)) ?_
          show am_E _ (90, [vR o, vI t, vI v, vI p, vI r, vI d5, vI (q + 1), vI w2_30], [], aq_h m s F c_2) _
          refine am_E.go (t2 := (19, [vR o, vI t, vI v, vI p, vI r, vI d5, vI (q + 1), vI w2_30], [], aq_h m s F c_2)) rfl rfl ?_
          exact qn_rank_out ⟨hm, hn1, hn4, hz6, hFo, hFl, hFg, hFt, hFp, hFq, hFd, hFs, hht⟩ hSs hSt hp hr0 hr6 d d5 (q + 1) (vI w2_30) c_2 sc_2 (by omega) (by omega) (by omega) (by omega) (by omega)
        · refine am_E.go (t2 := (64, [vR o, vI t, vI v, vI p, vI r, vI d5, vI q, vI w2_30], [vR o], aq_h m s F c_2)) rfl rfl ?_
          refine am_E.go (t2 := (66, [vR o, vI t, vI v, vI p, vI r, vI d5, vI q, vI w2_30], [vI w2_30, vR o], aq_h m s F c_2)) rfl rfl ?_
          refine am_E.go (t2 := (68, [vR o, vI t, vI v, vI p, vI r, vI d5, vI q, vI w2_30], [vI d5, vI w2_30, vR o], aq_h m s F c_2)) rfl rfl ?_
          refine am_E.go (t2 := (70, [vR o, vI t, vI v, vI p, vI r, vI d5, vI q, vI w2_30], [vI r, vI d5, vI w2_30, vR o], aq_h m s F c_2)) rfl rfl ?_
          refine aq_callv (y := 4) (as2 := [vI w2_30, vI d5, vI r]) (rest := []) rfl rfl (by decide) (Nat.le_of_ble_eq_true rfl) rfl rfl (Nat.le_of_ble_eq_true rfl) (by omega) hFo rfl (Nat.le_of_ble_eq_true rfl) (qn_X2_swapRows ⟨hm, hn1, hn4, hz6, hFo, hFl, hFg, hFt, hFp, hFq, hFd, hFs, hht⟩ hSs hSt (by omega) (by omega) (by omega) (by omega) (by omega)) ?_
          rintro r5 h5 ⟨c_4, rfl, sc_4, rfl⟩
          show am_E _ (73, [vR o, vI t, vI v, vI p, vI r, vI d5, vI q, vI w2_30], [], aq_h m s F c_4) _
          refine am_E.go (t2 := (74, [vR o, vI t, vI v, vI p, vI r, vI d5, vI q, vI w2_30], [vR o], aq_h m s F c_4)) rfl rfl ?_
          refine am_E.go (t2 := (76, [vR o, vI t, vI v, vI p, vI r, vI d5, vI q, vI w2_30], [vI d5, vR o], aq_h m s F c_4)) rfl rfl ?_
          refine am_E.go (t2 := (78, [vR o, vI t, vI v, vI p, vI r, vI d5, vI q, vI w2_30], [vI q, vI d5, vR o], aq_h m s F c_4)) rfl rfl ?_
          refine am_E.go (t2 := (80, [vR o, vI t, vI v, vI p, vI r, vI d5, vI q, vI w2_30], [vI r, vI q, vI d5, vR o], aq_h m s F c_4)) rfl rfl ?_
          refine am_E.go (t2 := (81, [vR o, vI t, vI v, vI p, vI r, vI d5, vI q, vI w2_30], [vI p, vI r, vI q, vI d5, vR o], aq_h m s F c_4)) rfl rfl ?_
          refine aq_callv (y := 5) (as2 := [vI d5, vI q, vI r, vI p]) (rest := []) rfl rfl (by decide) (Nat.le_of_ble_eq_true rfl) rfl rfl (Nat.le_of_ble_eq_true rfl) (by omega) hFo rfl (Nat.le_of_ble_eq_true rfl) (qn_X2_clearBelow ⟨hm, hn1, hn4, hz6, hFo, hFl, hFg, hFt, hFp, hFq, hFd, hFs, hht⟩ hSs hSt (by omega) (by omega) (by omega) (by omega) (by omega) (by omega)) ?_
          rintro r5 h5 ⟨c_6, rfl, sc_6, rfl⟩
          show am_E _ (84, [vR o, vI t, vI v, vI p, vI r, vI d5, vI q, vI w2_30], [], aq_h m s F c_6) _
          refine ae_iinc rfl rfl (am_ri (by omega) (by omega)) ?_
          show am_E _ (87, [vR o, vI t, vI v, vI p, vI r, vI (d5 + 1), vI q, vI w2_30], [], aq_h m s F c_6) _
          refine ae_iinc rfl rfl (am_ri (by omega) (by omega)) ?_
          show am_E _ (90, [vR o, vI t, vI v, vI p, vI r, vI (d5 + 1), vI (q + 1), vI w2_30], [], aq_h m s F c_6) _
          refine am_E.go (t2 := (19, [vR o, vI t, vI v, vI p, vI r, vI (d5 + 1), vI (q + 1), vI w2_30], [], aq_h m s F c_6)) rfl rfl ?_
          exact qn_rank_out ⟨hm, hn1, hn4, hz6, hFo, hFl, hFg, hFt, hFp, hFq, hFd, hFs, hht⟩ hSs hSt hp hr0 hr6 d (d5 + 1) (q + 1) (vI w2_30) c_6 (aq_smt (aq_smt sc_2 sc_4) sc_6) (by omega) (by omega) (by omega) (by omega) (by omega)

theorem qn_X2_rank {m s : Nat} {F : aq_F} {c : aq_C} {S : Nat → Prop} {o n z : Nat} {tl : Int → Int} {th : Int → Int → Int} (hH : hv_0 m F o n z tl th) (hSs : S (o + 17)) (hSt : ∀ j, j < 6 → S (o + 3 + j)) {t v p : Int} (hp : p ≠ 0) : am_E ac_X2_rank (0, [vR o, vI t, vI v, vI p, vU, vU, vU, vU], [], aq_h m s F c) (aq_Z m s F S c (fun r _ => aq_vi r)) := by
  obtain ⟨hm, hn1, hn4, hz6, hFo, hFl, hFg, hFt, hFp, hFq, hFd, hFs, hht⟩ := hH
  refine am_E.go (t2 := (1, [vR o, vI t, vI v, vI p, vU, vU, vU, vU], [vR o], aq_h m s F c)) rfl rfl ?_
  refine am_E.go (t2 := (2, [vR o, vI t, vI v, vI p, vU, vU, vU, vU], [vI t, vR o], aq_h m s F c)) rfl rfl ?_
  refine am_E.go (t2 := (3, [vR o, vI t, vI v, vI p, vU, vU, vU, vU], [vI v, vI t, vR o], aq_h m s F c)) rfl rfl ?_
  refine am_E.go (t2 := (4, [vR o, vI t, vI v, vI p, vU, vU, vU, vU], [vI p, vI v, vI t, vR o], aq_h m s F c)) rfl rfl ?_
  refine am_E.call rfl rfl rfl (Nat.le_of_ble_eq_true rfl) (rn_J9_floorMod (by omega) _) ?_
  rintro r5 h5 ⟨rfl, v_1, rfl⟩
  show am_E _ (7, [vR o, vI t, vI v, vI p, vU, vU, vU, vU], [vI v_1, vI t, vR o], aq_h m s F c) _
  refine am_E.go (t2 := (8, [vR o, vI t, vI v, vI p, vU, vU, vU, vU], [vI p, vI v_1, vI t, vR o], aq_h m s F c)) rfl rfl ?_
  refine aq_callv (y := 4) (as2 := [vI t, vI v_1, vI p]) (rest := []) rfl rfl (by decide) (Nat.le_of_ble_eq_true rfl) rfl rfl (Nat.le_of_ble_eq_true rfl) (by omega) hFo rfl (Nat.le_of_ble_eq_true rfl) (qn_X2_fillTable ⟨hm, hn1, hn4, hz6, hFo, hFl, hFg, hFt, hFp, hFq, hFd, hFs, hht⟩ hSs hSt (by omega)) ?_
  rintro r5 h5 ⟨c_2, rfl, sc_2, v_3, rfl, hv_3⟩
  show am_E _ (11, [vR o, vI t, vI v, vI p, vU, vU, vU, vU], [vI v_3], aq_h m s F c_2) _
  refine am_E.go (t2 := (13, [vR o, vI t, vI v, vI p, vI v_3, vU, vU, vU], [], aq_h m s F c_2)) rfl rfl ?_
  refine am_E.go (t2 := (14, [vR o, vI t, vI v, vI p, vI v_3, vU, vU, vU], [vI 0], aq_h m s F c_2)) rfl rfl ?_
  refine am_E.go (t2 := (16, [vR o, vI t, vI v, vI p, vI v_3, vI 0, vU, vU], [], aq_h m s F c_2)) rfl rfl ?_
  refine am_E.go (t2 := (17, [vR o, vI t, vI v, vI p, vI v_3, vI 0, vU, vU], [vI 0], aq_h m s F c_2)) rfl rfl ?_
  refine am_E.go (t2 := (19, [vR o, vI t, vI v, vI p, vI v_3, vI 0, vI 0, vU], [], aq_h m s F c_2)) rfl rfl ?_
  exact qn_rank_out ⟨hm, hn1, hn4, hz6, hFo, hFl, hFg, hFt, hFp, hFq, hFd, hFs, hht⟩ hSs hSt hp (by omega) (by omega) 8 0 0 (vU) c_2 (aq_smt aq_sm0 sc_2) (by omega) (by omega) (by omega) (by omega) (by omega)
def aq_cp (c : aq_C) (a sp b dp n : Nat) : aq_C := fun x j => if x = b ∧ (dp : Int) ≤ j ∧ j < (dp : Int) + (n : Int) then c a ((sp : Int) + (j - (dp : Int))) else c x j
theorem aq_cph {m s : Nat} {F : aq_F} {c : aq_C} {a sp b dp n ka na nb t : Nat} (hF : F a = (ka, na, fun _ => .inl t)) (hG : F b = (ka, nb, fun _ => .inl t)) : am_cp (aq_h m s F c) a sp b dp n = aq_h m s F (aq_cp c a sp b dp n) := by
  have e : (fun x => if x = b then (((aq_h m s F c).2.2 b).1, ((aq_h m s F c).2.2 b).2.1, am_cpy ((aq_h m s F c).2.2 a).2.2 ((aq_h m s F c).2.2 b).2.2 sp dp n) else (aq_h m s F c).2.2 x) = (aq_h m s F (aq_cp c a sp b dp n)).2.2 := by
    funext x
    by_cases hx : x = b
    · subst hx
      rw [if_pos rfl, aq_hc hF, aq_hc hG, aq_hc hG]
      refine congrArg (fun f => (ka, nb, f)) ?_
      funext j
      unfold am_cpy aq_cp
      simp only [true_and]
      by_cases h : dp ≤ j ∧ j < dp + n
      · rw [if_pos h, if_pos (by omega)]
        congr 2
        omega
      · rw [if_neg h, if_neg (by omega)]
    · rw [if_neg hx]
      show ((F x).1, (F x).2.1, fun i => aq_w ((F x).2.2 i) (c x (i : Int))) = ((F x).1, (F x).2.1, fun i => aq_w ((F x).2.2 i) (aq_cp c a sp b dp n x (i : Int)))
      refine congrArg (fun f => ((F x).1, (F x).2.1, f)) ?_
      funext j
      unfold aq_cp
      rw [if_neg (fun h => hx h.1)]
  show (m, s, fun x => if x = b then (((aq_h m s F c).2.2 b).1, ((aq_h m s F c).2.2 b).2.1, am_cpy ((aq_h m s F c).2.2 a).2.2 ((aq_h m s F c).2.2 b).2.2 sp dp n) else (aq_h m s F c).2.2 x) = (m, s, (aq_h m s F (aq_cp c a sp b dp n)).2.2)
  rw [e]
theorem aq_cpy {C : am_C} {pc : Nat} {ls : List am_V} {Z : Option am_V → am_H → Prop} {m s : Nat} {F : aq_F} {c : aq_C} {j y a b ka na nb sp dp n t : Nat} {i1 i2 i3 : Int} (hrow : am_row C pc = some (.invokestatic j, 3, 901, y)) (ha : a < m) (hb : b < m) (hF : F a = (ka, na, fun _ => .inl t)) (hG : F b = (ka, nb, fun _ => .inl t)) (hk : ka = 0 ∨ ka = 2) (h1 : i1 = (sp : Int)) (h2 : i2 = (dp : Int)) (h3 : i3 = (n : Int)) (h4 : sp + n ≤ na) (h5 : dp + n ≤ nb) (k : am_E C (pc + 3, ls, [], aq_h m s F (aq_cp c a sp b dp n)) Z) : am_E C (pc, ls, [vI i3, vI i2, vR b, vI i1, vR a], aq_h m s F c) Z :=
  ae_copy (h := aq_h m s F c) hrow ha hb (aq_hc hF) (aq_hc hG) hk h1 h2 h3 h4 h5 (by rw [aq_cph hF hG]; exact k)
theorem aq_smc {S : Nat → Prop} {c d e : aq_C} {a sp b dp n : Nat} (h1 : aq_sm S c d) (he : aq_cp d a sp b dp n = e) (hb : S b) : aq_sm S c e := fun x hx j => by
  have hne : x ≠ b := fun q => hx (by rw [q]; exact hb)
  rw [← he]
  unfold aq_cp
  rw [if_neg (fun h => hne h.1), h1 x hx j]
def cr_t (x : Nat) : Nat → aq_T := fun y => match y with
  | 2 => .inr (vR (x + 1))
  | 3 => .inr (vR (x + 2))
  | _ => .inl 0
def cr_0 (m : Nat) (F : aq_F) (x : Nat) : Prop := x + 3 ≤ m ∧ F x = (11, 5, cr_t x) ∧ F (x + 1) = (0, 8, fun _ => .inl 0) ∧ F (x + 2) = (0, 81, fun _ => .inl 0)
/-- the row of crossings is well made -/
def cr_l (x : Nat) (c : aq_C) : Prop := 2 ≤ c x 0 ∧ c x 0 ≤ 4 ∧ 0 ≤ c x 1 ∧ c x 1 ≤ 8 ∧ ∀ i, 0 ≤ i → i < c x 1 → c (x + 1) i ≠ 0 ∧ -(c x 0) < c (x + 1) i ∧ c (x + 1) i < c x 0
def su_t (a : Nat) : Nat → aq_T := fun y => match y with
  | 2 => .inr (vR (a + 1))
  | 3 => .inr (vR (a + 2))
  | 4 => .inr (vR (a + 3))
  | _ => .inl 0
def su_0 (m : Nat) (F : aq_F) (a : Nat) : Prop := a + 4 ≤ m ∧ F a = (13, 5, su_t a) ∧ F (a + 1) = (0, 40, fun _ => .inl 0) ∧ F (a + 2) = (0, 40, fun _ => .inl 0) ∧ F (a + 3) = (2, 40, fun _ => .inl 2)
/-- how many boxes -/
def bx_K (n : Int) : Int := if n = 1 then 1 else if n = 2 then 3 else if n = 3 then 15 else 105
/-- a sum's size, and its boxes' numbers, are in range -/
def su_k (a : Nat) (k : Int) (c : aq_C) : Prop := 0 ≤ c a 1 ∧ c a 1 ≤ 40 ∧ ∀ i, 0 ≤ i → i < c a 1 → 0 ≤ c (a + 1) i ∧ c (a + 1) i < k ∧ -1000000000000 ≤ c (a + 3) i ∧ c (a + 3) i ≤ 1000000000000
theorem nu_pc {f g : Int → Int} {N p : Int} (h : ∀ i, 0 ≤ i → i < N → f i = g i) (hp : 0 ≤ p) (hpN : p < N) (hf : f p ≤ N) : ∀ (d : Nat) (q a : Int), 0 ≤ q → nu_p f p d q a = nu_p g p d q a
  | 0, q, a, hq => rfl
  | d + 1, q, a, hq => by
    rw [nu_p, nu_p, ← h p hp hpN]
    by_cases e : q < f p
    · rw [if_pos e, if_pos e, h q hq (by omega)]
      exact nu_pc h hp hpN hf d (q + 1) _ (by omega)
    · rw [if_neg e, if_neg e]
theorem nu_oc {f g : Int → Int} {N : Int} (h : ∀ i, 0 ≤ i → i < N → f i = g i) (hf : ∀ i, 0 ≤ i → i < N → f i ≤ N) : ∀ (d : Nat) (p x ch : Int), 0 ≤ p → nu_o f N d p x ch = nu_o g N d p x ch
  | 0, p, x, ch, hp => rfl
  | d + 1, p, x, ch, hp => by
    rw [nu_o, nu_o]
    by_cases e : p < N
    · rw [if_pos e, if_pos e, ← h p hp e, nu_pc h hp e (hf p hp e) 9 (p + 1) 0 (by omega)]
      by_cases e2 : p < f p
      · rw [if_pos e2, if_pos e2]
        exact nu_oc h hf d (p + 1) _ _ (by omega)
      · rw [if_neg e2, if_neg e2]
        exact nu_oc h hf d (p + 1) _ _ (by omega)
    · rw [if_neg e, if_neg e]
theorem am_shi1 {k : Int} (h0 : 0 ≤ k) (h8 : k ≤ 8) : 1 ≤ am_shi 1 k ∧ am_shi 1 k ≤ 256 := by
  have h : k = 0 ∨ k = 1 ∨ k = 2 ∨ k = 3 ∨ k = 4 ∨ k = 5 ∨ k = 6 ∨ k = 7 ∨ k = 8 := by omega
  rcases h with h | h | h | h | h | h | h | h | h <;> subst h <;> decide
theorem ae_neg {C : am_C} {pc : Nat} {ls st : List am_V} {h : am_H} {Z : Option am_V → am_H → Prop} {x y : Nat} {a : Int} (hrow : am_row C pc = some (.ineg, 1, x, y)) (hr : am_r32 (-a)) (k : am_E C (pc + 1, ls, vI (-a) :: st, h) Z) : am_E C (pc, ls, vI a :: st, h) Z := by
  refine am_E.go hrow ?_ k
  show some (Sum.inl (pc + 1, ls, vI (am_w (-a)) :: st, h)) = _
  rw [am_w_id hr]
theorem rn_J9_abs {a : Int} (h1 : -2147483648 < a) (h2 : a < 2147483648) (h : am_H) : am_E ac_J9_abs_0f7a4 (0, [vI a], [], h) (fun r h2 => h2 = h ∧ ∃ v, r = some (vI v) ∧ ((0 ≤ a ∧ v = a) ∨ (a < 0 ∧ v = -a))) := by
  refine am_E.go (t2 := (1, [vI a], [vI a], h)) rfl rfl ?_
  refine ae_if0 rfl (fun (q : 0 ≤ a) => ?_) (fun (q : a < 0) => ?_)
  · refine am_E.go (t2 := (10, [vI a], [vI a], h)) rfl rfl ?_
    exact am_E.ret rfl rfl ⟨rfl, _, rfl, by omega⟩
  · refine am_E.go (t2 := (5, [vI a], [vI a], h)) rfl rfl ?_
    refine ae_neg rfl (am_ri (by omega) (by omega)) ?_
    refine am_E.go (t2 := (10, [vI a], [vI (-a)], h)) rfl rfl ?_
    exact am_E.ret rfl rfl ⟨rfl, _, rfl, by omega⟩
theorem rn_J9_absl {a : Int} (h : am_H) : am_E ac_J9_abs_067f4 (0, [vL a, vU], [], h) (fun r h2 => h2 = h ∧ ∃ v, r = some (vL v) ∧ ((0 ≤ a ∧ v = a) ∨ (a < 0 ∧ v = am_wl (-a)))) := by
  refine am_E.go (t2 := (1, [vL a, vU], [vL a], h)) rfl rfl ?_
  refine am_E.go (t2 := (2, [vL a, vU], [vL 0, vL a], h)) rfl rfl ?_
  refine am_E.go (t2 := (3, [vL a, vU], [vI (if a < 0 then -1 else if a = 0 then 0 else 1)], h)) rfl rfl ?_
  refine ae_if0 rfl (fun (q : 0 ≤ (if a < 0 then (-1 : Int) else if a = 0 then 0 else 1)) => ?_) (fun (q : (if a < 0 then (-1 : Int) else if a = 0 then 0 else 1) < 0) => ?_)
  · refine am_E.go (t2 := (12, [vL a, vU], [vL a], h)) rfl rfl ?_
    refine am_E.ret rfl rfl ⟨rfl, _, rfl, Or.inl ⟨?_, rfl⟩⟩
    split at q <;> omega
  · refine am_E.go (t2 := (7, [vL a, vU], [vL a], h)) rfl rfl ?_
    refine am_E.go (t2 := (8, [vL a, vU], [vL (am_wl (-a))], h)) rfl rfl ?_
    refine am_E.go (t2 := (12, [vL a, vU], [vL (am_wl (-a))], h)) rfl rfl ?_
    refine am_E.ret rfl rfl ⟨rfl, _, rfl, Or.inr ⟨?_, rfl⟩⟩
    by_cases e : a < 0
    · exact e
    · rw [if_neg e] at q
      split at q <;> omega

theorem qn_X1_begin {m s : Nat} {F : aq_F} {c : aq_C} {x : Nat} (hX : cr_0 m F x) {n : Int} : am_E ac_X1_begin (0, [vR x, vI n], [], aq_h m s F c) (aq_Z m s F (fun a => a = x ∨ a = x + 1) c (fun r d => r = none ∧ d x 0 = n ∧ d x 1 = 0)) := by
  obtain ⟨hmx, hFx, hFl, hFw⟩ := hX
  refine am_E.go (t2 := (1, [vR x, vI n], [vR x], aq_h m s F c)) rfl rfl ?_
  refine am_E.go (t2 := (2, [vR x, vI n], [vI n, vR x], aq_h m s F c)) rfl rfl ?_
  refine aq_pf rfl (by omega) hFx (by decide) rfl rfl ?_
  show am_E _ (5, [vR x, vI n], [], aq_h m s F (aq_u c x 0 n)) _
  generalize hdc_1 : aq_u c x 0 n = c_1
  have sc_1 := aq_smu (aq_sm0 (S := fun a => a = x ∨ a = x + 1)) hdc_1 (Or.inl rfl)
  refine am_E.go (t2 := (6, [vR x, vI n], [vR x], aq_h m s F c_1)) rfl rfl ?_
  refine am_E.go (t2 := (7, [vR x, vI n], [vI 0, vR x], aq_h m s F c_1)) rfl rfl ?_
  refine aq_pf rfl (by omega) hFx (by decide) rfl rfl ?_
  show am_E _ (10, [vR x, vI n], [], aq_h m s F (aq_u c_1 x 1 0)) _
  generalize hdc_2 : aq_u c_1 x 1 0 = c_2
  have sc_2 := aq_smu sc_1 hdc_2 (Or.inl rfl)
  refine am_E.go (t2 := (11, [vR x, vI n], [vR x], aq_h m s F c_2)) rfl rfl ?_
  refine am_E.go (t2 := (12, [vR x, vI n], [vI 0, vR x], aq_h m s F c_2)) rfl rfl ?_
  refine aq_pf rfl (by omega) hFx (by decide) rfl rfl ?_
  show am_E _ (15, [vR x, vI n], [], aq_h m s F (aq_u c_2 x 4 0)) _
  generalize hdc_3 : aq_u c_2 x 4 0 = c_3
  have sc_3 := aq_smu sc_2 hdc_3 (Or.inl rfl)
  refine am_E.ret rfl rfl ?_
  refine ⟨_, rfl, sc_3, rfl, ?_⟩
  rw [← hdc_3, ← hdc_2, ← hdc_1]
  simp [aq_u]

theorem qn_X1_allows {m s : Nat} {F : aq_F} {c : aq_C} {x : Nat} (hX : cr_0 m F x) {l : Int} (h1 : 0 ≤ c x 0) (h2 : c x 0 ≤ 4) : am_E ac_X1_allows (0, [vR x, vI l], [], aq_h m s F c) (aq_P m s F c (fun r => ∃ v, r = some (vI v) ∧ ((v = 1 ∧ l ≠ 0 ∧ -(c x 0) < l ∧ l < c x 0) ∨ (v = 0 ∧ ¬ (l ≠ 0 ∧ -(c x 0) < l ∧ l < c x 0))))) := by
  obtain ⟨hmx, hFx, hFl, hFw⟩ := hX
  refine am_E.go (t2 := (1, [vR x, vI l], [vI l], aq_h m s F c)) rfl rfl ?_
  refine ae_if0 rfl (fun (q_1 : l = 0) => ?_) (fun (q_1 : l ≠ 0) => ?_)
  · refine am_E.go (t2 := (26, [vR x, vI l], [vI 0], aq_h m s F c)) rfl rfl ?_
    refine am_E.ret rfl rfl ?_
    exact ⟨rfl, _, rfl, by omega⟩
  · refine am_E.go (t2 := (5, [vR x, vI l], [vI l], aq_h m s F c)) rfl rfl ?_
    refine am_E.go (t2 := (6, [vR x, vI l], [vR x, vI l], aq_h m s F c)) rfl rfl ?_
    refine aq_gf (v := vI (c x 0)) rfl (by omega) hFx (by decide) rfl ?_
    show am_E _ (9, [vR x, vI l], [vI (c x 0), vI l], aq_h m s F c) _
    refine ae_neg rfl (am_ri (by omega) (by omega)) ?_
    show am_E _ (10, [vR x, vI l], [vI (-(c x 0)), vI l], aq_h m s F c) _
    refine ae_icmp rfl (fun (q_2 : l ≤ (-(c x 0))) => ?_) (fun (q_2 : (-(c x 0)) < l) => ?_)
    · refine am_E.go (t2 := (26, [vR x, vI l], [vI 0], aq_h m s F c)) rfl rfl ?_
      refine am_E.ret rfl rfl ?_
      exact ⟨rfl, _, rfl, by omega⟩
    · refine am_E.go (t2 := (14, [vR x, vI l], [vI l], aq_h m s F c)) rfl rfl ?_
      refine am_E.go (t2 := (15, [vR x, vI l], [vR x, vI l], aq_h m s F c)) rfl rfl ?_
      refine aq_gf (v := vI (c x 0)) rfl (by omega) hFx (by decide) rfl ?_
      show am_E _ (18, [vR x, vI l], [vI (c x 0), vI l], aq_h m s F c) _
      refine ae_icmp rfl (fun (q_3 : (c x 0) ≤ l) => ?_) (fun (q_3 : l < (c x 0)) => ?_)
      · refine am_E.go (t2 := (26, [vR x, vI l], [vI 0], aq_h m s F c)) rfl rfl ?_
        refine am_E.ret rfl rfl ?_
        exact ⟨rfl, _, rfl, by omega⟩
      · refine am_E.go (t2 := (22, [vR x, vI l], [vI 1], aq_h m s F c)) rfl rfl ?_
        refine am_E.go (t2 := (26, [vR x, vI l], [vI 1], aq_h m s F c)) rfl rfl ?_
        refine am_E.ret rfl rfl ?_
        exact ⟨rfl, _, rfl, by omega⟩

theorem qn_X1_append {m s : Nat} {F : aq_F} {c : aq_C} {x : Nat} (hX : cr_0 m F x) {l : Int} (h1 : 0 ≤ c x 1) : am_E ac_X1_append (0, [vR x, vI l], [], aq_h m s F c) (aq_Z m s F (fun a => a = x ∨ a = x + 1) c (fun r d => ∃ v, r = some (vI v) ∧ ((v = 0 ∧ 8 ≤ c x 1 ∧ d = c) ∨ (v = 1 ∧ c x 1 < 8 ∧ d x 0 = c x 0 ∧ d x 1 = c x 1 + 1 ∧ d (x + 1) (c x 1) = l ∧ ∀ i, i ≠ c x 1 → d (x + 1) i = c (x + 1) i)))) := by
  obtain ⟨hmx, hFx, hFl, hFw⟩ := hX
  have e1 : x + 1 ≠ x := by omega
  have e2 : x ≠ x + 1 := by omega
  refine am_E.go (t2 := (1, [vR x, vI l], [vR x], aq_h m s F c)) rfl rfl ?_
  refine aq_gf (v := vI (c x 1)) rfl (by omega) hFx (by decide) rfl ?_
  show am_E _ (4, [vR x, vI l], [vI (c x 1)], aq_h m s F c) _
  skip
  refine am_E.go (t2 := (6, [vR x, vI l], [vI 8, vI (c x 1)], aq_h m s F c)) rfl rfl ?_
  refine ae_icmp rfl (fun (q_2 : (c x 1) < 8) => ?_) (fun (q_2 : 8 ≤ (c x 1)) => ?_)
  · refine am_E.go (t2 := (12, [vR x, vI l], [vR x], aq_h m s F c)) rfl rfl ?_
    refine aq_gf (v := vR (x + 1)) rfl (by omega) hFx (by decide) rfl ?_
    show am_E _ (15, [vR x, vI l], [vR (x + 1)], aq_h m s F c) _
    refine am_E.go (t2 := (16, [vR x, vI l], [vR x, vR (x + 1)], aq_h m s F c)) rfl rfl ?_
    refine aq_gf (v := vI (c x 1)) rfl (by omega) hFx (by decide) rfl ?_
    show am_E _ (19, [vR x, vI l], [vI (c x 1), vR (x + 1)], aq_h m s F c) _
    skip
    refine am_E.go (t2 := (20, [vR x, vI l], [vI l, vI (c x 1), vR (x + 1)], aq_h m s F c)) rfl rfl ?_
    refine aq_as (kd := 0) rfl rfl (by omega) hFl (by omega) (by omega) rfl rfl ?_
    show am_E _ (21, [vR x, vI l], [], aq_h m s F (aq_u c (x + 1) (c x 1) l)) _
    generalize hdc_4 : aq_u c (x + 1) (c x 1) l = c_4
    have sc_4 := aq_smu (aq_sm0 (S := fun a => a = x ∨ a = x + 1)) hdc_4 (Or.inr rfl)
    refine am_E.go (t2 := (22, [vR x, vI l], [vR x], aq_h m s F c_4)) rfl rfl ?_
    refine am_E.go (t2 := (23, [vR x, vI l], [vR x, vR x], aq_h m s F c_4)) rfl rfl ?_
    refine aq_gf (v := vI (c_4 x 1)) rfl (by omega) hFx (by decide) rfl ?_
    show am_E _ (26, [vR x, vI l], [vI (c_4 x 1), vR x], aq_h m s F c_4) _
    have f_5 : c_4 x 1 = c x 1 := by rw [← hdc_4]; exact aq_un (Or.inl (by omega))
    refine am_E.go (t2 := (27, [vR x, vI l], [vI 1, vI (c_4 x 1), vR x], aq_h m s F c_4)) rfl rfl ?_
    refine ae_add rfl (am_ri (by omega) (by omega)) ?_
    show am_E _ (28, [vR x, vI l], [vI ((c_4 x 1) + 1), vR x], aq_h m s F c_4) _
    refine aq_pf rfl (by omega) hFx (by decide) rfl rfl ?_
    show am_E _ (31, [vR x, vI l], [], aq_h m s F (aq_u c_4 x 1 ((c_4 x 1) + 1))) _
    generalize hdc_6 : aq_u c_4 x 1 ((c_4 x 1) + 1) = c_6
    have sc_6 := aq_smu sc_4 hdc_6 (Or.inl rfl)
    refine am_E.go (t2 := (32, [vR x, vI l], [vR x], aq_h m s F c_6)) rfl rfl ?_
    refine am_E.go (t2 := (33, [vR x, vI l], [vI 0, vR x], aq_h m s F c_6)) rfl rfl ?_
    refine aq_pf rfl (by omega) hFx (by decide) rfl rfl ?_
    show am_E _ (36, [vR x, vI l], [], aq_h m s F (aq_u c_6 x 4 0)) _
    generalize hdc_7 : aq_u c_6 x 4 0 = c_7
    have sc_7 := aq_smu sc_6 hdc_7 (Or.inl rfl)
    refine am_E.go (t2 := (37, [vR x, vI l], [vI 1], aq_h m s F c_7)) rfl rfl ?_
    refine am_E.ret rfl rfl ?_
    refine ⟨_, rfl, sc_7, 1, rfl, Or.inr ⟨rfl, by omega, ?_⟩⟩
    have e1 : x + 1 ≠ x := by omega
    have e2 : x ≠ x + 1 := by omega
    rw [← hdc_7, ← hdc_6, ← hdc_4]
    simp [aq_u, e1, e2]
    intro i hi h9
    exact absurd h9 hi
  · refine am_E.go (t2 := (10, [vR x, vI l], [vI 0], aq_h m s F c)) rfl rfl ?_
    refine am_E.ret rfl rfl ?_
    exact ⟨_, rfl, (aq_sm0 (S := fun a => a = x ∨ a = x + 1)), 0, rfl, Or.inl ⟨rfl, by omega, rfl⟩⟩

theorem qn_X1_dropLast {m s : Nat} {F : aq_F} {c : aq_C} {x : Nat} (hX : cr_0 m F x) (h1 : 0 ≤ c x 1) (h2 : c x 1 ≤ 8) : am_E ac_X1_dropLast (0, [vR x], [], aq_h m s F c) (aq_Z m s F (fun a => a = x ∨ a = x + 1) c (fun r d => ∃ v, r = some (vI v) ∧ ((v = 0 ∧ c x 1 ≤ 0 ∧ d = c) ∨ (v = 1 ∧ 0 < c x 1 ∧ d x 0 = c x 0 ∧ d x 1 = c x 1 - 1 ∧ ∀ i, d (x + 1) i = c (x + 1) i)))) := by
  obtain ⟨hmx, hFx, hFl, hFw⟩ := hX
  refine am_E.go (t2 := (1, [vR x], [vR x], aq_h m s F c)) rfl rfl ?_
  refine aq_gf (v := vI (c x 1)) rfl (by omega) hFx (by decide) rfl ?_
  show am_E _ (4, [vR x], [vI (c x 1)], aq_h m s F c) _
  refine ae_if0 rfl (fun (q_1 : 0 < (c x 1)) => ?_) (fun (q_1 : (c x 1) ≤ 0) => ?_)
  · refine am_E.go (t2 := (10, [vR x], [vR x], aq_h m s F c)) rfl rfl ?_
    refine am_E.go (t2 := (11, [vR x], [vR x, vR x], aq_h m s F c)) rfl rfl ?_
    refine aq_gf (v := vI (c x 1)) rfl (by omega) hFx (by decide) rfl ?_
    show am_E _ (14, [vR x], [vI (c x 1), vR x], aq_h m s F c) _
    refine am_E.go (t2 := (15, [vR x], [vI 1, vI (c x 1), vR x], aq_h m s F c)) rfl rfl ?_
    refine ae_sub rfl (am_ri (by omega) (by omega)) ?_
    show am_E _ (16, [vR x], [vI ((c x 1) - 1), vR x], aq_h m s F c) _
    refine aq_pf rfl (by omega) hFx (by decide) rfl rfl ?_
    show am_E _ (19, [vR x], [], aq_h m s F (aq_u c x 1 ((c x 1) - 1))) _
    generalize hdc_2 : aq_u c x 1 ((c x 1) - 1) = c_2
    have sc_2 := aq_smu (aq_sm0 (S := fun a => a = x ∨ a = x + 1)) hdc_2 (Or.inl rfl)
    refine am_E.go (t2 := (20, [vR x], [vR x], aq_h m s F c_2)) rfl rfl ?_
    refine am_E.go (t2 := (21, [vR x], [vI 0, vR x], aq_h m s F c_2)) rfl rfl ?_
    refine aq_pf rfl (by omega) hFx (by decide) rfl rfl ?_
    show am_E _ (24, [vR x], [], aq_h m s F (aq_u c_2 x 4 0)) _
    generalize hdc_3 : aq_u c_2 x 4 0 = c_3
    have sc_3 := aq_smu sc_2 hdc_3 (Or.inl rfl)
    refine am_E.go (t2 := (25, [vR x], [vI 1], aq_h m s F c_3)) rfl rfl ?_
    refine am_E.ret rfl rfl ?_
    refine ⟨_, rfl, sc_3, 1, rfl, Or.inr ⟨rfl, by omega, ?_⟩⟩
    have e1 : x + 1 ≠ x := by omega
    rw [← hdc_3, ← hdc_2]
    simp [aq_u, e1]
  · refine am_E.go (t2 := (8, [vR x], [vI 0], aq_h m s F c)) rfl rfl ?_
    refine am_E.ret rfl rfl ?_
    exact ⟨_, rfl, (aq_sm0 (S := fun a => a = x ∨ a = x + 1)), 0, rfl, Or.inl ⟨rfl, by omega, rfl⟩⟩
theorem qn_X3_begin {m s : Nat} {F : aq_F} {c : aq_C} {a : Nat} (hA : su_0 m F a) {n : Int} : am_E ac_X3_begin (0, [vR a, vI n], [], aq_h m s F c) (aq_Z m s F (fun b => b = a ∨ b = a + 1 ∨ b = a + 2 ∨ b = a + 3) c (fun r d => r = none ∧ d a 0 = n ∧ d a 1 = 0)) := by
  obtain ⟨hma, hFa, hFn, hFp, hFf⟩ := hA
  refine am_E.go (t2 := (1, [vR a, vI n], [vR a], aq_h m s F c)) rfl rfl ?_
  refine am_E.go (t2 := (2, [vR a, vI n], [vI n, vR a], aq_h m s F c)) rfl rfl ?_
  refine aq_pf rfl (by omega) hFa (by decide) rfl rfl ?_
  show am_E _ (5, [vR a, vI n], [], aq_h m s F (aq_u c a 0 n)) _
  generalize hdc_1 : aq_u c a 0 n = c_1
  have sc_1 := aq_smu (aq_sm0 (S := (fun b => b = a ∨ b = a + 1 ∨ b = a + 2 ∨ b = a + 3))) hdc_1 (Or.inl rfl)
  refine am_E.go (t2 := (6, [vR a, vI n], [vR a], aq_h m s F c_1)) rfl rfl ?_
  refine am_E.go (t2 := (7, [vR a, vI n], [vI 0, vR a], aq_h m s F c_1)) rfl rfl ?_
  refine aq_pf rfl (by omega) hFa (by decide) rfl rfl ?_
  show am_E _ (10, [vR a, vI n], [], aq_h m s F (aq_u c_1 a 1 0)) _
  generalize hdc_2 : aq_u c_1 a 1 0 = c_2
  have sc_2 := aq_smu sc_1 hdc_2 (Or.inl rfl)
  refine am_E.ret rfl rfl ?_
  refine ⟨_, rfl, sc_2, rfl, ?_⟩
  rw [← hdc_2, ← hdc_1]
  simp [aq_u]

theorem qn_X3_isFactor {m s : Nat} {F : aq_F} {c : aq_C} {f : Int} : am_E ac_X3_isFactor (0, [vL f, vU], [], aq_h m s F c) (aq_P m s F c (fun r => ∃ v, r = some (vI v) ∧ ((v = 1 ∧ -1000000000000 ≤ f ∧ f ≤ 1000000000000) ∨ (v = 0 ∧ ¬ (-1000000000000 ≤ f ∧ f ≤ 1000000000000))))) := by
  refine am_E.go (t2 := (1, [vL f, vU], [vL f], aq_h m s F c)) rfl rfl ?_
  refine am_E.go (t2 := (4, [vL f, vU], [vL (-1000000000000), vL f], aq_h m s F c)) rfl rfl ?_
  have ez_1 := am_lcf f (-1000000000000)
  refine am_E.go (t2 := (5, [vL f, vU], [vI (if f < (-1000000000000) then -1 else if f = (-1000000000000) then 0 else 1)], aq_h m s F c)) rfl rfl ?_
  generalize (if f < (-1000000000000) then -1 else if f = (-1000000000000) then 0 else 1) = z_1 at ez_1 ⊢
  refine ae_if0 rfl (fun (q_2 : z_1 < 0) => ?_) (fun (q_2 : 0 ≤ z_1) => ?_)
  · refine am_E.go (t2 := (21, [vL f, vU], [vI 0], aq_h m s F c)) rfl rfl ?_
    refine am_E.ret rfl rfl ?_
    exact ⟨rfl, _, rfl, by omega⟩
  · refine am_E.go (t2 := (9, [vL f, vU], [vL f], aq_h m s F c)) rfl rfl ?_
    refine am_E.go (t2 := (12, [vL f, vU], [vL 1000000000000, vL f], aq_h m s F c)) rfl rfl ?_
    have ez_3 := am_lcf f 1000000000000
    refine am_E.go (t2 := (13, [vL f, vU], [vI (if f < 1000000000000 then -1 else if f = 1000000000000 then 0 else 1)], aq_h m s F c)) rfl rfl ?_
    generalize (if f < 1000000000000 then -1 else if f = 1000000000000 then 0 else 1) = z_3 at ez_3 ⊢
    refine ae_if0 rfl (fun (q_4 : 0 < z_3) => ?_) (fun (q_4 : z_3 ≤ 0) => ?_)
    · refine am_E.go (t2 := (21, [vL f, vU], [vI 0], aq_h m s F c)) rfl rfl ?_
      refine am_E.ret rfl rfl ?_
      exact ⟨rfl, _, rfl, by omega⟩
    · refine am_E.go (t2 := (17, [vL f, vU], [vI 1], aq_h m s F c)) rfl rfl ?_
      refine am_E.go (t2 := (21, [vL f, vU], [vI 1], aq_h m s F c)) rfl rfl ?_
      refine am_E.ret rfl rfl ?_
      exact ⟨rfl, _, rfl, by omega⟩

theorem qn_X3_isAt {m s : Nat} {F : aq_F} {c : aq_C} {a : Nat} (hA : su_0 m F a) {i b p : Int} (h0 : 0 ≤ i) (h1 : c a 1 ≤ 40) : am_E ac_X3_isAt (0, [vR a, vI i, vI b, vI p], [], aq_h m s F c) (aq_P m s F c (fun r => ∃ v, r = some (vI v) ∧ ((v = 1 ∧ i < c a 1 ∧ c (a + 1) i = b ∧ c (a + 2) i = p) ∨ (v = 0 ∧ ¬ (i < c a 1 ∧ c (a + 1) i = b ∧ c (a + 2) i = p))))) := by
  obtain ⟨hma, hFa, hFn, hFp, hFf⟩ := hA
  refine am_E.go (t2 := (1, [vR a, vI i, vI b, vI p], [vI i], aq_h m s F c)) rfl rfl ?_
  refine am_E.go (t2 := (2, [vR a, vI i, vI b, vI p], [vR a, vI i], aq_h m s F c)) rfl rfl ?_
  refine aq_gf (v := vI (c a 1)) rfl (by omega) hFa (by decide) rfl ?_
  show am_E _ (5, [vR a, vI i, vI b, vI p], [vI (c a 1), vI i], aq_h m s F c) _
  refine ae_icmp rfl (fun (q_1 : (c a 1) ≤ i) => ?_) (fun (q_1 : i < (c a 1)) => ?_)
  · refine am_E.go (t2 := (33, [vR a, vI i, vI b, vI p], [vI 0], aq_h m s F c)) rfl rfl ?_
    refine am_E.ret rfl rfl ?_
    exact ⟨rfl, _, rfl, by omega⟩
  · refine am_E.go (t2 := (9, [vR a, vI i, vI b, vI p], [vR a], aq_h m s F c)) rfl rfl ?_
    refine aq_gf (v := vR (a + 1)) rfl (by omega) hFa (by decide) rfl ?_
    show am_E _ (12, [vR a, vI i, vI b, vI p], [vR (a + 1)], aq_h m s F c) _
    refine am_E.go (t2 := (13, [vR a, vI i, vI b, vI p], [vI i, vR (a + 1)], aq_h m s F c)) rfl rfl ?_
    refine aq_al (ok := fun k => k == 0) (v := vI (c (a + 1) i)) rfl rfl (by omega) hFn rfl (by omega) (by omega) rfl ?_
    show am_E _ (14, [vR a, vI i, vI b, vI p], [vI (c (a + 1) i)], aq_h m s F c) _
    refine am_E.go (t2 := (15, [vR a, vI i, vI b, vI p], [vI b, vI (c (a + 1) i)], aq_h m s F c)) rfl rfl ?_
    refine ae_icmp rfl (fun (q_2 : (c (a + 1) i) ≠ b) => ?_) (fun (q_2 : (c (a + 1) i) = b) => ?_)
    · refine am_E.go (t2 := (33, [vR a, vI i, vI b, vI p], [vI 0], aq_h m s F c)) rfl rfl ?_
      refine am_E.ret rfl rfl ?_
      exact ⟨rfl, _, rfl, by omega⟩
    · refine am_E.go (t2 := (19, [vR a, vI i, vI b, vI p], [vR a], aq_h m s F c)) rfl rfl ?_
      refine aq_gf (v := vR (a + 2)) rfl (by omega) hFa (by decide) rfl ?_
      show am_E _ (22, [vR a, vI i, vI b, vI p], [vR (a + 2)], aq_h m s F c) _
      refine am_E.go (t2 := (23, [vR a, vI i, vI b, vI p], [vI i, vR (a + 2)], aq_h m s F c)) rfl rfl ?_
      refine aq_al (ok := fun k => k == 0) (v := vI (c (a + 2) i)) rfl rfl (by omega) hFp rfl (by omega) (by omega) rfl ?_
      show am_E _ (24, [vR a, vI i, vI b, vI p], [vI (c (a + 2) i)], aq_h m s F c) _
      refine am_E.go (t2 := (25, [vR a, vI i, vI b, vI p], [vI p, vI (c (a + 2) i)], aq_h m s F c)) rfl rfl ?_
      refine ae_icmp rfl (fun (q_3 : (c (a + 2) i) ≠ p) => ?_) (fun (q_3 : (c (a + 2) i) = p) => ?_)
      · refine am_E.go (t2 := (33, [vR a, vI i, vI b, vI p], [vI 0], aq_h m s F c)) rfl rfl ?_
        refine am_E.ret rfl rfl ?_
        exact ⟨rfl, _, rfl, by omega⟩
      · refine am_E.go (t2 := (29, [vR a, vI i, vI b, vI p], [vI 1], aq_h m s F c)) rfl rfl ?_
        refine am_E.go (t2 := (33, [vR a, vI i, vI b, vI p], [vI 1], aq_h m s F c)) rfl rfl ?_
        refine am_E.ret rfl rfl ?_
        exact ⟨rfl, _, rfl, by omega⟩

theorem qn_X3_moveTail {m s : Nat} {F : aq_F} {c : aq_C} {a : Nat} (hA : su_0 m F a) {f t : Int} (hf0 : 0 ≤ f) (hf1 : f ≤ c a 1) (h40 : c a 1 ≤ 40) (ht0 : 0 ≤ t) (ht1 : t + (c a 1 - f) ≤ 40) : am_E ac_X3_moveTail (0, [vR a, vI f, vI t, vU], [], aq_h m s F c) (aq_Z m s F (fun b => b = a + 1 ∨ b = a + 2 ∨ b = a + 3) c (fun r d => r = none ∧ (∀ i, d (a + 1) i = if t ≤ i ∧ i < t + (c a 1 - f) then c (a + 1) (f + (i - t)) else c (a + 1) i) ∧ (∀ i, d (a + 2) i = if t ≤ i ∧ i < t + (c a 1 - f) then c (a + 2) (f + (i - t)) else c (a + 2) i) ∧ (∀ i, d (a + 3) i = if t ≤ i ∧ i < t + (c a 1 - f) then c (a + 3) (f + (i - t)) else c (a + 3) i))) := by
  obtain ⟨hma, hFa, hFn, hFp, hFf⟩ := hA
  refine am_E.go (t2 := (1, [vR a, vI f, vI t, vU], [vR a], aq_h m s F c)) rfl rfl ?_
  refine aq_gf (v := vI (c a 1)) rfl (by omega) hFa (by decide) rfl ?_
  show am_E _ (4, [vR a, vI f, vI t, vU], [vI (c a 1)], aq_h m s F c) _
  refine am_E.go (t2 := (5, [vR a, vI f, vI t, vU], [vI f, vI (c a 1)], aq_h m s F c)) rfl rfl ?_
  refine ae_sub rfl (am_ri (by omega) (by omega)) ?_
  show am_E _ (6, [vR a, vI f, vI t, vU], [vI ((c a 1) - f)], aq_h m s F c) _
  refine am_E.go (t2 := (7, [vR a, vI f, vI t, vI ((c a 1) - f)], [], aq_h m s F c)) rfl rfl ?_
  refine am_E.go (t2 := (8, [vR a, vI f, vI t, vI ((c a 1) - f)], [vR a], aq_h m s F c)) rfl rfl ?_
  refine aq_gf (v := vR (a + 1)) rfl (by omega) hFa (by decide) rfl ?_
  show am_E _ (11, [vR a, vI f, vI t, vI ((c a 1) - f)], [vR (a + 1)], aq_h m s F c) _
  refine am_E.go (t2 := (12, [vR a, vI f, vI t, vI ((c a 1) - f)], [vI f, vR (a + 1)], aq_h m s F c)) rfl rfl ?_
  refine am_E.go (t2 := (13, [vR a, vI f, vI t, vI ((c a 1) - f)], [vR a, vI f, vR (a + 1)], aq_h m s F c)) rfl rfl ?_
  refine aq_gf (v := vR (a + 1)) rfl (by omega) hFa (by decide) rfl ?_
  show am_E _ (16, [vR a, vI f, vI t, vI ((c a 1) - f)], [vR (a + 1), vI f, vR (a + 1)], aq_h m s F c) _
  refine am_E.go (t2 := (17, [vR a, vI f, vI t, vI ((c a 1) - f)], [vI t, vR (a + 1), vI f, vR (a + 1)], aq_h m s F c)) rfl rfl ?_
  refine am_E.go (t2 := (18, [vR a, vI f, vI t, vI ((c a 1) - f)], [vI ((c a 1) - f), vI t, vR (a + 1), vI f, vR (a + 1)], aq_h m s F c)) rfl rfl ?_
  refine aq_cpy (n := (((c a 1) - f) : Int).toNat) (sp := (f : Int).toNat) (dp := (t : Int).toNat) rfl (by omega) (by omega) hFn hFn (by decide) (by omega) (by omega) (by omega) (by omega) (by omega) ?_
  show am_E _ (21, [vR a, vI f, vI t, vI ((c a 1) - f)], [], aq_h m s F (aq_cp c (a + 1) (f : Int).toNat (a + 1) (t : Int).toNat (((c a 1) - f) : Int).toNat)) _
  generalize hdc_1 : aq_cp c (a + 1) (f : Int).toNat (a + 1) (t : Int).toNat (((c a 1) - f) : Int).toNat = c_1
  have sc_1 := aq_smc (aq_sm0 (S := fun b => b = a + 1 ∨ b = a + 2 ∨ b = a + 3)) hdc_1 (Or.inl rfl)
  refine am_E.go (t2 := (22, [vR a, vI f, vI t, vI ((c a 1) - f)], [vR a], aq_h m s F c_1)) rfl rfl ?_
  refine aq_gf (v := vR (a + 2)) rfl (by omega) hFa (by decide) rfl ?_
  show am_E _ (25, [vR a, vI f, vI t, vI ((c a 1) - f)], [vR (a + 2)], aq_h m s F c_1) _
  refine am_E.go (t2 := (26, [vR a, vI f, vI t, vI ((c a 1) - f)], [vI f, vR (a + 2)], aq_h m s F c_1)) rfl rfl ?_
  refine am_E.go (t2 := (27, [vR a, vI f, vI t, vI ((c a 1) - f)], [vR a, vI f, vR (a + 2)], aq_h m s F c_1)) rfl rfl ?_
  refine aq_gf (v := vR (a + 2)) rfl (by omega) hFa (by decide) rfl ?_
  show am_E _ (30, [vR a, vI f, vI t, vI ((c a 1) - f)], [vR (a + 2), vI f, vR (a + 2)], aq_h m s F c_1) _
  refine am_E.go (t2 := (31, [vR a, vI f, vI t, vI ((c a 1) - f)], [vI t, vR (a + 2), vI f, vR (a + 2)], aq_h m s F c_1)) rfl rfl ?_
  refine am_E.go (t2 := (32, [vR a, vI f, vI t, vI ((c a 1) - f)], [vI ((c a 1) - f), vI t, vR (a + 2), vI f, vR (a + 2)], aq_h m s F c_1)) rfl rfl ?_
  refine aq_cpy (n := (((c a 1) - f) : Int).toNat) (sp := (f : Int).toNat) (dp := (t : Int).toNat) rfl (by omega) (by omega) hFp hFp (by decide) (by omega) (by omega) (by omega) (by omega) (by omega) ?_
  show am_E _ (35, [vR a, vI f, vI t, vI ((c a 1) - f)], [], aq_h m s F (aq_cp c_1 (a + 2) (f : Int).toNat (a + 2) (t : Int).toNat (((c a 1) - f) : Int).toNat)) _
  generalize hdc_2 : aq_cp c_1 (a + 2) (f : Int).toNat (a + 2) (t : Int).toNat (((c a 1) - f) : Int).toNat = c_2
  have sc_2 := aq_smc sc_1 hdc_2 (Or.inr (Or.inl rfl))
  refine am_E.go (t2 := (36, [vR a, vI f, vI t, vI ((c a 1) - f)], [vR a], aq_h m s F c_2)) rfl rfl ?_
  refine aq_gf (v := vR (a + 3)) rfl (by omega) hFa (by decide) rfl ?_
  show am_E _ (39, [vR a, vI f, vI t, vI ((c a 1) - f)], [vR (a + 3)], aq_h m s F c_2) _
  refine am_E.go (t2 := (40, [vR a, vI f, vI t, vI ((c a 1) - f)], [vI f, vR (a + 3)], aq_h m s F c_2)) rfl rfl ?_
  refine am_E.go (t2 := (41, [vR a, vI f, vI t, vI ((c a 1) - f)], [vR a, vI f, vR (a + 3)], aq_h m s F c_2)) rfl rfl ?_
  refine aq_gf (v := vR (a + 3)) rfl (by omega) hFa (by decide) rfl ?_
  show am_E _ (44, [vR a, vI f, vI t, vI ((c a 1) - f)], [vR (a + 3), vI f, vR (a + 3)], aq_h m s F c_2) _
  refine am_E.go (t2 := (45, [vR a, vI f, vI t, vI ((c a 1) - f)], [vI t, vR (a + 3), vI f, vR (a + 3)], aq_h m s F c_2)) rfl rfl ?_
  refine am_E.go (t2 := (46, [vR a, vI f, vI t, vI ((c a 1) - f)], [vI ((c a 1) - f), vI t, vR (a + 3), vI f, vR (a + 3)], aq_h m s F c_2)) rfl rfl ?_
  refine aq_cpy (n := (((c a 1) - f) : Int).toNat) (sp := (f : Int).toNat) (dp := (t : Int).toNat) rfl (by omega) (by omega) hFf hFf (by decide) (by omega) (by omega) (by omega) (by omega) (by omega) ?_
  show am_E _ (49, [vR a, vI f, vI t, vI ((c a 1) - f)], [], aq_h m s F (aq_cp c_2 (a + 3) (f : Int).toNat (a + 3) (t : Int).toNat (((c a 1) - f) : Int).toNat)) _
  generalize hdc_3 : aq_cp c_2 (a + 3) (f : Int).toNat (a + 3) (t : Int).toNat (((c a 1) - f) : Int).toNat = c_3
  have sc_3 := aq_smc sc_2 hdc_3 (Or.inr (Or.inr rfl))
  refine am_E.ret rfl rfl ?_
  refine ⟨_, rfl, sc_3, rfl, fun i => ?_, fun i => ?_, fun i => ?_⟩
  · rw [← hdc_3, ← hdc_2, ← hdc_1]; simp only [aq_cp]; simp; split <;> split <;> first | rfl | (congr 1; omega) | omega | (exfalso; omega)
  · rw [← hdc_3, ← hdc_2, ← hdc_1]; simp only [aq_cp]; simp; split <;> split <;> first | rfl | (congr 1; omega) | omega | (exfalso; omega)
  · rw [← hdc_3, ← hdc_2, ← hdc_1]; simp only [aq_cp]; simp; split <;> split <;> first | rfl | (congr 1; omega) | omega | (exfalso; omega)

theorem qn_X3_change {m s : Nat} {F : aq_F} {c : aq_C} {a : Nat} (hA : su_0 m F a) {i f k : Int} (h0 : 0 ≤ i) (h1 : i < c a 1) (hk : su_k a k c) : am_E ac_X3_change (0, [vR a, vI i, vL f, vU], [], aq_h m s F c) (aq_Z m s F (fun b => b = a ∨ b = a + 1 ∨ b = a + 2 ∨ b = a + 3) c (fun r d => ∃ v, r = some (vI v) ∧ (v = 0 ∨ v = 1) ∧ d a 0 = c a 0 ∧ su_k a k d)) := by
  obtain ⟨hma, hFa, hFn, hFp, hFf⟩ := hA
  have hk1 := hk.1
  have hk2 := hk.2.1
  refine am_E.go (t2 := (1, [vR a, vI i, vL f, vU], [vL f], aq_h m s F c)) rfl rfl ?_
  refine am_E.call rfl rfl rfl (Nat.le_of_ble_eq_true rfl) (qn_X3_isFactor) ?_
  rintro r5 h5 ⟨rfl, v_1, rfl, hv_1⟩
  show am_E _ (4, [vR a, vI i, vL f, vU], [vI v_1], aq_h m s F c) _
  refine ae_if0 rfl (fun (q_2 : v_1 ≠ 0) => ?_) (fun (q_2 : v_1 = 0) => ?_)
  · refine am_E.go (t2 := (10, [vR a, vI i, vL f, vU], [vL f], aq_h m s F c)) rfl rfl ?_
    refine am_E.go (t2 := (11, [vR a, vI i, vL f, vU], [vL 0, vL f], aq_h m s F c)) rfl rfl ?_
    have ez_3 := am_lcf f 0
    refine am_E.go (t2 := (12, [vR a, vI i, vL f, vU], [vI (if f < 0 then -1 else if f = 0 then 0 else 1)], aq_h m s F c)) rfl rfl ?_
    generalize (if f < 0 then -1 else if f = 0 then 0 else 1) = z_3 at ez_3 ⊢
    refine ae_if0 rfl (fun (q_4 : z_3 ≠ 0) => ?_) (fun (q_4 : z_3 = 0) => ?_)
    · refine am_E.go (t2 := (37, [vR a, vI i, vL f, vU], [vR a], aq_h m s F c)) rfl rfl ?_
      refine aq_gf (v := vR (a + 3)) rfl (by omega) hFa (by decide) rfl ?_
      show am_E _ (40, [vR a, vI i, vL f, vU], [vR (a + 3)], aq_h m s F c) _
      refine am_E.go (t2 := (41, [vR a, vI i, vL f, vU], [vI i, vR (a + 3)], aq_h m s F c)) rfl rfl ?_
      refine am_E.go (t2 := (42, [vR a, vI i, vL f, vU], [vL f, vI i, vR (a + 3)], aq_h m s F c)) rfl rfl ?_
      refine aq_asl rfl rfl (by omega) hFf (by omega) (by omega) rfl ?_
      show am_E _ (43, [vR a, vI i, vL f, vU], [], aq_h m s F (aq_u c (a + 3) i f)) _
      generalize hdc_5 : aq_u c (a + 3) i f = c_5
      have sc_5 := aq_smu (aq_sm0 (S := (fun b => b = a ∨ b = a + 1 ∨ b = a + 2 ∨ b = a + 3))) hdc_5 (Or.inr (Or.inr (Or.inr rfl)))
      refine am_E.go (t2 := (44, [vR a, vI i, vL f, vU], [vI 1], aq_h m s F c_5)) rfl rfl ?_
      refine am_E.ret rfl rfl ?_
      have g1 : c_5 a 1 = c a 1 := by rw [← hdc_5, aq_un (Or.inl (by omega))]
      refine ⟨_, rfl, sc_5, 1, rfl, Or.inr rfl, by rw [← hdc_5, aq_un (Or.inl (by omega))], by omega, by omega, fun j h5 h6 => ?_⟩
      have k1 := hk.2.2 j h5 (by omega)
      rw [← hdc_5, aq_un (Or.inl (by omega))]
      refine ⟨k1.1, k1.2.1, ?_⟩
      unfold aq_u
      split
      · omega
      · exact k1.2.2
    · refine am_E.go (t2 := (16, [vR a, vI i, vL f, vU], [vR a], aq_h m s F c)) rfl rfl ?_
      refine am_E.go (t2 := (17, [vR a, vI i, vL f, vU], [vI i, vR a], aq_h m s F c)) rfl rfl ?_
      refine am_E.go (t2 := (18, [vR a, vI i, vL f, vU], [vI 1, vI i, vR a], aq_h m s F c)) rfl rfl ?_
      refine ae_add rfl (am_ri (by omega) (by omega)) ?_
      show am_E _ (19, [vR a, vI i, vL f, vU], [vI (i + 1), vR a], aq_h m s F c) _
      refine am_E.go (t2 := (20, [vR a, vI i, vL f, vU], [vI i, vI (i + 1), vR a], aq_h m s F c)) rfl rfl ?_
      refine aq_callv (y := 3) (as2 := [vI (i + 1), vI i]) (rest := []) rfl rfl (by decide) (Nat.le_of_ble_eq_true rfl) rfl rfl (Nat.le_of_ble_eq_true rfl) (by omega) hFa rfl (Nat.le_of_ble_eq_true rfl) (qn_X3_moveTail ⟨hma, hFa, hFn, hFp, hFf⟩ (by omega) (by omega) (by omega) (by omega) (by omega)) ?_
      rintro r5 h5 ⟨c_mt, rfl, sc_mt, rfl, m1, m2, m3⟩
      show am_E _ (23, [vR a, vI i, vL f, vU], [], aq_h m s F c_mt) _
      refine am_E.go (t2 := (24, [vR a, vI i, vL f, vU], [vR a], aq_h m s F c_mt)) rfl rfl ?_
      refine am_E.go (t2 := (25, [vR a, vI i, vL f, vU], [vR a, vR a], aq_h m s F c_mt)) rfl rfl ?_
      refine aq_gf (v := vI (c_mt a 1)) rfl (by omega) hFa (by decide) rfl ?_
      show am_E _ (28, [vR a, vI i, vL f, vU], [vI (c_mt a 1), vR a], aq_h m s F c_mt) _
      have f_6 := sc_mt a (by omega) 1
      refine am_E.go (t2 := (29, [vR a, vI i, vL f, vU], [vI 1, vI (c_mt a 1), vR a], aq_h m s F c_mt)) rfl rfl ?_
      refine ae_sub rfl (am_ri (by omega) (by omega)) ?_
      show am_E _ (30, [vR a, vI i, vL f, vU], [vI ((c_mt a 1) - 1), vR a], aq_h m s F c_mt) _
      refine aq_pf rfl (by omega) hFa (by decide) rfl rfl ?_
      show am_E _ (33, [vR a, vI i, vL f, vU], [], aq_h m s F (aq_u c_mt a 1 ((c_mt a 1) - 1))) _
      generalize hdc_7 : aq_u c_mt a 1 ((c_mt a 1) - 1) = c_7
      have sc_7 := aq_smu (aq_smt (aq_sm0 (S := (fun b => b = a ∨ b = a + 1 ∨ b = a + 2 ∨ b = a + 3))) (aq_smi sc_mt (fun b h => Or.inr h))) hdc_7 (Or.inl rfl)
      refine am_E.go (t2 := (43, [vR a, vI i, vL f, vU], [], aq_h m s F c_7)) rfl rfl ?_
      refine am_E.go (t2 := (44, [vR a, vI i, vL f, vU], [vI 1], aq_h m s F c_7)) rfl rfl ?_
      refine am_E.ret rfl rfl ?_
      have g1 : c_7 a 1 = c a 1 - 1 := by rw [← hdc_7, aq_us, sc_mt a (by omega) 1]
      have g0 : c_7 a 0 = c a 0 := by rw [← hdc_7, aq_un (Or.inr (by omega)), sc_mt a (by omega) 0]
      refine ⟨_, rfl, sc_7, 1, rfl, Or.inr rfl, g0, by omega, by omega, fun j h5 h6 => ?_⟩
      have k1 := hk.2.2 j h5
      have k2 := hk.2.2 (j + 1) (by omega)
      rw [← hdc_7, aq_un (Or.inl (by omega)), aq_un (Or.inl (by omega)), m1 j, m3 j]
      have e : i + 1 + (j - i) = j + 1 := by omega
      rw [e]
      split
      · exact k2 (by omega)
      · exact k1 (by omega)
  · refine am_E.go (t2 := (8, [vR a, vI i, vL f, vU], [vI 0], aq_h m s F c)) rfl rfl ?_
    refine am_E.ret rfl rfl ?_
    exact ⟨_, rfl, (aq_sm0 (S := (fun b => b = a ∨ b = a + 1 ∨ b = a + 2 ∨ b = a + 3))), 0, rfl, Or.inl rfl, rfl, hk⟩

theorem qn_X3_insert {m s : Nat} {F : aq_F} {c : aq_C} {a : Nat} (hA : su_0 m F a) {i b p f k : Int} (h0 : 0 ≤ i) (h1 : i ≤ c a 1) (hb0 : 0 ≤ b) (hbk : b < k) (hf0 : -1000000000000 ≤ f) (hf1 : f ≤ 1000000000000) (hk : su_k a k c) : am_E ac_X3_insert (0, [vR a, vI i, vI b, vI p, vL f, vU], [], aq_h m s F c) (aq_Z m s F (fun b => b = a ∨ b = a + 1 ∨ b = a + 2 ∨ b = a + 3) c (fun r d => ∃ v, r = some (vI v) ∧ (v = 0 ∨ v = 1) ∧ d a 0 = c a 0 ∧ su_k a k d)) := by
  obtain ⟨hma, hFa, hFn, hFp, hFf⟩ := hA
  have hk1 := hk.1
  have hk2 := hk.2.1
  refine am_E.go (t2 := (1, [vR a, vI i, vI b, vI p, vL f, vU], [vR a], aq_h m s F c)) rfl rfl ?_
  refine aq_gf (v := vI (c a 1)) rfl (by omega) hFa (by decide) rfl ?_
  show am_E _ (4, [vR a, vI i, vI b, vI p, vL f, vU], [vI (c a 1)], aq_h m s F c) _
  skip
  refine am_E.go (t2 := (6, [vR a, vI i, vI b, vI p, vL f, vU], [vI 40, vI (c a 1)], aq_h m s F c)) rfl rfl ?_
  refine ae_icmp rfl (fun (q_2 : (c a 1) < 40) => ?_) (fun (q_2 : 40 ≤ (c a 1)) => ?_)
  · refine am_E.go (t2 := (12, [vR a, vI i, vI b, vI p, vL f, vU], [vR a], aq_h m s F c)) rfl rfl ?_
    refine am_E.go (t2 := (13, [vR a, vI i, vI b, vI p, vL f, vU], [vI i, vR a], aq_h m s F c)) rfl rfl ?_
    refine am_E.go (t2 := (14, [vR a, vI i, vI b, vI p, vL f, vU], [vI i, vI i, vR a], aq_h m s F c)) rfl rfl ?_
    refine am_E.go (t2 := (15, [vR a, vI i, vI b, vI p, vL f, vU], [vI 1, vI i, vI i, vR a], aq_h m s F c)) rfl rfl ?_
    refine ae_add rfl (am_ri (by omega) (by omega)) ?_
    show am_E _ (16, [vR a, vI i, vI b, vI p, vL f, vU], [vI (i + 1), vI i, vR a], aq_h m s F c) _
    refine aq_callv (y := 3) (as2 := [vI i, vI (i + 1)]) (rest := []) rfl rfl (by decide) (Nat.le_of_ble_eq_true rfl) rfl rfl (Nat.le_of_ble_eq_true rfl) (by omega) hFa rfl (Nat.le_of_ble_eq_true rfl) (qn_X3_moveTail ⟨hma, hFa, hFn, hFp, hFf⟩ (by omega) (by omega) (by omega) (by omega) (by omega)) ?_
    rintro r5 h5 ⟨c_mt, rfl, sc_mt, rfl, m1, m2, m3⟩
    show am_E _ (19, [vR a, vI i, vI b, vI p, vL f, vU], [], aq_h m s F c_mt) _
    refine am_E.go (t2 := (20, [vR a, vI i, vI b, vI p, vL f, vU], [vR a], aq_h m s F c_mt)) rfl rfl ?_
    refine am_E.go (t2 := (21, [vR a, vI i, vI b, vI p, vL f, vU], [vR a, vR a], aq_h m s F c_mt)) rfl rfl ?_
    refine aq_gf (v := vI (c_mt a 1)) rfl (by omega) hFa (by decide) rfl ?_
    show am_E _ (24, [vR a, vI i, vI b, vI p, vL f, vU], [vI (c_mt a 1), vR a], aq_h m s F c_mt) _
    have f_3 := sc_mt a (by omega) 1
    refine am_E.go (t2 := (25, [vR a, vI i, vI b, vI p, vL f, vU], [vI 1, vI (c_mt a 1), vR a], aq_h m s F c_mt)) rfl rfl ?_
    refine ae_add rfl (am_ri (by omega) (by omega)) ?_
    show am_E _ (26, [vR a, vI i, vI b, vI p, vL f, vU], [vI ((c_mt a 1) + 1), vR a], aq_h m s F c_mt) _
    refine aq_pf rfl (by omega) hFa (by decide) rfl rfl ?_
    show am_E _ (29, [vR a, vI i, vI b, vI p, vL f, vU], [], aq_h m s F (aq_u c_mt a 1 ((c_mt a 1) + 1))) _
    generalize hdc_4 : aq_u c_mt a 1 ((c_mt a 1) + 1) = c_4
    have sc_4 := aq_smu (aq_smt (aq_sm0 (S := (fun b => b = a ∨ b = a + 1 ∨ b = a + 2 ∨ b = a + 3))) (aq_smi sc_mt (fun b h => Or.inr h))) hdc_4 (Or.inl rfl)
    refine am_E.go (t2 := (30, [vR a, vI i, vI b, vI p, vL f, vU], [vR a], aq_h m s F c_4)) rfl rfl ?_
    refine aq_gf (v := vR (a + 1)) rfl (by omega) hFa (by decide) rfl ?_
    show am_E _ (33, [vR a, vI i, vI b, vI p, vL f, vU], [vR (a + 1)], aq_h m s F c_4) _
    refine am_E.go (t2 := (34, [vR a, vI i, vI b, vI p, vL f, vU], [vI i, vR (a + 1)], aq_h m s F c_4)) rfl rfl ?_
    refine am_E.go (t2 := (35, [vR a, vI i, vI b, vI p, vL f, vU], [vI b, vI i, vR (a + 1)], aq_h m s F c_4)) rfl rfl ?_
    refine aq_as (kd := 0) rfl rfl (by omega) hFn (by omega) (by omega) rfl rfl ?_
    show am_E _ (36, [vR a, vI i, vI b, vI p, vL f, vU], [], aq_h m s F (aq_u c_4 (a + 1) i b)) _
    generalize hdc_5 : aq_u c_4 (a + 1) i b = c_5
    have sc_5 := aq_smu sc_4 hdc_5 (Or.inr (Or.inl rfl))
    refine am_E.go (t2 := (37, [vR a, vI i, vI b, vI p, vL f, vU], [vR a], aq_h m s F c_5)) rfl rfl ?_
    refine aq_gf (v := vR (a + 2)) rfl (by omega) hFa (by decide) rfl ?_
    show am_E _ (40, [vR a, vI i, vI b, vI p, vL f, vU], [vR (a + 2)], aq_h m s F c_5) _
    refine am_E.go (t2 := (41, [vR a, vI i, vI b, vI p, vL f, vU], [vI i, vR (a + 2)], aq_h m s F c_5)) rfl rfl ?_
    refine am_E.go (t2 := (42, [vR a, vI i, vI b, vI p, vL f, vU], [vI p, vI i, vR (a + 2)], aq_h m s F c_5)) rfl rfl ?_
    refine aq_as (kd := 0) rfl rfl (by omega) hFp (by omega) (by omega) rfl rfl ?_
    show am_E _ (43, [vR a, vI i, vI b, vI p, vL f, vU], [], aq_h m s F (aq_u c_5 (a + 2) i p)) _
    generalize hdc_6 : aq_u c_5 (a + 2) i p = c_6
    have sc_6 := aq_smu sc_5 hdc_6 (Or.inr (Or.inr (Or.inl rfl)))
    refine am_E.go (t2 := (44, [vR a, vI i, vI b, vI p, vL f, vU], [vR a], aq_h m s F c_6)) rfl rfl ?_
    refine aq_gf (v := vR (a + 3)) rfl (by omega) hFa (by decide) rfl ?_
    show am_E _ (47, [vR a, vI i, vI b, vI p, vL f, vU], [vR (a + 3)], aq_h m s F c_6) _
    refine am_E.go (t2 := (48, [vR a, vI i, vI b, vI p, vL f, vU], [vI i, vR (a + 3)], aq_h m s F c_6)) rfl rfl ?_
    refine am_E.go (t2 := (50, [vR a, vI i, vI b, vI p, vL f, vU], [vL f, vI i, vR (a + 3)], aq_h m s F c_6)) rfl rfl ?_
    refine aq_asl rfl rfl (by omega) hFf (by omega) (by omega) rfl ?_
    show am_E _ (51, [vR a, vI i, vI b, vI p, vL f, vU], [], aq_h m s F (aq_u c_6 (a + 3) i f)) _
    generalize hdc_7 : aq_u c_6 (a + 3) i f = c_7
    have sc_7 := aq_smu sc_6 hdc_7 (Or.inr (Or.inr (Or.inr rfl)))
    refine am_E.go (t2 := (52, [vR a, vI i, vI b, vI p, vL f, vU], [vI 1], aq_h m s F c_7)) rfl rfl ?_
    refine am_E.ret rfl rfl ?_
    have g1 : c_7 a 1 = c a 1 + 1 := by rw [← hdc_7, aq_un (Or.inl (by omega)), ← hdc_6, aq_un (Or.inl (by omega)), ← hdc_5, aq_un (Or.inl (by omega)), ← hdc_4, aq_us, sc_mt a (by omega) 1]
    have g0 : c_7 a 0 = c a 0 := by rw [← hdc_7, aq_un (Or.inl (by omega)), ← hdc_6, aq_un (Or.inl (by omega)), ← hdc_5, aq_un (Or.inl (by omega)), ← hdc_4, aq_un (Or.inr (by omega)), sc_mt a (by omega) 0]
    refine ⟨_, rfl, sc_7, 1, rfl, Or.inr rfl, g0, by omega, by omega, fun j h5 h6 => ?_⟩
    have k1 := hk.2.2 j h5
    have k2 := hk.2.2 (j - 1)
    have n1 : c_7 (a + 1) j = if j = i then b else c_mt (a + 1) j := by
      rw [← hdc_7, aq_un (Or.inl (by omega)), ← hdc_6, aq_un (Or.inl (by omega)), ← hdc_5]
      by_cases e : j = i
      · rw [e, aq_us, if_pos rfl]
      · rw [aq_un (Or.inr e), if_neg e, ← hdc_4, aq_un (Or.inl (by omega))]
    have n3 : c_7 (a + 3) j = if j = i then f else c_mt (a + 3) j := by
      rw [← hdc_7]
      by_cases e : j = i
      · rw [e, aq_us, if_pos rfl]
      · rw [aq_un (Or.inr e), if_neg e, ← hdc_6, aq_un (Or.inl (by omega)), ← hdc_5, aq_un (Or.inl (by omega)), ← hdc_4, aq_un (Or.inl (by omega))]
    rw [n1, n3]
    by_cases e9 : j = i
    · rw [if_pos e9, if_pos e9]; exact ⟨hb0, hbk, hf0, hf1⟩
    · rw [if_neg e9, if_neg e9, m1 j, m3 j]
      have e : i + (j - (i + 1)) = j - 1 := by omega
      rw [e]
      split
      · exact k2 (by omega) (by omega)
      · exact k1 (by omega)
  · refine am_E.go (t2 := (10, [vR a, vI i, vI b, vI p, vL f, vU], [vI 0], aq_h m s F c)) rfl rfl ?_
    refine am_E.ret rfl rfl ?_
    exact ⟨_, rfl, (aq_sm0 (S := (fun b => b = a ∨ b = a + 1 ∨ b = a + 2 ∨ b = a + 3))), 0, rfl, Or.inl rfl, rfl, hk⟩

theorem qn_join_l {m s : Nat} {F : aq_F} {c : aq_C} {a : Nat} (hA : su_0 m F a) {b p f k : Int} (hb0 : 0 ≤ b) (hbk : b < k) (hk : su_k a k c) : ∀ (d : Nat) (i : Int) (h0 : 0 ≤ i) (h1 : i ≤ c a 1) (hd : c a 1 - i < (d : Int)) (K0 : ∀ (i2 : Int) (f1 : 0 ≤ i2) (f2 : i2 ≤ c a 1), am_E ac_X3_join (66, [vR a, vI b, vI p, vL f, vU, vI i2], [], aq_h m s F c) (aq_Z m s F (fun b => b = a ∨ b = a + 1 ∨ b = a + 2 ∨ b = a + 3) c (fun r d => ∃ v, r = some (vI v) ∧ (v = 0 ∨ v = 1) ∧ d a 0 = c a 0 ∧ su_k a k d))), am_E ac_X3_join (18, [vR a, vI b, vI p, vL f, vU, vI i], [], aq_h m s F c) (aq_Z m s F (fun b => b = a ∨ b = a + 1 ∨ b = a + 2 ∨ b = a + 3) c (fun r d => ∃ v, r = some (vI v) ∧ (v = 0 ∨ v = 1) ∧ d a 0 = c a 0 ∧ su_k a k d))
  | 0, i, h0, h1, hd, K0 => by exfalso; omega
  | d + 1, i, h0, h1, hd, K0 => by
    obtain ⟨hma, hFa, hFn, hFp, hFf⟩ := hA
    have hk1 := hk.1
    have hk2 := hk.2.1
    refine am_E.go (t2 := (20, [vR a, vI b, vI p, vL f, vU, vI i], [vI i], aq_h m s F c)) rfl rfl ?_
    refine am_E.go (t2 := (21, [vR a, vI b, vI p, vL f, vU, vI i], [vR a, vI i], aq_h m s F c)) rfl rfl ?_
    refine aq_gf (v := vI (c a 1)) rfl (by omega) hFa (by decide) rfl ?_
    show am_E _ (24, [vR a, vI b, vI p, vL f, vU, vI i], [vI (c a 1), vI i], aq_h m s F c) _
    skip
    refine ae_icmp rfl (fun (q_2 : (c a 1) ≤ i) => ?_) (fun (q_2 : i < (c a 1)) => ?_)
    · exact K0 i (by omega) (by omega)
    · refine am_E.go (t2 := (28, [vR a, vI b, vI p, vL f, vU, vI i], [vR a], aq_h m s F c)) rfl rfl ?_
      refine aq_gf (v := vR (a + 1)) rfl (by omega) hFa (by decide) rfl ?_
      show am_E _ (31, [vR a, vI b, vI p, vL f, vU, vI i], [vR (a + 1)], aq_h m s F c) _
      refine am_E.go (t2 := (33, [vR a, vI b, vI p, vL f, vU, vI i], [vI i, vR (a + 1)], aq_h m s F c)) rfl rfl ?_
      refine aq_al (ok := fun k => k == 0) (v := vI (c (a + 1) i)) rfl rfl (by omega) hFn rfl (by omega) (by omega) rfl ?_
      show am_E _ (34, [vR a, vI b, vI p, vL f, vU, vI i], [vI (c (a + 1) i)], aq_h m s F c) _
      refine am_E.go (t2 := (35, [vR a, vI b, vI p, vL f, vU, vI i], [vI b, vI (c (a + 1) i)], aq_h m s F c)) rfl rfl ?_
      refine ae_icmp rfl (fun (q_3 : (c (a + 1) i) < b) => ?_) (fun (q_3 : b ≤ (c (a + 1) i)) => ?_)
      · refine ae_iinc rfl rfl (am_ri (by omega) (by omega)) ?_
        show am_E _ (63, [vR a, vI b, vI p, vL f, vU, vI (i + 1)], [], aq_h m s F c) _
        refine am_E.go (t2 := (18, [vR a, vI b, vI p, vL f, vU, vI (i + 1)], [], aq_h m s F c)) rfl rfl ?_
        exact qn_join_l ⟨hma, hFa, hFn, hFp, hFf⟩ hb0 hbk hk d (i + 1) (by omega) (by omega) (by omega) K0
      · refine am_E.go (t2 := (39, [vR a, vI b, vI p, vL f, vU, vI i], [vR a], aq_h m s F c)) rfl rfl ?_
        refine aq_gf (v := vR (a + 1)) rfl (by omega) hFa (by decide) rfl ?_
        show am_E _ (42, [vR a, vI b, vI p, vL f, vU, vI i], [vR (a + 1)], aq_h m s F c) _
        refine am_E.go (t2 := (44, [vR a, vI b, vI p, vL f, vU, vI i], [vI i, vR (a + 1)], aq_h m s F c)) rfl rfl ?_
        refine aq_al (ok := fun k => k == 0) (v := vI (c (a + 1) i)) rfl rfl (by omega) hFn rfl (by omega) (by omega) rfl ?_
        show am_E _ (45, [vR a, vI b, vI p, vL f, vU, vI i], [vI (c (a + 1) i)], aq_h m s F c) _
        refine am_E.go (t2 := (46, [vR a, vI b, vI p, vL f, vU, vI i], [vI b, vI (c (a + 1) i)], aq_h m s F c)) rfl rfl ?_
        refine ae_icmp rfl (fun (q_4 : (c (a + 1) i) ≠ b) => ?_) (fun (q_4 : (c (a + 1) i) = b) => ?_)
        · exact K0 i (by omega) (by omega)
        · refine am_E.go (t2 := (50, [vR a, vI b, vI p, vL f, vU, vI i], [vR a], aq_h m s F c)) rfl rfl ?_
          refine aq_gf (v := vR (a + 2)) rfl (by omega) hFa (by decide) rfl ?_
          show am_E _ (53, [vR a, vI b, vI p, vL f, vU, vI i], [vR (a + 2)], aq_h m s F c) _
          refine am_E.go (t2 := (55, [vR a, vI b, vI p, vL f, vU, vI i], [vI i, vR (a + 2)], aq_h m s F c)) rfl rfl ?_
          refine aq_al (ok := fun k => k == 0) (v := vI (c (a + 2) i)) rfl rfl (by omega) hFp rfl (by omega) (by omega) rfl ?_
          show am_E _ (56, [vR a, vI b, vI p, vL f, vU, vI i], [vI (c (a + 2) i)], aq_h m s F c) _
          refine am_E.go (t2 := (57, [vR a, vI b, vI p, vL f, vU, vI i], [vI p, vI (c (a + 2) i)], aq_h m s F c)) rfl rfl ?_
          refine ae_icmp rfl (fun (q_5 : p ≤ (c (a + 2) i)) => ?_) (fun (q_5 : (c (a + 2) i) < p) => ?_)
          · exact K0 i (by omega) (by omega)
          · refine ae_iinc rfl rfl (am_ri (by omega) (by omega)) ?_
            show am_E _ (63, [vR a, vI b, vI p, vL f, vU, vI (i + 1)], [], aq_h m s F c) _
            refine am_E.go (t2 := (18, [vR a, vI b, vI p, vL f, vU, vI (i + 1)], [], aq_h m s F c)) rfl rfl ?_
            exact qn_join_l ⟨hma, hFa, hFn, hFp, hFf⟩ hb0 hbk hk d (i + 1) (by omega) (by omega) (by omega) K0

theorem qn_X3_join {m s : Nat} {F : aq_F} {c : aq_C} {a : Nat} (hA : su_0 m F a) {b p f k : Int} (hb0 : 0 ≤ b) (hbk : b < k) (hk : su_k a k c) : am_E ac_X3_join (0, [vR a, vI b, vI p, vL f, vU, vU], [], aq_h m s F c) (aq_Z m s F (fun b => b = a ∨ b = a + 1 ∨ b = a + 2 ∨ b = a + 3) c (fun r d => ∃ v, r = some (vI v) ∧ (v = 0 ∨ v = 1) ∧ d a 0 = c a 0 ∧ su_k a k d)) := by
  obtain ⟨hma, hFa, hFn, hFp, hFf⟩ := hA
  have hk1 := hk.1
  have hk2 := hk.2.1
  refine am_E.go (t2 := (1, [vR a, vI b, vI p, vL f, vU, vU], [vI p], aq_h m s F c)) rfl rfl ?_
  refine am_E.go (t2 := (3, [vR a, vI b, vI p, vL f, vU, vU], [vI 20, vI p], aq_h m s F c)) rfl rfl ?_
  refine ae_icmp rfl (fun (q_1 : 20 < p) => ?_) (fun (q_1 : p ≤ 20) => ?_)
  · refine am_E.go (t2 := (14, [vR a, vI b, vI p, vL f, vU, vU], [vI 0], aq_h m s F c)) rfl rfl ?_
    refine am_E.ret rfl rfl ?_
    exact ⟨_, rfl, (aq_sm0 (S := (fun b => b = a ∨ b = a + 1 ∨ b = a + 2 ∨ b = a + 3))), _, rfl, by omega, rfl, hk⟩
  · refine am_E.go (t2 := (7, [vR a, vI b, vI p, vL f, vU, vU], [vL f], aq_h m s F c)) rfl rfl ?_
    refine am_E.call rfl rfl rfl (Nat.le_of_ble_eq_true rfl) (qn_X3_isFactor) ?_
    rintro r5 h5 ⟨rfl, v_2, rfl, hv_2⟩
    show am_E _ (10, [vR a, vI b, vI p, vL f, vU, vU], [vI v_2], aq_h m s F c) _
    refine ae_if0 rfl (fun (q_3 : v_2 ≠ 0) => ?_) (fun (q_3 : v_2 = 0) => ?_)
    · refine am_E.go (t2 := (16, [vR a, vI b, vI p, vL f, vU, vU], [vI 0], aq_h m s F c)) rfl rfl ?_
      refine am_E.go (t2 := (18, [vR a, vI b, vI p, vL f, vU, vI 0], [], aq_h m s F c)) rfl rfl ?_
      refine qn_join_l ⟨hma, hFa, hFn, hFp, hFf⟩ hb0 hbk hk 41 0 (by omega) (by omega) (by omega) ?_
      · intro i2_18 f1_18 f2_18
        refine am_E.go (t2 := (67, [vR a, vI b, vI p, vL f, vU, vI i2_18], [vR a], aq_h m s F c)) rfl rfl ?_
        refine am_E.go (t2 := (69, [vR a, vI b, vI p, vL f, vU, vI i2_18], [vI i2_18, vR a], aq_h m s F c)) rfl rfl ?_
        refine am_E.go (t2 := (70, [vR a, vI b, vI p, vL f, vU, vI i2_18], [vI b, vI i2_18, vR a], aq_h m s F c)) rfl rfl ?_
        refine am_E.go (t2 := (71, [vR a, vI b, vI p, vL f, vU, vI i2_18], [vI p, vI b, vI i2_18, vR a], aq_h m s F c)) rfl rfl ?_
        refine aq_callv (y := 4) (as2 := [vI i2_18, vI b, vI p]) (rest := []) rfl rfl (by decide) (Nat.le_of_ble_eq_true rfl) rfl rfl (Nat.le_of_ble_eq_true rfl) (by omega) hFa rfl (Nat.le_of_ble_eq_true rfl) (qn_X3_isAt (a := a) ⟨hma, hFa, hFn, hFp, hFf⟩ (by omega) (by omega)) ?_
        rintro r5 h5 ⟨rfl, v_5, rfl, hv_5⟩
        show am_E _ (74, [vR a, vI b, vI p, vL f, vU, vI i2_18], [vI v_5], aq_h m s F c) _
        refine ae_if0 rfl (fun (q_6 : v_5 = 0) => ?_) (fun (q_6 : v_5 ≠ 0) => ?_)
        · refine am_E.go (t2 := (94, [vR a, vI b, vI p, vL f, vU, vI i2_18], [vL f], aq_h m s F c)) rfl rfl ?_
          refine am_E.go (t2 := (95, [vR a, vI b, vI p, vL f, vU, vI i2_18], [vL 0, vL f], aq_h m s F c)) rfl rfl ?_
          have ez_7 := am_lcf f 0
          refine am_E.go (t2 := (96, [vR a, vI b, vI p, vL f, vU, vI i2_18], [vI (if f < 0 then -1 else if f = 0 then 0 else 1)], aq_h m s F c)) rfl rfl ?_
          generalize (if f < 0 then -1 else if f = 0 then 0 else 1) = z_7 at ez_7 ⊢
          refine ae_if0 rfl (fun (q_8 : z_7 ≠ 0) => ?_) (fun (q_8 : z_7 = 0) => ?_)
          · refine am_E.go (t2 := (102, [vR a, vI b, vI p, vL f, vU, vI i2_18], [vR a], aq_h m s F c)) rfl rfl ?_
            refine am_E.go (t2 := (104, [vR a, vI b, vI p, vL f, vU, vI i2_18], [vI i2_18, vR a], aq_h m s F c)) rfl rfl ?_
            refine am_E.go (t2 := (105, [vR a, vI b, vI p, vL f, vU, vI i2_18], [vI b, vI i2_18, vR a], aq_h m s F c)) rfl rfl ?_
            refine am_E.go (t2 := (106, [vR a, vI b, vI p, vL f, vU, vI i2_18], [vI p, vI b, vI i2_18, vR a], aq_h m s F c)) rfl rfl ?_
            refine am_E.go (t2 := (107, [vR a, vI b, vI p, vL f, vU, vI i2_18], [vL f, vI p, vI b, vI i2_18, vR a], aq_h m s F c)) rfl rfl ?_
            refine aq_callv (y := 5) (as2 := [vI i2_18, vI b, vI p, vL f]) (rest := []) rfl rfl (by decide) (Nat.le_of_ble_eq_true rfl) rfl rfl (Nat.le_of_ble_eq_true rfl) (by omega) hFa rfl (Nat.le_of_ble_eq_true rfl) (qn_X3_insert ⟨hma, hFa, hFn, hFp, hFf⟩ (by omega) (by omega) hb0 hbk (by omega) (by omega) hk) ?_
            rintro r5 h5 ⟨c_j, rfl, sc_j, v_j, rfl, hv_j, e_j, hk_j⟩
            show am_E _ (110, [vR a, vI b, vI p, vL f, vU, vI i2_18], [vI v_j], aq_h m s F c_j) _
            refine ae_retb rfl (by omega) ?_
            exact ⟨_, rfl, (aq_smt (aq_sm0 (S := (fun b => b = a ∨ b = a + 1 ∨ b = a + 2 ∨ b = a + 3))) sc_j), v_j, rfl, hv_j, e_j, hk_j⟩
          · refine am_E.go (t2 := (100, [vR a, vI b, vI p, vL f, vU, vI i2_18], [vI 1], aq_h m s F c)) rfl rfl ?_
            refine am_E.ret rfl rfl ?_
            exact ⟨_, rfl, (aq_sm0 (S := (fun b => b = a ∨ b = a + 1 ∨ b = a + 2 ∨ b = a + 3))), _, rfl, by omega, rfl, hk⟩
        · refine am_E.go (t2 := (78, [vR a, vI b, vI p, vL f, vU, vI i2_18], [vR a], aq_h m s F c)) rfl rfl ?_
          refine am_E.go (t2 := (80, [vR a, vI b, vI p, vL f, vU, vI i2_18], [vI i2_18, vR a], aq_h m s F c)) rfl rfl ?_
          refine am_E.go (t2 := (81, [vR a, vI b, vI p, vL f, vU, vI i2_18], [vR a, vI i2_18, vR a], aq_h m s F c)) rfl rfl ?_
          refine aq_gf (v := vR (a + 3)) rfl (by omega) hFa (by decide) rfl ?_
          show am_E _ (84, [vR a, vI b, vI p, vL f, vU, vI i2_18], [vR (a + 3), vI i2_18, vR a], aq_h m s F c) _
          refine am_E.go (t2 := (86, [vR a, vI b, vI p, vL f, vU, vI i2_18], [vI i2_18, vR (a + 3), vI i2_18, vR a], aq_h m s F c)) rfl rfl ?_
          refine aq_al (ok := fun k => k == 2) (v := vL (c (a + 3) i2_18)) rfl rfl (by omega) hFf rfl (by omega) (by omega) rfl ?_
          show am_E _ (87, [vR a, vI b, vI p, vL f, vU, vI i2_18], [vL (c (a + 3) i2_18), vI i2_18, vR a], aq_h m s F c) _
          refine am_E.go (t2 := (88, [vR a, vI b, vI p, vL f, vU, vI i2_18], [vL f, vL (c (a + 3) i2_18), vI i2_18, vR a], aq_h m s F c)) rfl rfl ?_
          refine am_E.go (t2 := (89, [vR a, vI b, vI p, vL f, vU, vI i2_18], [vL (am_wl ((c (a + 3) i2_18) + f)), vI i2_18, vR a], aq_h m s F c)) rfl rfl ?_
          refine aq_callv (y := 3) (as2 := [vI i2_18, vL (am_wl ((c (a + 3) i2_18) + f))]) (rest := []) rfl rfl (by decide) (Nat.le_of_ble_eq_true rfl) rfl rfl (Nat.le_of_ble_eq_true rfl) (by omega) hFa rfl (Nat.le_of_ble_eq_true rfl) (qn_X3_change ⟨hma, hFa, hFn, hFp, hFf⟩ (by omega) (by omega) hk) ?_
          rintro r5 h5 ⟨c_j, rfl, sc_j, v_j, rfl, hv_j, e_j, hk_j⟩
          show am_E _ (92, [vR a, vI b, vI p, vL f, vU, vI i2_18], [vI v_j], aq_h m s F c_j) _
          refine ae_retb rfl (by omega) ?_
          exact ⟨_, rfl, (aq_smt (aq_sm0 (S := (fun b => b = a ∨ b = a + 1 ∨ b = a + 2 ∨ b = a + 3))) sc_j), v_j, rfl, hv_j, e_j, hk_j⟩
    · refine am_E.go (t2 := (14, [vR a, vI b, vI p, vL f, vU, vU], [vI 0], aq_h m s F c)) rfl rfl ?_
      refine am_E.ret rfl rfl ?_
      exact ⟨_, rfl, (aq_sm0 (S := (fun b => b = a ∨ b = a + 1 ∨ b = a + 2 ∨ b = a + 3))), _, rfl, by omega, rfl, hk⟩

theorem qn_joinAll_l {m s : Nat} {F : aq_F} {c0 : aq_C} {a : Nat} (hA : su_0 m F a) {k g : Int} {t : Nat} (hAt : su_0 m F t) (hkt : su_k t k c0) (hnt : t + 3 < a ∨ a + 3 < t) : ∀ (d : Nat) (i : Int) (c : aq_C) (hs : aq_sm (fun b => b = a ∨ b = a + 1 ∨ b = a + 2 ∨ b = a + 3) c0 c) (h0 : 0 ≤ i) (h1 : i ≤ c0 t 1) (e0 : c a 0 = c0 a 0) (hk : su_k a k c) (hd : c0 t 1 - i < (d : Int)), am_E ac_X3_joinAll (2, [vR a, vR t, vI g, vI i], [], aq_h m s F c) (aq_Z m s F (fun b => b = a ∨ b = a + 1 ∨ b = a + 2 ∨ b = a + 3) c0 (fun r d => ∃ v, r = some (vI v) ∧ (v = 0 ∨ v = 1) ∧ d a 0 = c0 a 0 ∧ su_k a k d))
  | 0, i, c, hs, h0, h1, e0, hk, hd => by exfalso; omega
  | d + 1, i, c, hs, h0, h1, e0, hk, hd => by
    obtain ⟨hma, hFa, hFn, hFp, hFf⟩ := hA
    obtain ⟨hmat, hFat, hFnt, hFpt, hFft⟩ := hAt
    have hkt1 := hkt.1
    have hkt2 := hkt.2.1
    refine am_E.go (t2 := (3, [vR a, vR t, vI g, vI i], [vI i], aq_h m s F c)) rfl rfl ?_
    refine am_E.go (t2 := (4, [vR a, vR t, vI g, vI i], [vR t, vI i], aq_h m s F c)) rfl rfl ?_
    refine aq_gf (v := vI (c t 1)) rfl (by omega) hFat (by decide) rfl ?_
    show am_E _ (7, [vR a, vR t, vI g, vI i], [vI (c t 1), vI i], aq_h m s F c) _
    have f_1 := hs t (by omega) 1
    refine ae_icmp rfl (fun (q_2 : (c t 1) ≤ i) => ?_) (fun (q_2 : i < (c t 1)) => ?_)
    · refine am_E.go (t2 := (47, [vR a, vR t, vI g, vI i], [vI 1], aq_h m s F c)) rfl rfl ?_
      refine am_E.ret rfl rfl ?_
      exact ⟨_, rfl, hs, _, rfl, by omega, e0, hk⟩
    · refine am_E.go (t2 := (11, [vR a, vR t, vI g, vI i], [vR a], aq_h m s F c)) rfl rfl ?_
      refine am_E.go (t2 := (12, [vR a, vR t, vI g, vI i], [vR t, vR a], aq_h m s F c)) rfl rfl ?_
      refine aq_gf (v := vR (t + 1)) rfl (by omega) hFat (by decide) rfl ?_
      show am_E _ (15, [vR a, vR t, vI g, vI i], [vR (t + 1), vR a], aq_h m s F c) _
      refine am_E.go (t2 := (16, [vR a, vR t, vI g, vI i], [vI i, vR (t + 1), vR a], aq_h m s F c)) rfl rfl ?_
      refine aq_al (ok := fun k => k == 0) (v := vI (c (t + 1) i)) rfl rfl (by omega) hFnt rfl (by omega) (by omega) rfl ?_
      show am_E _ (17, [vR a, vR t, vI g, vI i], [vI (c (t + 1) i), vR a], aq_h m s F c) _
      have f_3 := hs (t + 1) (by omega) i
      have f_3k := hkt.2.2 i (by omega) (by omega)
      refine am_E.go (t2 := (18, [vR a, vR t, vI g, vI i], [vR t, vI (c (t + 1) i), vR a], aq_h m s F c)) rfl rfl ?_
      refine aq_gf (v := vR (t + 2)) rfl (by omega) hFat (by decide) rfl ?_
      show am_E _ (21, [vR a, vR t, vI g, vI i], [vR (t + 2), vI (c (t + 1) i), vR a], aq_h m s F c) _
      refine am_E.go (t2 := (22, [vR a, vR t, vI g, vI i], [vI i, vR (t + 2), vI (c (t + 1) i), vR a], aq_h m s F c)) rfl rfl ?_
      refine aq_al (ok := fun k => k == 0) (v := vI (c (t + 2) i)) rfl rfl (by omega) hFpt rfl (by omega) (by omega) rfl ?_
      show am_E _ (23, [vR a, vR t, vI g, vI i], [vI (c (t + 2) i), vI (c (t + 1) i), vR a], aq_h m s F c) _
      refine am_E.go (t2 := (24, [vR a, vR t, vI g, vI i], [vI g, vI (c (t + 2) i), vI (c (t + 1) i), vR a], aq_h m s F c)) rfl rfl ?_
      refine am_E.go (t2 := (25, [vR a, vR t, vI g, vI i], [vL g, vI (c (t + 2) i), vI (c (t + 1) i), vR a], aq_h m s F c)) rfl rfl ?_
      refine am_E.go (t2 := (26, [vR a, vR t, vI g, vI i], [vR t, vL g, vI (c (t + 2) i), vI (c (t + 1) i), vR a], aq_h m s F c)) rfl rfl ?_
      refine aq_gf (v := vR (t + 3)) rfl (by omega) hFat (by decide) rfl ?_
      show am_E _ (29, [vR a, vR t, vI g, vI i], [vR (t + 3), vL g, vI (c (t + 2) i), vI (c (t + 1) i), vR a], aq_h m s F c) _
      refine am_E.go (t2 := (30, [vR a, vR t, vI g, vI i], [vI i, vR (t + 3), vL g, vI (c (t + 2) i), vI (c (t + 1) i), vR a], aq_h m s F c)) rfl rfl ?_
      refine aq_al (ok := fun k => k == 2) (v := vL (c (t + 3) i)) rfl rfl (by omega) hFft rfl (by omega) (by omega) rfl ?_
      show am_E _ (31, [vR a, vR t, vI g, vI i], [vL (c (t + 3) i), vL g, vI (c (t + 2) i), vI (c (t + 1) i), vR a], aq_h m s F c) _
      have f_4 := hs (t + 3) (by omega) i
      have f_4k := hkt.2.2 i (by omega) (by omega)
      refine am_E.go (t2 := (32, [vR a, vR t, vI g, vI i], [vL (am_wl (g * (c (t + 3) i))), vI (c (t + 2) i), vI (c (t + 1) i), vR a], aq_h m s F c)) rfl rfl ?_
      refine aq_callv (y := 4) (as2 := [vI (c (t + 1) i), vI (c (t + 2) i), vL (am_wl (g * (c (t + 3) i)))]) (rest := []) rfl rfl (by decide) (Nat.le_of_ble_eq_true rfl) rfl rfl (Nat.le_of_ble_eq_true rfl) (by omega) hFa rfl (Nat.le_of_ble_eq_true rfl) (qn_X3_join ⟨hma, hFa, hFn, hFp, hFf⟩ (by omega) (by omega) hk) ?_
      rintro r5 h5 ⟨c_j, rfl, sc_j, v_j, rfl, hv_j, e_j, hk_j⟩
      show am_E _ (35, [vR a, vR t, vI g, vI i], [vI v_j], aq_h m s F c_j) _
      refine ae_if0 rfl (fun (q_5 : v_j ≠ 0) => ?_) (fun (q_5 : v_j = 0) => ?_)
      · refine ae_iinc rfl rfl (am_ri (by omega) (by omega)) ?_
        show am_E _ (43, [vR a, vR t, vI g, vI (i + 1)], [], aq_h m s F c_j) _
        refine am_E.go (t2 := (2, [vR a, vR t, vI g, vI (i + 1)], [], aq_h m s F c_j)) rfl rfl ?_
        exact qn_joinAll_l ⟨hma, hFa, hFn, hFp, hFf⟩ ⟨hmat, hFat, hFnt, hFpt, hFft⟩ hkt hnt d (i + 1) c_j (aq_smt hs sc_j) (by omega) (by omega) (by rw [e_j]; exact e0) hk_j (by omega)
      · refine am_E.go (t2 := (39, [vR a, vR t, vI g, vI i], [vI 0], aq_h m s F c_j)) rfl rfl ?_
        refine am_E.ret rfl rfl ?_
        exact ⟨_, rfl, (aq_smt hs sc_j), _, rfl, by omega, by rw [e_j]; exact e0, hk_j⟩

theorem qn_X3_joinAll {m s : Nat} {F : aq_F} {c : aq_C} {a : Nat} (hA : su_0 m F a) {k g : Int} {t : Nat} (hAt : su_0 m F t) (hkt : su_k t k c) (hnt : t + 3 < a ∨ a + 3 < t) (hk : su_k a k c) : am_E ac_X3_joinAll (0, [vR a, vR t, vI g, vU], [], aq_h m s F c) (aq_Z m s F (fun b => b = a ∨ b = a + 1 ∨ b = a + 2 ∨ b = a + 3) c (fun r d => ∃ v, r = some (vI v) ∧ (v = 0 ∨ v = 1) ∧ d a 0 = c a 0 ∧ su_k a k d)) := by
  obtain ⟨hma, hFa, hFn, hFp, hFf⟩ := hA
  obtain ⟨hmat, hFat, hFnt, hFpt, hFft⟩ := hAt
  have hkt1 := hkt.1
  have hkt2 := hkt.2.1
  refine am_E.go (t2 := (1, [vR a, vR t, vI g, vU], [vI 0], aq_h m s F c)) rfl rfl ?_
  refine am_E.go (t2 := (2, [vR a, vR t, vI g, vI 0], [], aq_h m s F c)) rfl rfl ?_
  exact qn_joinAll_l ⟨hma, hFa, hFn, hFp, hFf⟩ ⟨hmat, hFat, hFnt, hFpt, hFft⟩ hkt hnt 41 0 c (aq_sm0 (S := (fun b => b = a ∨ b = a + 1 ∨ b = a + 2 ∨ b = a + 3))) (by omega) (by omega) rfl hk (by omega)

theorem qn_X3_fitsProduct {m s : Nat} {F : aq_F} {c : aq_C} {f g : Int} (hg0 : -1000000000000 ≤ g) (hg1 : g ≤ 1000000000000) : am_E ac_X3_fitsProduct (0, [vL f, vU, vL g, vU], [], aq_h m s F c) (aq_P m s F c aq_vb) := by
  refine am_E.go (t2 := (1, [vL f, vU, vL g, vU], [vL g], aq_h m s F c)) rfl rfl ?_
  refine am_E.go (t2 := (2, [vL f, vU, vL g, vU], [vL 0, vL g], aq_h m s F c)) rfl rfl ?_
  have ez_1 := am_lcf g 0
  refine am_E.go (t2 := (3, [vL f, vU, vL g, vU], [vI (if g < 0 then -1 else if g = 0 then 0 else 1)], aq_h m s F c)) rfl rfl ?_
  generalize (if g < 0 then -1 else if g = 0 then 0 else 1) = z_1 at ez_1 ⊢
  refine ae_if0 rfl (fun (q_2 : z_1 = 0) => ?_) (fun (q_2 : z_1 ≠ 0) => ?_)
  · refine am_E.go (t2 := (23, [vL f, vU, vL g, vU], [vI 1], aq_h m s F c)) rfl rfl ?_
    refine am_E.go (t2 := (27, [vL f, vU, vL g, vU], [vI 1], aq_h m s F c)) rfl rfl ?_
    refine am_E.ret rfl rfl ?_
    exact ⟨rfl, _, rfl, by omega⟩
  · refine am_E.go (t2 := (7, [vL f, vU, vL g, vU], [vL f], aq_h m s F c)) rfl rfl ?_
    refine am_E.call rfl rfl rfl (Nat.le_of_ble_eq_true rfl) (rn_J9_absl _) ?_
    rintro r5 h5 ⟨rfl, v_3, rfl, hv_3⟩
    show am_E _ (10, [vL f, vU, vL g, vU], [vL v_3], aq_h m s F c) _
    refine am_E.go (t2 := (13, [vL f, vU, vL g, vU], [vL 1000000000000, vL v_3], aq_h m s F c)) rfl rfl ?_
    refine am_E.go (t2 := (14, [vL f, vU, vL g, vU], [vL g, vL 1000000000000, vL v_3], aq_h m s F c)) rfl rfl ?_
    refine am_E.call rfl rfl rfl (Nat.le_of_ble_eq_true rfl) (rn_J9_absl _) ?_
    rintro r5 h5 ⟨rfl, v_4, rfl, hv_4⟩
    show am_E _ (17, [vL f, vU, vL g, vU], [vL v_4, vL 1000000000000, vL v_3], aq_h m s F c) _
    refine ae_binl (z := am_wl ((1000000000000 : Int).tdiv v_4)) rfl rfl (am_divl_s (by have := am_wl_id (x := -g) (am_rl (by omega) (by omega)); omega)) ?_
    show am_E _ (18, [vL f, vU, vL g, vU], [vL (am_wl ((1000000000000 : Int).tdiv v_4)), vL v_3], aq_h m s F c) _
    have ez_5 := am_lcf v_3 (am_wl ((1000000000000 : Int).tdiv v_4))
    refine am_E.go (t2 := (19, [vL f, vU, vL g, vU], [vI (if v_3 < (am_wl ((1000000000000 : Int).tdiv v_4)) then -1 else if v_3 = (am_wl ((1000000000000 : Int).tdiv v_4)) then 0 else 1)], aq_h m s F c)) rfl rfl ?_
    generalize (if v_3 < (am_wl ((1000000000000 : Int).tdiv v_4)) then -1 else if v_3 = (am_wl ((1000000000000 : Int).tdiv v_4)) then 0 else 1) = z_5 at ez_5 ⊢
    refine ae_if0 rfl (fun (q_6 : 0 < z_5) => ?_) (fun (q_6 : z_5 ≤ 0) => ?_)
    · refine am_E.go (t2 := (27, [vL f, vU, vL g, vU], [vI 0], aq_h m s F c)) rfl rfl ?_
      refine am_E.ret rfl rfl ?_
      exact ⟨rfl, _, rfl, by omega⟩
    · refine am_E.go (t2 := (23, [vL f, vU, vL g, vU], [vI 1], aq_h m s F c)) rfl rfl ?_
      refine am_E.go (t2 := (27, [vL f, vU, vL g, vU], [vI 1], aq_h m s F c)) rfl rfl ?_
      refine am_E.ret rfl rfl ?_
      exact ⟨rfl, _, rfl, by omega⟩

theorem qn_joinProducts_in {m s : Nat} {F : aq_F} {c0 : aq_C} {a : Nat} (hA : su_0 m F a) {k : Int} {t : Nat} (hAt : su_0 m F t) (hkt : su_k t k c0) (hnt : t + 3 < a ∨ a + 3 < t) {u : Nat} (hAu : su_0 m F u) (hku : su_k u k c0) (hnu : u + 3 < a ∨ a + 3 < u) {o n K : Nat} (hB : bx_0 m F o n K) {tL : Int → Int} {tG tN : Int → Int → Int} (hT : bx_w F o n K tL tG tN) (hkK : k = (K : Int)) : ∀ (d : Nat) (i : Int) (j : Int) (v6 : am_V) (v7 : am_V) (c : aq_C) (hs : aq_sm (fun b => b = a ∨ b = a + 1 ∨ b = a + 2 ∨ b = a + 3) c0 c) (h0 : 0 ≤ i) (h1 : i < c0 t 1) (h2 : 0 ≤ j) (h3 : j ≤ c0 u 1) (e0 : c a 0 = c0 a 0) (hk : su_k a k c) (hd : c0 u 1 - j < (d : Int)) (K0 : ∀ (j2 : Int) (v62 : am_V) (v72 : am_V) (c2 : aq_C) (hs2 : aq_sm (fun b => b = a ∨ b = a + 1 ∨ b = a + 2 ∨ b = a + 3) c0 c2) (e2 : c2 a 0 = c0 a 0) (hk2 : su_k a k c2), am_E ac_X3_joinProducts (128, [vR a, vR t, vR u, vR o, vI i, vI j2, v62, v72], [], aq_h m s F c2) (aq_Z m s F (fun b => b = a ∨ b = a + 1 ∨ b = a + 2 ∨ b = a + 3) c0 (fun r d => ∃ v, r = some (vI v) ∧ (v = 0 ∨ v = 1) ∧ d a 0 = c0 a 0 ∧ su_k a k d))), am_E ac_X3_joinProducts (15, [vR a, vR t, vR u, vR o, vI i, vI j, v6, v7], [], aq_h m s F c) (aq_Z m s F (fun b => b = a ∨ b = a + 1 ∨ b = a + 2 ∨ b = a + 3) c0 (fun r d => ∃ v, r = some (vI v) ∧ (v = 0 ∨ v = 1) ∧ d a 0 = c0 a 0 ∧ su_k a k d))
  | 0, i, j, v6, v7, c, hs, h0, h1, h2, h3, e0, hk, hd, K0 => by exfalso; omega
  | d + 1, i, j, v6, v7, c, hs, h0, h1, h2, h3, e0, hk, hd, K0 => by
    obtain ⟨hma, hFa, hFn, hFp, hFf⟩ := hA
    obtain ⟨hmat, hFat, hFnt, hFpt, hFft⟩ := hAt
    have hkt1 := hkt.1
    have hkt2 := hkt.2.1
    obtain ⟨hmau, hFau, hFnu, hFpu, hFfu⟩ := hAu
    have hku1 := hku.1
    have hku2 := hku.2.1
    obtain ⟨hm, hn1, hn4, hK, hFo, hFd, hFs⟩ := hB
    obtain ⟨hL, hGg, hGr, hNg, hNr, hLt, hGt, hNt⟩ := hT
    refine am_E.go (t2 := (17, [vR a, vR t, vR u, vR o, vI i, vI j, v6, v7], [vI j], aq_h m s F c)) rfl rfl ?_
    refine am_E.go (t2 := (18, [vR a, vR t, vR u, vR o, vI i, vI j, v6, v7], [vR u, vI j], aq_h m s F c)) rfl rfl ?_
    refine aq_gf (v := vI (c u 1)) rfl (by omega) hFau (by decide) rfl ?_
    show am_E _ (21, [vR a, vR t, vR u, vR o, vI i, vI j, v6, v7], [vI (c u 1), vI j], aq_h m s F c) _
    have f_1 := hs u (by omega) 1
    refine ae_icmp rfl (fun (q_2 : (c u 1) ≤ j) => ?_) (fun (q_2 : j < (c u 1)) => ?_)
    · exact K0 j (v6) (v7) c hs e0 hk
    · refine am_E.go (t2 := (25, [vR a, vR t, vR u, vR o, vI i, vI j, v6, v7], [vR t], aq_h m s F c)) rfl rfl ?_
      refine aq_gf (v := vR (t + 3)) rfl (by omega) hFat (by decide) rfl ?_
      show am_E _ (28, [vR a, vR t, vR u, vR o, vI i, vI j, v6, v7], [vR (t + 3)], aq_h m s F c) _
      refine am_E.go (t2 := (30, [vR a, vR t, vR u, vR o, vI i, vI j, v6, v7], [vI i, vR (t + 3)], aq_h m s F c)) rfl rfl ?_
      refine aq_al (ok := fun k => k == 2) (v := vL (c (t + 3) i)) rfl rfl (by omega) hFft rfl (by omega) (by omega) rfl ?_
      show am_E _ (31, [vR a, vR t, vR u, vR o, vI i, vI j, v6, v7], [vL (c (t + 3) i)], aq_h m s F c) _
      have f_3 := hs (t + 3) (by omega) i
      have f_3k := hkt.2.2 i (by omega) (by omega)
      refine am_E.go (t2 := (32, [vR a, vR t, vR u, vR o, vI i, vI j, v6, v7], [vR u, vL (c (t + 3) i)], aq_h m s F c)) rfl rfl ?_
      refine aq_gf (v := vR (u + 3)) rfl (by omega) hFau (by decide) rfl ?_
      show am_E _ (35, [vR a, vR t, vR u, vR o, vI i, vI j, v6, v7], [vR (u + 3), vL (c (t + 3) i)], aq_h m s F c) _
      refine am_E.go (t2 := (37, [vR a, vR t, vR u, vR o, vI i, vI j, v6, v7], [vI j, vR (u + 3), vL (c (t + 3) i)], aq_h m s F c)) rfl rfl ?_
      refine aq_al (ok := fun k => k == 2) (v := vL (c (u + 3) j)) rfl rfl (by omega) hFfu rfl (by omega) (by omega) rfl ?_
      show am_E _ (38, [vR a, vR t, vR u, vR o, vI i, vI j, v6, v7], [vL (c (u + 3) j), vL (c (t + 3) i)], aq_h m s F c) _
      have f_4 := hs (u + 3) (by omega) j
      have f_4k := hku.2.2 j (by omega) (by omega)
      refine am_E.call rfl rfl rfl (Nat.le_of_ble_eq_true rfl) (qn_X3_fitsProduct (by omega) (by omega)) ?_
      rintro r5 h5 ⟨rfl, v_5, rfl, hv_5⟩
      show am_E _ (41, [vR a, vR t, vR u, vR o, vI i, vI j, v6, v7], [vI v_5], aq_h m s F c) _
      refine ae_if0 rfl (fun (q_6 : v_5 ≠ 0) => ?_) (fun (q_6 : v_5 = 0) => ?_)
      · refine am_E.go (t2 := (47, [vR a, vR t, vR u, vR o, vI i, vI j, v6, v7], [vR o], aq_h m s F c)) rfl rfl ?_
        refine am_E.go (t2 := (48, [vR a, vR t, vR u, vR o, vI i, vI j, v6, v7], [vR t, vR o], aq_h m s F c)) rfl rfl ?_
        refine aq_gf (v := vR (t + 1)) rfl (by omega) hFat (by decide) rfl ?_
        show am_E _ (51, [vR a, vR t, vR u, vR o, vI i, vI j, v6, v7], [vR (t + 1), vR o], aq_h m s F c) _
        refine am_E.go (t2 := (53, [vR a, vR t, vR u, vR o, vI i, vI j, v6, v7], [vI i, vR (t + 1), vR o], aq_h m s F c)) rfl rfl ?_
        refine aq_al (ok := fun k => k == 0) (v := vI (c (t + 1) i)) rfl rfl (by omega) hFnt rfl (by omega) (by omega) rfl ?_
        show am_E _ (54, [vR a, vR t, vR u, vR o, vI i, vI j, v6, v7], [vI (c (t + 1) i), vR o], aq_h m s F c) _
        have f_7 := hs (t + 1) (by omega) i
        have f_7k := hkt.2.2 i (by omega) (by omega)
        refine am_E.go (t2 := (55, [vR a, vR t, vR u, vR o, vI i, vI j, v6, v7], [vR u, vI (c (t + 1) i), vR o], aq_h m s F c)) rfl rfl ?_
        refine aq_gf (v := vR (u + 1)) rfl (by omega) hFau (by decide) rfl ?_
        show am_E _ (58, [vR a, vR t, vR u, vR o, vI i, vI j, v6, v7], [vR (u + 1), vI (c (t + 1) i), vR o], aq_h m s F c) _
        refine am_E.go (t2 := (60, [vR a, vR t, vR u, vR o, vI i, vI j, v6, v7], [vI j, vR (u + 1), vI (c (t + 1) i), vR o], aq_h m s F c)) rfl rfl ?_
        refine aq_al (ok := fun k => k == 0) (v := vI (c (u + 1) j)) rfl rfl (by omega) hFnu rfl (by omega) (by omega) rfl ?_
        show am_E _ (61, [vR a, vR t, vR u, vR o, vI i, vI j, v6, v7], [vI (c (u + 1) j), vI (c (t + 1) i), vR o], aq_h m s F c) _
        have f_8 := hs (u + 1) (by omega) j
        have f_8k := hku.2.2 j (by omega) (by omega)
        refine aq_callv (y := 3) (as2 := [vI (c (t + 1) i), vI (c (u + 1) j)]) (rest := []) rfl rfl (by decide) (Nat.le_of_ble_eq_true rfl) rfl rfl (Nat.le_of_ble_eq_true rfl) (by omega) hFo rfl (Nat.le_of_ble_eq_true rfl) (qn_X0_stackOn ⟨hm, hn1, hn4, hK, hFo, hFd, hFs⟩ ⟨hL, hGg, hGr, hNg, hNr, hLt, hGt, hNt⟩ (by omega) (by omega) (by omega) (by omega)) ?_
        rintro r5 h5 ⟨rfl, v_9, rfl, hv_9⟩
        show am_E _ (64, [vR a, vR t, vR u, vR o, vI i, vI j, v6, v7], [vI v_9], aq_h m s F c) _
        refine am_E.go (t2 := (66, [vR a, vR t, vR u, vR o, vI i, vI j, vI v_9, v7], [], aq_h m s F c)) rfl rfl ?_
        refine am_E.go (t2 := (67, [vR a, vR t, vR u, vR o, vI i, vI j, vI v_9, v7], [vR t], aq_h m s F c)) rfl rfl ?_
        refine aq_gf (v := vR (t + 2)) rfl (by omega) hFat (by decide) rfl ?_
        show am_E _ (70, [vR a, vR t, vR u, vR o, vI i, vI j, vI v_9, v7], [vR (t + 2)], aq_h m s F c) _
        refine am_E.go (t2 := (72, [vR a, vR t, vR u, vR o, vI i, vI j, vI v_9, v7], [vI i, vR (t + 2)], aq_h m s F c)) rfl rfl ?_
        refine aq_al (ok := fun k => k == 0) (v := vI (c (t + 2) i)) rfl rfl (by omega) hFpt rfl (by omega) (by omega) rfl ?_
        show am_E _ (73, [vR a, vR t, vR u, vR o, vI i, vI j, vI v_9, v7], [vI (c (t + 2) i)], aq_h m s F c) _
        refine am_E.go (t2 := (74, [vR a, vR t, vR u, vR o, vI i, vI j, vI v_9, v7], [vR u, vI (c (t + 2) i)], aq_h m s F c)) rfl rfl ?_
        refine aq_gf (v := vR (u + 2)) rfl (by omega) hFau (by decide) rfl ?_
        show am_E _ (77, [vR a, vR t, vR u, vR o, vI i, vI j, vI v_9, v7], [vR (u + 2), vI (c (t + 2) i)], aq_h m s F c) _
        refine am_E.go (t2 := (79, [vR a, vR t, vR u, vR o, vI i, vI j, vI v_9, v7], [vI j, vR (u + 2), vI (c (t + 2) i)], aq_h m s F c)) rfl rfl ?_
        refine aq_al (ok := fun k => k == 0) (v := vI (c (u + 2) j)) rfl rfl (by omega) hFpu rfl (by omega) (by omega) rfl ?_
        show am_E _ (80, [vR a, vR t, vR u, vR o, vI i, vI j, vI v_9, v7], [vI (c (u + 2) j), vI (c (t + 2) i)], aq_h m s F c) _
        refine am_E.go (t2 := (81, [vR a, vR t, vR u, vR o, vI i, vI j, vI v_9, v7], [vI (am_w ((c (t + 2) i) + (c (u + 2) j)))], aq_h m s F c)) rfl rfl ?_
        refine am_E.go (t2 := (83, [vR a, vR t, vR u, vR o, vI i, vI j, vI v_9, v7], [vI v_9, vI (am_w ((c (t + 2) i) + (c (u + 2) j)))], aq_h m s F c)) rfl rfl ?_
        refine am_E.go (t2 := (86, [vR a, vR t, vR u, vR o, vI i, vI j, vI v_9, v7], [vI 1000, vI v_9, vI (am_w ((c (t + 2) i) + (c (u + 2) j)))], aq_h m s F c)) rfl rfl ?_
        refine ae_bin (z := v_9 / 1000) rfl rfl (am_div_e (by omega) (by omega) (by decide)) ?_
        show am_E _ (87, [vR a, vR t, vR u, vR o, vI i, vI j, vI v_9, v7], [vI (v_9 / 1000), vI (am_w ((c (t + 2) i) + (c (u + 2) j)))], aq_h m s F c) _
        refine am_E.go (t2 := (88, [vR a, vR t, vR u, vR o, vI i, vI j, vI v_9, v7], [vI (am_w ((am_w ((c (t + 2) i) + (c (u + 2) j))) + (v_9 / 1000)))], aq_h m s F c)) rfl rfl ?_
        refine am_E.go (t2 := (90, [vR a, vR t, vR u, vR o, vI i, vI j, vI v_9, vI (am_w ((am_w ((c (t + 2) i) + (c (u + 2) j))) + (v_9 / 1000)))], [], aq_h m s F c)) rfl rfl ?_
        refine am_E.go (t2 := (91, [vR a, vR t, vR u, vR o, vI i, vI j, vI v_9, vI (am_w ((am_w ((c (t + 2) i) + (c (u + 2) j))) + (v_9 / 1000)))], [vR a], aq_h m s F c)) rfl rfl ?_
        refine am_E.go (t2 := (93, [vR a, vR t, vR u, vR o, vI i, vI j, vI v_9, vI (am_w ((am_w ((c (t + 2) i) + (c (u + 2) j))) + (v_9 / 1000)))], [vI v_9, vR a], aq_h m s F c)) rfl rfl ?_
        refine am_E.go (t2 := (96, [vR a, vR t, vR u, vR o, vI i, vI j, vI v_9, vI (am_w ((am_w ((c (t + 2) i) + (c (u + 2) j))) + (v_9 / 1000)))], [vI 1000, vI v_9, vR a], aq_h m s F c)) rfl rfl ?_
        refine ae_bin (z := v_9 % 1000) rfl rfl (am_rem_e (by omega) (by decide)) ?_
        show am_E _ (97, [vR a, vR t, vR u, vR o, vI i, vI j, vI v_9, vI (am_w ((am_w ((c (t + 2) i) + (c (u + 2) j))) + (v_9 / 1000)))], [vI (v_9 % 1000), vR a], aq_h m s F c) _
        refine am_E.go (t2 := (99, [vR a, vR t, vR u, vR o, vI i, vI j, vI v_9, vI (am_w ((am_w ((c (t + 2) i) + (c (u + 2) j))) + (v_9 / 1000)))], [vI (am_w ((am_w ((c (t + 2) i) + (c (u + 2) j))) + (v_9 / 1000))), vI (v_9 % 1000), vR a], aq_h m s F c)) rfl rfl ?_
        refine am_E.go (t2 := (100, [vR a, vR t, vR u, vR o, vI i, vI j, vI v_9, vI (am_w ((am_w ((c (t + 2) i) + (c (u + 2) j))) + (v_9 / 1000)))], [vR t, vI (am_w ((am_w ((c (t + 2) i) + (c (u + 2) j))) + (v_9 / 1000))), vI (v_9 % 1000), vR a], aq_h m s F c)) rfl rfl ?_
        refine aq_gf (v := vR (t + 3)) rfl (by omega) hFat (by decide) rfl ?_
        show am_E _ (103, [vR a, vR t, vR u, vR o, vI i, vI j, vI v_9, vI (am_w ((am_w ((c (t + 2) i) + (c (u + 2) j))) + (v_9 / 1000)))], [vR (t + 3), vI (am_w ((am_w ((c (t + 2) i) + (c (u + 2) j))) + (v_9 / 1000))), vI (v_9 % 1000), vR a], aq_h m s F c) _
        refine am_E.go (t2 := (105, [vR a, vR t, vR u, vR o, vI i, vI j, vI v_9, vI (am_w ((am_w ((c (t + 2) i) + (c (u + 2) j))) + (v_9 / 1000)))], [vI i, vR (t + 3), vI (am_w ((am_w ((c (t + 2) i) + (c (u + 2) j))) + (v_9 / 1000))), vI (v_9 % 1000), vR a], aq_h m s F c)) rfl rfl ?_
        refine aq_al (ok := fun k => k == 2) (v := vL (c (t + 3) i)) rfl rfl (by omega) hFft rfl (by omega) (by omega) rfl ?_
        show am_E _ (106, [vR a, vR t, vR u, vR o, vI i, vI j, vI v_9, vI (am_w ((am_w ((c (t + 2) i) + (c (u + 2) j))) + (v_9 / 1000)))], [vL (c (t + 3) i), vI (am_w ((am_w ((c (t + 2) i) + (c (u + 2) j))) + (v_9 / 1000))), vI (v_9 % 1000), vR a], aq_h m s F c) _
        have f_10 := hs (t + 3) (by omega) i
        have f_10k := hkt.2.2 i (by omega) (by omega)
        refine am_E.go (t2 := (107, [vR a, vR t, vR u, vR o, vI i, vI j, vI v_9, vI (am_w ((am_w ((c (t + 2) i) + (c (u + 2) j))) + (v_9 / 1000)))], [vR u, vL (c (t + 3) i), vI (am_w ((am_w ((c (t + 2) i) + (c (u + 2) j))) + (v_9 / 1000))), vI (v_9 % 1000), vR a], aq_h m s F c)) rfl rfl ?_
        refine aq_gf (v := vR (u + 3)) rfl (by omega) hFau (by decide) rfl ?_
        show am_E _ (110, [vR a, vR t, vR u, vR o, vI i, vI j, vI v_9, vI (am_w ((am_w ((c (t + 2) i) + (c (u + 2) j))) + (v_9 / 1000)))], [vR (u + 3), vL (c (t + 3) i), vI (am_w ((am_w ((c (t + 2) i) + (c (u + 2) j))) + (v_9 / 1000))), vI (v_9 % 1000), vR a], aq_h m s F c) _
        refine am_E.go (t2 := (112, [vR a, vR t, vR u, vR o, vI i, vI j, vI v_9, vI (am_w ((am_w ((c (t + 2) i) + (c (u + 2) j))) + (v_9 / 1000)))], [vI j, vR (u + 3), vL (c (t + 3) i), vI (am_w ((am_w ((c (t + 2) i) + (c (u + 2) j))) + (v_9 / 1000))), vI (v_9 % 1000), vR a], aq_h m s F c)) rfl rfl ?_
        refine aq_al (ok := fun k => k == 2) (v := vL (c (u + 3) j)) rfl rfl (by omega) hFfu rfl (by omega) (by omega) rfl ?_
        show am_E _ (113, [vR a, vR t, vR u, vR o, vI i, vI j, vI v_9, vI (am_w ((am_w ((c (t + 2) i) + (c (u + 2) j))) + (v_9 / 1000)))], [vL (c (u + 3) j), vL (c (t + 3) i), vI (am_w ((am_w ((c (t + 2) i) + (c (u + 2) j))) + (v_9 / 1000))), vI (v_9 % 1000), vR a], aq_h m s F c) _
        have f_11 := hs (u + 3) (by omega) j
        have f_11k := hku.2.2 j (by omega) (by omega)
        refine am_E.go (t2 := (114, [vR a, vR t, vR u, vR o, vI i, vI j, vI v_9, vI (am_w ((am_w ((c (t + 2) i) + (c (u + 2) j))) + (v_9 / 1000)))], [vL (am_wl ((c (t + 3) i) * (c (u + 3) j))), vI (am_w ((am_w ((c (t + 2) i) + (c (u + 2) j))) + (v_9 / 1000))), vI (v_9 % 1000), vR a], aq_h m s F c)) rfl rfl ?_
        refine aq_callv (y := 4) (as2 := [vI (v_9 % 1000), vI (am_w ((am_w ((c (t + 2) i) + (c (u + 2) j))) + (v_9 / 1000))), vL (am_wl ((c (t + 3) i) * (c (u + 3) j)))]) (rest := []) rfl rfl (by decide) (Nat.le_of_ble_eq_true rfl) rfl rfl (Nat.le_of_ble_eq_true rfl) (by omega) hFa rfl (Nat.le_of_ble_eq_true rfl) (qn_X3_join ⟨hma, hFa, hFn, hFp, hFf⟩ (by omega) (by omega) hk) ?_
        rintro r5 h5 ⟨c_j, rfl, sc_j, v_j, rfl, hv_j, e_j, hk_j⟩
        show am_E _ (117, [vR a, vR t, vR u, vR o, vI i, vI j, vI v_9, vI (am_w ((am_w ((c (t + 2) i) + (c (u + 2) j))) + (v_9 / 1000)))], [vI v_j], aq_h m s F c_j) _
        refine ae_if0 rfl (fun (q_12 : v_j ≠ 0) => ?_) (fun (q_12 : v_j = 0) => ?_)
        · refine ae_iinc rfl rfl (am_ri (by omega) (by omega)) ?_
          show am_E _ (125, [vR a, vR t, vR u, vR o, vI i, vI (j + 1), vI v_9, vI (am_w ((am_w ((c (t + 2) i) + (c (u + 2) j))) + (v_9 / 1000)))], [], aq_h m s F c_j) _
          refine am_E.go (t2 := (15, [vR a, vR t, vR u, vR o, vI i, vI (j + 1), vI v_9, vI (am_w ((am_w ((c (t + 2) i) + (c (u + 2) j))) + (v_9 / 1000)))], [], aq_h m s F c_j)) rfl rfl ?_
          exact qn_joinProducts_in ⟨hma, hFa, hFn, hFp, hFf⟩ ⟨hmat, hFat, hFnt, hFpt, hFft⟩ hkt hnt ⟨hmau, hFau, hFnu, hFpu, hFfu⟩ hku hnu ⟨hm, hn1, hn4, hK, hFo, hFd, hFs⟩ ⟨hL, hGg, hGr, hNg, hNr, hLt, hGt, hNt⟩ hkK d i (j + 1) (vI v_9) (vI (am_w ((am_w ((c (t + 2) i) + (c (u + 2) j))) + (v_9 / 1000)))) c_j (aq_smt hs sc_j) (by omega) (by omega) (by omega) (by omega) (by rw [e_j]; exact e0) hk_j (by omega) K0
        · refine am_E.go (t2 := (121, [vR a, vR t, vR u, vR o, vI i, vI j, vI v_9, vI (am_w ((am_w ((c (t + 2) i) + (c (u + 2) j))) + (v_9 / 1000)))], [vI 0], aq_h m s F c_j)) rfl rfl ?_
          refine am_E.ret rfl rfl ?_
          exact ⟨_, rfl, (aq_smt hs sc_j), _, rfl, by omega, by rw [e_j]; exact e0, hk_j⟩
      · refine am_E.go (t2 := (45, [vR a, vR t, vR u, vR o, vI i, vI j, v6, v7], [vI 0], aq_h m s F c)) rfl rfl ?_
        refine am_E.ret rfl rfl ?_
        exact ⟨_, rfl, hs, _, rfl, by omega, e0, hk⟩

theorem qn_joinProducts_out {m s : Nat} {F : aq_F} {c0 : aq_C} {a : Nat} (hA : su_0 m F a) {k : Int} {t : Nat} (hAt : su_0 m F t) (hkt : su_k t k c0) (hnt : t + 3 < a ∨ a + 3 < t) {u : Nat} (hAu : su_0 m F u) (hku : su_k u k c0) (hnu : u + 3 < a ∨ a + 3 < u) {o n K : Nat} (hB : bx_0 m F o n K) {tL : Int → Int} {tG tN : Int → Int → Int} (hT : bx_w F o n K tL tG tN) (hkK : k = (K : Int)) : ∀ (d : Nat) (i : Int) (v5 : am_V) (v6 : am_V) (v7 : am_V) (c : aq_C) (hs : aq_sm (fun b => b = a ∨ b = a + 1 ∨ b = a + 2 ∨ b = a + 3) c0 c) (h0 : 0 ≤ i) (h1 : i ≤ c0 t 1) (e0 : c a 0 = c0 a 0) (hk : su_k a k c) (hd : c0 t 1 - i < (d : Int)), am_E ac_X3_joinProducts (3, [vR a, vR t, vR u, vR o, vI i, v5, v6, v7], [], aq_h m s F c) (aq_Z m s F (fun b => b = a ∨ b = a + 1 ∨ b = a + 2 ∨ b = a + 3) c0 (fun r d => ∃ v, r = some (vI v) ∧ (v = 0 ∨ v = 1) ∧ d a 0 = c0 a 0 ∧ su_k a k d))
  | 0, i, v5, v6, v7, c, hs, h0, h1, e0, hk, hd => by exfalso; omega
  | d + 1, i, v5, v6, v7, c, hs, h0, h1, e0, hk, hd => by
    obtain ⟨hma, hFa, hFn, hFp, hFf⟩ := hA
    obtain ⟨hmat, hFat, hFnt, hFpt, hFft⟩ := hAt
    have hkt1 := hkt.1
    have hkt2 := hkt.2.1
    obtain ⟨hmau, hFau, hFnu, hFpu, hFfu⟩ := hAu
    have hku1 := hku.1
    have hku2 := hku.2.1
    obtain ⟨hm, hn1, hn4, hK, hFo, hFd, hFs⟩ := hB
    obtain ⟨hL, hGg, hGr, hNg, hNr, hLt, hGt, hNt⟩ := hT
    refine am_E.go (t2 := (5, [vR a, vR t, vR u, vR o, vI i, v5, v6, v7], [vI i], aq_h m s F c)) rfl rfl ?_
    refine am_E.go (t2 := (6, [vR a, vR t, vR u, vR o, vI i, v5, v6, v7], [vR t, vI i], aq_h m s F c)) rfl rfl ?_
    refine aq_gf (v := vI (c t 1)) rfl (by omega) hFat (by decide) rfl ?_
    show am_E _ (9, [vR a, vR t, vR u, vR o, vI i, v5, v6, v7], [vI (c t 1), vI i], aq_h m s F c) _
    have f_1 := hs t (by omega) 1
    refine ae_icmp rfl (fun (q_2 : (c t 1) ≤ i) => ?_) (fun (q_2 : i < (c t 1)) => ?_)
    · refine am_E.go (t2 := (135, [vR a, vR t, vR u, vR o, vI i, v5, v6, v7], [vI 1], aq_h m s F c)) rfl rfl ?_
      refine am_E.ret rfl rfl ?_
      exact ⟨_, rfl, hs, _, rfl, by omega, e0, hk⟩
    · refine am_E.go (t2 := (13, [vR a, vR t, vR u, vR o, vI i, v5, v6, v7], [vI 0], aq_h m s F c)) rfl rfl ?_
      refine am_E.go (t2 := (15, [vR a, vR t, vR u, vR o, vI i, vI 0, v6, v7], [], aq_h m s F c)) rfl rfl ?_
      refine qn_joinProducts_in ⟨hma, hFa, hFn, hFp, hFf⟩ ⟨hmat, hFat, hFnt, hFpt, hFft⟩ hkt hnt ⟨hmau, hFau, hFnu, hFpu, hFfu⟩ hku hnu ⟨hm, hn1, hn4, hK, hFo, hFd, hFs⟩ ⟨hL, hGg, hGr, hNg, hNr, hLt, hGt, hNt⟩ hkK 41 i 0 (v6) (v7) c hs (by omega) (by omega) (by omega) (by omega) e0 hk (by omega) ?_
      · intro j2_15 v62_15 v72_15 c_3 sc_3 e2_15 hk2_15
        refine ae_iinc rfl rfl (am_ri (by omega) (by omega)) ?_
        show am_E _ (131, [vR a, vR t, vR u, vR o, vI (i + 1), vI j2_15, v62_15, v72_15], [], aq_h m s F c_3) _
        refine am_E.go (t2 := (3, [vR a, vR t, vR u, vR o, vI (i + 1), vI j2_15, v62_15, v72_15], [], aq_h m s F c_3)) rfl rfl ?_
        exact qn_joinProducts_out ⟨hma, hFa, hFn, hFp, hFf⟩ ⟨hmat, hFat, hFnt, hFpt, hFft⟩ hkt hnt ⟨hmau, hFau, hFnu, hFpu, hFfu⟩ hku hnu ⟨hm, hn1, hn4, hK, hFo, hFd, hFs⟩ ⟨hL, hGg, hGr, hNg, hNr, hLt, hGt, hNt⟩ hkK d (i + 1) (vI j2_15) (v62_15) (v72_15) c_3 sc_3 (by omega) (by omega) e2_15 hk2_15 (by omega)

theorem qn_X3_joinProducts {m s : Nat} {F : aq_F} {c : aq_C} {a : Nat} (hA : su_0 m F a) {k : Int} {t : Nat} (hAt : su_0 m F t) (hkt : su_k t k c) (hnt : t + 3 < a ∨ a + 3 < t) {u : Nat} (hAu : su_0 m F u) (hku : su_k u k c) (hnu : u + 3 < a ∨ a + 3 < u) {o n K : Nat} (hB : bx_0 m F o n K) {tL : Int → Int} {tG tN : Int → Int → Int} (hT : bx_w F o n K tL tG tN) (hkK : k = (K : Int)) (hk : su_k a k c) : am_E ac_X3_joinProducts (0, [vR a, vR t, vR u, vR o, vU, vU, vU, vU], [], aq_h m s F c) (aq_Z m s F (fun b => b = a ∨ b = a + 1 ∨ b = a + 2 ∨ b = a + 3) c (fun r d => ∃ v, r = some (vI v) ∧ (v = 0 ∨ v = 1) ∧ d a 0 = c a 0 ∧ su_k a k d)) := by
  obtain ⟨hma, hFa, hFn, hFp, hFf⟩ := hA
  obtain ⟨hmat, hFat, hFnt, hFpt, hFft⟩ := hAt
  have hkt1 := hkt.1
  have hkt2 := hkt.2.1
  obtain ⟨hmau, hFau, hFnu, hFpu, hFfu⟩ := hAu
  have hku1 := hku.1
  have hku2 := hku.2.1
  obtain ⟨hm, hn1, hn4, hK, hFo, hFd, hFs⟩ := hB
  obtain ⟨hL, hGg, hGr, hNg, hNr, hLt, hGt, hNt⟩ := hT
  refine am_E.go (t2 := (1, [vR a, vR t, vR u, vR o, vU, vU, vU, vU], [vI 0], aq_h m s F c)) rfl rfl ?_
  refine am_E.go (t2 := (3, [vR a, vR t, vR u, vR o, vI 0, vU, vU, vU], [], aq_h m s F c)) rfl rfl ?_
  exact qn_joinProducts_out ⟨hma, hFa, hFn, hFp, hFf⟩ ⟨hmat, hFat, hFnt, hFpt, hFft⟩ hkt hnt ⟨hmau, hFau, hFnu, hFpu, hFfu⟩ hku hnu ⟨hm, hn1, hn4, hK, hFo, hFd, hFs⟩ ⟨hL, hGg, hGr, hNg, hNr, hLt, hGt, hNt⟩ hkK 41 0 (vU) (vU) (vU) c (aq_sm0 (S := (fun b => b = a ∨ b = a + 1 ∨ b = a + 2 ∨ b = a + 3))) (by omega) (by omega) rfl hk (by omega)

theorem qn_isLike_l {m s : Nat} {F : aq_F} {c : aq_C} {a : Nat} (hA : su_0 m F a) {t : Nat} (hAt : su_0 m F t) (h40 : c a 1 ≤ 40) : ∀ (d : Nat) (i : Int) (h0 : 0 ≤ i) (h1 : i ≤ 40) (hd : max 0 (c a 1 - i) < (d : Int)), am_E ac_X3_isLike (26, [vR a, vR t, vI i], [], aq_h m s F c) (aq_P m s F c aq_vb)
  | 0, i, h0, h1, hd => by exfalso; omega
  | d + 1, i, h0, h1, hd => by
    obtain ⟨hma, hFa, hFn, hFp, hFf⟩ := hA
    obtain ⟨hmat, hFat, hFnt, hFpt, hFft⟩ := hAt
    refine am_E.go (t2 := (27, [vR a, vR t, vI i], [vI i], aq_h m s F c)) rfl rfl ?_
    refine am_E.go (t2 := (28, [vR a, vR t, vI i], [vR a, vI i], aq_h m s F c)) rfl rfl ?_
    refine aq_gf (v := vI (c a 1)) rfl (by omega) hFa (by decide) rfl ?_
    show am_E _ (31, [vR a, vR t, vI i], [vI (c a 1), vI i], aq_h m s F c) _
    skip
    refine ae_icmp rfl (fun (q_2 : (c a 1) ≤ i) => ?_) (fun (q_2 : i < (c a 1)) => ?_)
    · refine am_E.go (t2 := (79, [vR a, vR t, vI i], [vI 1], aq_h m s F c)) rfl rfl ?_
      refine am_E.ret rfl rfl ?_
      exact ⟨rfl, _, rfl, by omega⟩
    · refine am_E.go (t2 := (35, [vR a, vR t, vI i], [vR a], aq_h m s F c)) rfl rfl ?_
      refine am_E.go (t2 := (36, [vR a, vR t, vI i], [vI i, vR a], aq_h m s F c)) rfl rfl ?_
      refine am_E.go (t2 := (37, [vR a, vR t, vI i], [vR t, vI i, vR a], aq_h m s F c)) rfl rfl ?_
      refine aq_gf (v := vR (t + 1)) rfl (by omega) hFat (by decide) rfl ?_
      show am_E _ (40, [vR a, vR t, vI i], [vR (t + 1), vI i, vR a], aq_h m s F c) _
      refine am_E.go (t2 := (41, [vR a, vR t, vI i], [vI i, vR (t + 1), vI i, vR a], aq_h m s F c)) rfl rfl ?_
      refine aq_al (ok := fun k => k == 0) (v := vI (c (t + 1) i)) rfl rfl (by omega) hFnt rfl (by omega) (by omega) rfl ?_
      show am_E _ (42, [vR a, vR t, vI i], [vI (c (t + 1) i), vI i, vR a], aq_h m s F c) _
      refine am_E.go (t2 := (43, [vR a, vR t, vI i], [vR t, vI (c (t + 1) i), vI i, vR a], aq_h m s F c)) rfl rfl ?_
      refine aq_gf (v := vR (t + 2)) rfl (by omega) hFat (by decide) rfl ?_
      show am_E _ (46, [vR a, vR t, vI i], [vR (t + 2), vI (c (t + 1) i), vI i, vR a], aq_h m s F c) _
      refine am_E.go (t2 := (47, [vR a, vR t, vI i], [vI i, vR (t + 2), vI (c (t + 1) i), vI i, vR a], aq_h m s F c)) rfl rfl ?_
      refine aq_al (ok := fun k => k == 0) (v := vI (c (t + 2) i)) rfl rfl (by omega) hFpt rfl (by omega) (by omega) rfl ?_
      show am_E _ (48, [vR a, vR t, vI i], [vI (c (t + 2) i), vI (c (t + 1) i), vI i, vR a], aq_h m s F c) _
      refine aq_callv (y := 4) (as2 := [vI i, vI (c (t + 1) i), vI (c (t + 2) i)]) (rest := []) rfl rfl (by decide) (Nat.le_of_ble_eq_true rfl) rfl rfl (Nat.le_of_ble_eq_true rfl) (by omega) hFa rfl (Nat.le_of_ble_eq_true rfl) (qn_X3_isAt (a := a) ⟨hma, hFa, hFn, hFp, hFf⟩ (by omega) (by omega)) ?_
      rintro r5 h5 ⟨rfl, v_3, rfl, hv_3⟩
      show am_E _ (51, [vR a, vR t, vI i], [vI v_3], aq_h m s F c) _
      refine ae_if0 rfl (fun (q_4 : v_3 = 0) => ?_) (fun (q_4 : v_3 ≠ 0) => ?_)
      · refine am_E.go (t2 := (71, [vR a, vR t, vI i], [vI 0], aq_h m s F c)) rfl rfl ?_
        refine am_E.ret rfl rfl ?_
        exact ⟨rfl, _, rfl, by omega⟩
      · refine am_E.go (t2 := (55, [vR a, vR t, vI i], [vR a], aq_h m s F c)) rfl rfl ?_
        refine aq_gf (v := vR (a + 3)) rfl (by omega) hFa (by decide) rfl ?_
        show am_E _ (58, [vR a, vR t, vI i], [vR (a + 3)], aq_h m s F c) _
        refine am_E.go (t2 := (59, [vR a, vR t, vI i], [vI i, vR (a + 3)], aq_h m s F c)) rfl rfl ?_
        refine aq_al (ok := fun k => k == 2) (v := vL (c (a + 3) i)) rfl rfl (by omega) hFf rfl (by omega) (by omega) rfl ?_
        show am_E _ (60, [vR a, vR t, vI i], [vL (c (a + 3) i)], aq_h m s F c) _
        refine am_E.go (t2 := (61, [vR a, vR t, vI i], [vR t, vL (c (a + 3) i)], aq_h m s F c)) rfl rfl ?_
        refine aq_gf (v := vR (t + 3)) rfl (by omega) hFat (by decide) rfl ?_
        show am_E _ (64, [vR a, vR t, vI i], [vR (t + 3), vL (c (a + 3) i)], aq_h m s F c) _
        refine am_E.go (t2 := (65, [vR a, vR t, vI i], [vI i, vR (t + 3), vL (c (a + 3) i)], aq_h m s F c)) rfl rfl ?_
        refine aq_al (ok := fun k => k == 2) (v := vL (c (t + 3) i)) rfl rfl (by omega) hFft rfl (by omega) (by omega) rfl ?_
        show am_E _ (66, [vR a, vR t, vI i], [vL (c (t + 3) i), vL (c (a + 3) i)], aq_h m s F c) _
        have ez_5 := am_lcf (c (a + 3) i) (c (t + 3) i)
        refine am_E.go (t2 := (67, [vR a, vR t, vI i], [vI (if (c (a + 3) i) < (c (t + 3) i) then -1 else if (c (a + 3) i) = (c (t + 3) i) then 0 else 1)], aq_h m s F c)) rfl rfl ?_
        generalize (if (c (a + 3) i) < (c (t + 3) i) then -1 else if (c (a + 3) i) = (c (t + 3) i) then 0 else 1) = z_5 at ez_5 ⊢
        refine ae_if0 rfl (fun (q_6 : z_5 = 0) => ?_) (fun (q_6 : z_5 ≠ 0) => ?_)
        · refine ae_iinc rfl rfl (am_ri (by omega) (by omega)) ?_
          show am_E _ (75, [vR a, vR t, vI (i + 1)], [], aq_h m s F c) _
          refine am_E.go (t2 := (26, [vR a, vR t, vI (i + 1)], [], aq_h m s F c)) rfl rfl ?_
          exact qn_isLike_l ⟨hma, hFa, hFn, hFp, hFf⟩ ⟨hmat, hFat, hFnt, hFpt, hFft⟩ h40 d (i + 1) (by omega) (by omega) (by omega)
        · refine am_E.go (t2 := (71, [vR a, vR t, vI i], [vI 0], aq_h m s F c)) rfl rfl ?_
          refine am_E.ret rfl rfl ?_
          exact ⟨rfl, _, rfl, by omega⟩

theorem qn_X3_isLike {m s : Nat} {F : aq_F} {c : aq_C} {a : Nat} (hA : su_0 m F a) {t : Nat} (hAt : su_0 m F t) (h40 : c a 1 ≤ 40) : am_E ac_X3_isLike (0, [vR a, vR t, vU], [], aq_h m s F c) (aq_P m s F c aq_vb) := by
  obtain ⟨hma, hFa, hFn, hFp, hFf⟩ := hA
  obtain ⟨hmat, hFat, hFnt, hFpt, hFft⟩ := hAt
  refine am_E.go (t2 := (1, [vR a, vR t, vU], [vR a], aq_h m s F c)) rfl rfl ?_
  refine aq_gf (v := vI (c a 0)) rfl (by omega) hFa (by decide) rfl ?_
  show am_E _ (4, [vR a, vR t, vU], [vI (c a 0)], aq_h m s F c) _
  skip
  refine am_E.go (t2 := (5, [vR a, vR t, vU], [vR t, vI (c a 0)], aq_h m s F c)) rfl rfl ?_
  refine aq_gf (v := vI (c t 0)) rfl (by omega) hFat (by decide) rfl ?_
  show am_E _ (8, [vR a, vR t, vU], [vI (c t 0), vI (c a 0)], aq_h m s F c) _
  skip
  refine ae_icmp rfl (fun (q_3 : (c a 0) ≠ (c t 0)) => ?_) (fun (q_3 : (c a 0) = (c t 0)) => ?_)
  · refine am_E.go (t2 := (23, [vR a, vR t, vU], [vI 0], aq_h m s F c)) rfl rfl ?_
    refine am_E.ret rfl rfl ?_
    exact ⟨rfl, _, rfl, by omega⟩
  · refine am_E.go (t2 := (12, [vR a, vR t, vU], [vR a], aq_h m s F c)) rfl rfl ?_
    refine aq_gf (v := vI (c a 1)) rfl (by omega) hFa (by decide) rfl ?_
    show am_E _ (15, [vR a, vR t, vU], [vI (c a 1)], aq_h m s F c) _
    skip
    refine am_E.go (t2 := (16, [vR a, vR t, vU], [vR t, vI (c a 1)], aq_h m s F c)) rfl rfl ?_
    refine aq_gf (v := vI (c t 1)) rfl (by omega) hFat (by decide) rfl ?_
    show am_E _ (19, [vR a, vR t, vU], [vI (c t 1), vI (c a 1)], aq_h m s F c) _
    skip
    refine ae_icmp rfl (fun (q_6 : (c a 1) = (c t 1)) => ?_) (fun (q_6 : (c a 1) ≠ (c t 1)) => ?_)
    · refine am_E.go (t2 := (25, [vR a, vR t, vU], [vI 0], aq_h m s F c)) rfl rfl ?_
      refine am_E.go (t2 := (26, [vR a, vR t, vI 0], [], aq_h m s F c)) rfl rfl ?_
      exact qn_isLike_l ⟨hma, hFa, hFn, hFp, hFf⟩ ⟨hmat, hFat, hFnt, hFpt, hFft⟩ h40 42 0 (by omega) (by omega) (by omega)
    · refine am_E.go (t2 := (23, [vR a, vR t, vU], [vI 0], aq_h m s F c)) rfl rfl ?_
      refine am_E.ret rfl rfl ?_
      exact ⟨rfl, _, rfl, by omega⟩

theorem aq_cpn {c : aq_C} {a sp b dp n x : Nat} {j : Int} (h : x ≠ b) : aq_cp c a sp b dp n x j = c x j := by
  unfold aq_cp
  rw [if_neg (fun q => h q.1)]
theorem aq_cps {c : aq_C} {a b n : Nat} {j : Int} (h0 : 0 ≤ j) (h1 : j < (n : Int)) : aq_cp c a (0 : Int).toNat b (0 : Int).toNat n b j = c a j := by
  unfold aq_cp
  rw [if_pos ⟨rfl, by omega, by omega⟩]
  congr 1
  omega

theorem qn_X3_take {m s : Nat} {F : aq_F} {c : aq_C} {a : Nat} (hA : su_0 m F a) {k : Int} {t : Nat} (hAt : su_0 m F t) (hkt : su_k t k c) (hnt : t + 3 < a ∨ a + 3 < t) : am_E ac_X3_take (0, [vR a, vR t], [], aq_h m s F c) (aq_Z m s F (fun b => b = a ∨ b = a + 1 ∨ b = a + 2 ∨ b = a + 3) c (fun r d => r = none ∧ d a 0 = c t 0 ∧ su_k a k d)) := by
  obtain ⟨hma, hFa, hFn, hFp, hFf⟩ := hA
  obtain ⟨hmat, hFat, hFnt, hFpt, hFft⟩ := hAt
  have hkt1 := hkt.1
  have hkt2 := hkt.2.1
  refine am_E.go (t2 := (1, [vR a, vR t], [vR a], aq_h m s F c)) rfl rfl ?_
  refine am_E.go (t2 := (2, [vR a, vR t], [vR t, vR a], aq_h m s F c)) rfl rfl ?_
  refine aq_gf (v := vI (c t 0)) rfl (by omega) hFat (by decide) rfl ?_
  show am_E _ (5, [vR a, vR t], [vI (c t 0), vR a], aq_h m s F c) _
  have f_1 : c t 0 = c t 0 := by rfl
  refine aq_pf rfl (by omega) hFa (by decide) rfl rfl ?_
  show am_E _ (8, [vR a, vR t], [], aq_h m s F (aq_u c a 0 (c t 0))) _
  generalize hdc_2 : aq_u c a 0 (c t 0) = c_2
  have sc_2 := aq_smu (aq_sm0 (S := (fun b => b = a ∨ b = a + 1 ∨ b = a + 2 ∨ b = a + 3))) hdc_2 (Or.inl rfl)
  refine am_E.go (t2 := (9, [vR a, vR t], [vR a], aq_h m s F c_2)) rfl rfl ?_
  refine am_E.go (t2 := (10, [vR a, vR t], [vR t, vR a], aq_h m s F c_2)) rfl rfl ?_
  refine aq_gf (v := vI (c_2 t 1)) rfl (by omega) hFat (by decide) rfl ?_
  show am_E _ (13, [vR a, vR t], [vI (c_2 t 1), vR a], aq_h m s F c_2) _
  have f_3 : c_2 t 1 = c t 1 := by rw [← hdc_2, aq_un (Or.inl (by omega))]
  refine aq_pf rfl (by omega) hFa (by decide) rfl rfl ?_
  show am_E _ (16, [vR a, vR t], [], aq_h m s F (aq_u c_2 a 1 (c_2 t 1))) _
  generalize hdc_4 : aq_u c_2 a 1 (c_2 t 1) = c_4
  have sc_4 := aq_smu sc_2 hdc_4 (Or.inl rfl)
  refine am_E.go (t2 := (17, [vR a, vR t], [vR t], aq_h m s F c_4)) rfl rfl ?_
  refine aq_gf (v := vR (t + 1)) rfl (by omega) hFat (by decide) rfl ?_
  show am_E _ (20, [vR a, vR t], [vR (t + 1)], aq_h m s F c_4) _
  refine am_E.go (t2 := (21, [vR a, vR t], [vI 0, vR (t + 1)], aq_h m s F c_4)) rfl rfl ?_
  refine am_E.go (t2 := (22, [vR a, vR t], [vR a, vI 0, vR (t + 1)], aq_h m s F c_4)) rfl rfl ?_
  refine aq_gf (v := vR (a + 1)) rfl (by omega) hFa (by decide) rfl ?_
  show am_E _ (25, [vR a, vR t], [vR (a + 1), vI 0, vR (t + 1)], aq_h m s F c_4) _
  refine am_E.go (t2 := (26, [vR a, vR t], [vI 0, vR (a + 1), vI 0, vR (t + 1)], aq_h m s F c_4)) rfl rfl ?_
  refine am_E.go (t2 := (27, [vR a, vR t], [vR a, vI 0, vR (a + 1), vI 0, vR (t + 1)], aq_h m s F c_4)) rfl rfl ?_
  refine aq_gf (v := vI (c_4 a 1)) rfl (by omega) hFa (by decide) rfl ?_
  show am_E _ (30, [vR a, vR t], [vI (c_4 a 1), vI 0, vR (a + 1), vI 0, vR (t + 1)], aq_h m s F c_4) _
  have f_5 : c_4 a 1 = c t 1 := by rw [← hdc_4, aq_us]; assumption
  refine aq_cpy (n := ((c_4 a 1) : Int).toNat) (sp := (0 : Int).toNat) (dp := (0 : Int).toNat) rfl (by omega) (by omega) hFnt hFn (by decide) (by omega) (by omega) (by omega) (by omega) (by omega) ?_
  show am_E _ (33, [vR a, vR t], [], aq_h m s F (aq_cp c_4 (t + 1) (0 : Int).toNat (a + 1) (0 : Int).toNat ((c_4 a 1) : Int).toNat)) _
  generalize hdc_6 : aq_cp c_4 (t + 1) (0 : Int).toNat (a + 1) (0 : Int).toNat ((c_4 a 1) : Int).toNat = c_6
  have sc_6 := aq_smc sc_4 hdc_6 (Or.inr (Or.inl rfl))
  refine am_E.go (t2 := (34, [vR a, vR t], [vR t], aq_h m s F c_6)) rfl rfl ?_
  refine aq_gf (v := vR (t + 2)) rfl (by omega) hFat (by decide) rfl ?_
  show am_E _ (37, [vR a, vR t], [vR (t + 2)], aq_h m s F c_6) _
  refine am_E.go (t2 := (38, [vR a, vR t], [vI 0, vR (t + 2)], aq_h m s F c_6)) rfl rfl ?_
  refine am_E.go (t2 := (39, [vR a, vR t], [vR a, vI 0, vR (t + 2)], aq_h m s F c_6)) rfl rfl ?_
  refine aq_gf (v := vR (a + 2)) rfl (by omega) hFa (by decide) rfl ?_
  show am_E _ (42, [vR a, vR t], [vR (a + 2), vI 0, vR (t + 2)], aq_h m s F c_6) _
  refine am_E.go (t2 := (43, [vR a, vR t], [vI 0, vR (a + 2), vI 0, vR (t + 2)], aq_h m s F c_6)) rfl rfl ?_
  refine am_E.go (t2 := (44, [vR a, vR t], [vR a, vI 0, vR (a + 2), vI 0, vR (t + 2)], aq_h m s F c_6)) rfl rfl ?_
  refine aq_gf (v := vI (c_6 a 1)) rfl (by omega) hFa (by decide) rfl ?_
  show am_E _ (47, [vR a, vR t], [vI (c_6 a 1), vI 0, vR (a + 2), vI 0, vR (t + 2)], aq_h m s F c_6) _
  have f_7 : c_6 a 1 = c t 1 := by rw [← hdc_6, aq_cpn (by omega), ← hdc_4, aq_us]; assumption
  refine aq_cpy (n := ((c_6 a 1) : Int).toNat) (sp := (0 : Int).toNat) (dp := (0 : Int).toNat) rfl (by omega) (by omega) hFpt hFp (by decide) (by omega) (by omega) (by omega) (by omega) (by omega) ?_
  show am_E _ (50, [vR a, vR t], [], aq_h m s F (aq_cp c_6 (t + 2) (0 : Int).toNat (a + 2) (0 : Int).toNat ((c_6 a 1) : Int).toNat)) _
  generalize hdc_8 : aq_cp c_6 (t + 2) (0 : Int).toNat (a + 2) (0 : Int).toNat ((c_6 a 1) : Int).toNat = c_8
  have sc_8 := aq_smc sc_6 hdc_8 (Or.inr (Or.inr (Or.inl rfl)))
  refine am_E.go (t2 := (51, [vR a, vR t], [vR t], aq_h m s F c_8)) rfl rfl ?_
  refine aq_gf (v := vR (t + 3)) rfl (by omega) hFat (by decide) rfl ?_
  show am_E _ (54, [vR a, vR t], [vR (t + 3)], aq_h m s F c_8) _
  refine am_E.go (t2 := (55, [vR a, vR t], [vI 0, vR (t + 3)], aq_h m s F c_8)) rfl rfl ?_
  refine am_E.go (t2 := (56, [vR a, vR t], [vR a, vI 0, vR (t + 3)], aq_h m s F c_8)) rfl rfl ?_
  refine aq_gf (v := vR (a + 3)) rfl (by omega) hFa (by decide) rfl ?_
  show am_E _ (59, [vR a, vR t], [vR (a + 3), vI 0, vR (t + 3)], aq_h m s F c_8) _
  refine am_E.go (t2 := (60, [vR a, vR t], [vI 0, vR (a + 3), vI 0, vR (t + 3)], aq_h m s F c_8)) rfl rfl ?_
  refine am_E.go (t2 := (61, [vR a, vR t], [vR a, vI 0, vR (a + 3), vI 0, vR (t + 3)], aq_h m s F c_8)) rfl rfl ?_
  refine aq_gf (v := vI (c_8 a 1)) rfl (by omega) hFa (by decide) rfl ?_
  show am_E _ (64, [vR a, vR t], [vI (c_8 a 1), vI 0, vR (a + 3), vI 0, vR (t + 3)], aq_h m s F c_8) _
  have f_9 : c_8 a 1 = c t 1 := by rw [← hdc_8, aq_cpn (by omega), ← hdc_6, aq_cpn (by omega), ← hdc_4, aq_us]; assumption
  refine aq_cpy (n := ((c_8 a 1) : Int).toNat) (sp := (0 : Int).toNat) (dp := (0 : Int).toNat) rfl (by omega) (by omega) hFft hFf (by decide) (by omega) (by omega) (by omega) (by omega) (by omega) ?_
  show am_E _ (67, [vR a, vR t], [], aq_h m s F (aq_cp c_8 (t + 3) (0 : Int).toNat (a + 3) (0 : Int).toNat ((c_8 a 1) : Int).toNat)) _
  generalize hdc_10 : aq_cp c_8 (t + 3) (0 : Int).toNat (a + 3) (0 : Int).toNat ((c_8 a 1) : Int).toNat = c_10
  have sc_10 := aq_smc sc_8 hdc_10 (Or.inr (Or.inr (Or.inr rfl)))
  refine am_E.ret rfl rfl ?_
  have g1 : c_10 a 1 = c t 1 := by rw [← hdc_10, aq_cpn (by omega), ← hdc_8, aq_cpn (by omega), ← hdc_6, aq_cpn (by omega), ← hdc_4, aq_us]; assumption
  have g0 : c_10 a 0 = c t 0 := by rw [← hdc_10, aq_cpn (by omega), ← hdc_8, aq_cpn (by omega), ← hdc_6, aq_cpn (by omega), ← hdc_4, aq_un (Or.inr (by omega)), ← hdc_2, aq_us]
  refine ⟨_, rfl, sc_10, rfl, g0, by omega, by omega, fun j h5 h6 => ?_⟩
  have k1 := hkt.2.2 j h5 (by omega)
  have n1 : c_10 (a + 1) j = c (t + 1) j := by rw [← hdc_10, aq_cpn (by omega), ← hdc_8, aq_cpn (by omega), ← hdc_6, aq_cps h5 (by omega), ← hdc_4, aq_un (Or.inl (by omega)), ← hdc_2, aq_un (Or.inl (by omega))]
  have n3 : c_10 (a + 3) j = c (t + 3) j := by rw [← hdc_10, aq_cps h5 (by omega), ← hdc_8, aq_cpn (by omega), ← hdc_6, aq_cpn (by omega), ← hdc_4, aq_un (Or.inl (by omega)), ← hdc_2, aq_un (Or.inl (by omega))]
  rw [n1, n3]
  exact k1
def hx_c (n : Int) : List (List Int) := if n = 1 then [[1]] else if n = 2 then [[1, 0], [2, 2]] else if n = 3 then [[1, 0, 3], [3, 2, 1], [3, 3, 3]] else [[1, 0, 3, 2], [1, 0, 4, 4], [3, 2, 1, 0], [4, 2, 1, 4], [4, 4, 3, 2], [4, 4, 4, 4]]
def hx_z (n : Int) : Int := ((hx_c n).length : Int)
/-- the partner of p in half h -/
def hx_d (n h p : Int) : Int := ((hx_c n).getD h.toNat []).getD p.toNat 0
/-- how many are left -/
def hx_l (n h : Int) : Int := ((((hx_c n).getD h.toNat []).filter (fun q => decide (q = n))).length : Int)
/-- size, left and partners are these -/
def hx_e (n z : Nat) (tl : Int → Int) (th : Int → Int → Int) : Prop := (z : Int) = hx_z (n : Int) ∧ ∀ h : Int, 0 ≤ h → h < hx_z (n : Int) → tl h = hx_l (n : Int) h ∧ ∀ p : Int, 0 ≤ p → p < (n : Int) → th h p = hx_d (n : Int) h p
/-- an entry of a table of w bits each -/
def tb_ (T w i : Nat) : Int := (((T >>> (w * i)) % 2 ^ w : Nat) : Int)
def rgT (n : Nat) : Nat := if n = 1 then 1 else if n = 2 then 66049 else if n = 3 then 10404955666743442129104717777862913 else 57390120684798749511077396332105794571101995222350688809851065516797879777801632129614810724180821914302756896657628363268354282913950639959873405449855984870331450083768552354044763196518608382769201289063903639431695499459421240638430827785645785346
def lnT (n : Nat) : Nat := if n = 1 then 0 else if n = 2 then 65537 else if n = 3 then 15617614471325223397412837120868866 else 172394096649824228678490876063868247811688202895297273733420766105489438064114819601242255088337135235583675020922885659791016769033109153517241103396735859236236647310161854603029350005173488512371164018466018739819887383238503213890588321708473778946
def spT (n : Nat) : Nat := if n = 1 then 0 else if n = 2 then 79228162514264337593543950336 else if n = 3 then 2583514293774741419893649596235438935058194969413569029937285137972218418338202396295490044155670288070031476845030676927040258770890035907184952891324073594176981654196053411697448526451861686864028081586432 else 1829475211475356853739850305318564581318198224246838686596051447923760820645797659155230711066626779999427860397361286018108597198326590502704263369853063986158022262382963719745175959973331262548511562842540610609777195926206153244393873804645068805597756081362470925279316897143519745565242449718396238827593222681824055426412868465801457831417147004527791976791485701774778244240458732001261930349019722317444245851060915515795672460102710509316944738108846401365039190246008583534388677338565074382972728891006540640010680379850438219797305185115472748050761431361110005233265130282359114594529246196411756361310472409302841842832788213636959641953128914305059545389301932898037821330282610519198385552237460764086701476096286514199146936379346789944325212791331594443097941589409706476653264119317385726732984361695251930647317134010884985226402023680398024017215681246123674948257417053215175454602471355032335888595155229081643803148058925427523283879975907156805443415277769473206813250625193144297288342406731922796084434574993437970089849105635589927095691014092121678748567940774105629529157187056654398735800851403962851584512679585535503017555480945727123282111643545923201183520051455462447832194259934512175576402281808852384482434906677176315205856098355116646790478737477482843160295501452788202340842664032723822110762506137019628900192557245712385685342836510396002749622638619866087198711483771154845476410084863275909608599041519294356540737777523903896545334501090258018212995868483878377226752
def bnT (n : Nat) : Nat := if n = 1 then 0 else if n = 2 then 411376139330301510538742295649722219962753621665455958495593448 else if n = 3 then 1188925059675319847051101875588221370637998259648363333497143670104116263684446672258813029050822415773144612542331176107741558273876491812814337878942684637563519307026359786824883601265490130788605207195539495493557564100281059786285914278464841346854438345179680471249776192018995212360739279336449050433809085904447589696408288642732162941486689923305109278026025461536645312070458218960392832121493972695463871643650 else 32754719852690610771619936788185263767816603489389340975929618588907499732677552637396942200400810626926427193178515483511445627061442079150557128031085079824448044403376624173985321468107909912794033761326948090735653043461270407903679186304635721420804279589600372101914797513355064161459914502339787293812392394607299812754550196090613758593651385689343344357892226362388832442099858586744393695031713020738278755139681685557702835650697362342999668813616731222686122057776085754971152167206029643701266765309531747524713189043610277817119669314842037743297413669488529088239599025896821040963106684854703135055031790155890958843035941905910040647516792461930974716488231977515116053750620371732373182544040203202949186559275802526237796443575902003616557893348901886311716580330291220976609522758105070370563577476456518960827590348945013652694543364037604467327105969905830608556791244912074428357393663854114751924606677901602287829643636415253119890577117552762855088475662052985974022834241436927150065445185868438261364072535385267529636313350540258814277356194276413030391862690746954277238472952757712299787200352588161894727437672187908689021794217709056409462205808692082164682306557190656329997412603901153012752643086560301056185401860756964106481994550082191422976031312698264820076802705285920946732427448094318551103126819413561399403080007878353324012782388682865607660174841480430440700768893368103133934571702075056856645765845995474255098124539422449471402061532367725037558331835619475198781520739115550830792938330942487561693701374258223176052455330950517040761711764689942740560471600637533894809938455834533157095875338042782780528222947624732642130841289729416095494701024155437940158685722101915314078507634595383270732628015832146490302030276965388492011306702375049997186401777255201130768744299191539170259215542505081352794295279288456289743052127468717224120827913113032182787022825601602273686315213681430356768186967260756712660949407286187111044559782042838963763390800586239054534069193443106965882352072679844302379320581463844902446892440929099650862212701360846255578244314212362762278330809020288547167908238450155137113609677153468676264143588999136722279666553011812249842847794417161986124763678644945401045844866233621116913147732906823586216009511105932294616886791783260317184278254105136913559219621062771207374497209289670013461877936430694453568917711667514118886171407326812279772436466374084137388736131851687114116404830352037079572000128175617702422727683356502405466816844196508778887475378023374194826049279218013778457879488199192966377918010117632792718701736143281045798582435361867734128432081684110384928669414879462225815732044714904791667925877796099923478979875699598286362608479279742385223013035088593002827599071088714137572236638143923153854273669574388094512442344551529733395654592924771191363495813898414446678590800260528995828116197156710968924710668685060797365137958794960133559411434395268447881201308926708945155682459993837423922249188787442383925150696
def fdT (n : Nat) : Nat := if n = 1 then 0 else if n = 2 then 131073 else if n = 3 then 72774158730845269135669699774120455 else 2982959802743847140216677952014299851581702380699113689192777758971883846847921879556204674180740617790916505242229894006411766098365963300841830213521101098187502235096747288570885677726499736617130567242649725371269944906359798943177297413298384210740
def ixT (n : Nat) : Nat := if n = 1 then 0 else if n = 2 then 131073 else if n = 3 then 72895538430146451388428640717964805 else 2989316425796432658396213682883544162468282582223734949238750464809701759653446698287959151584054604298471330356651323462742996803419374680452547660369665933253208160776532491346007718123374273108301080626780985725956752225060577724090004822428546309640
def szT (n : Nat) : Nat := if n = 1 then 72057594037927937 else if n = 2 then 73848251308732490520434389441502806605363775783726940673 else if n = 3 then 474184400792007242186472892514146340826137105847887167429814730334080480672533261189034986145744308151091054376501525091986246263137971053313104791693106485157860463012183434899093737324431725720076301179160846932768361185847654693312333445614105908855790809317889 else 33783401921441432179098721390677732982121538848475942809853859034660707979011995604616709637875066390276879929217064319030244358525289951226434552454966585620477297940237883722372475810541267805372219095635110966164795283150266447787128884764647044578539755895758254145743484785650424974975533910905409617406515351369973382663710802320214630036025598637237144517234254056870108024846538678356840293036036845169576930249784234309659513911305307521587681740151981003461754972611256044501577774207259372151571921683464779895944937466642474990152580526695499317907697546144694642422786270228473933035535835488259997593107268925056474709951767322514717998991817700644291175694772305975163530551416518541903047201396757761532727765839670903492406097384091058411682756605095614783179664011588637701869245597568557651755590748578054050293958088585633589475855468105162298260664747684490380864079273496793592370264724973411812359497927434076897739563454330192019230585627071093077575485583164618225841589658942170292259511595396308790109367023724368733002054308424438691940161631001763293604185854431963536790435296688147936359346180561214382106092314176576286061037593720903139158124292068275370527889009988145448546311063808201004497366562858155668006375907362783178746472722375979137675096318949035027404554135637771705639595976022604472336836933978447299044326255630452161039213744898071435968788680582341360677741458475115495580455089953064006813893851836311021423057939926078859870003010485527674855046921512917753082482157933851963208439641644184519964665535802988802567437287583919964184574642124068251838316387846740662328180993547682853373178533163333221059874809906160281367332822815316617485023331024838094311529968177213794166444744460722680023345247790285440696147089127598538818049
def paT (n : Nat) : Nat := if n = 1 then 0 else if n = 2 then 65537 else if n = 3 then 67703161110335384097309307898888706 else 2961017941032182165673834517842832230264264054442468059704339382728229454391288929493468266747257358208700052877181650462062047499482857797021008123419739755331741561902045906368922721253625805451308809019582587948052156085040402099979560040286885249035
def llT (n : Nat) : Nat := if n = 1 then 0 else if n = 2 then 720897 else if n = 3 then 57358737004974897666621644430445570 else 316370847583497533251263944365807004339142791726416674668877415784583813752903941524904059536535252108508025194755964032280179028716739308776175906596644012736515585669067399676407521225437276778780300457655315963875192908964199994414115265777305259011
/-- the box ahead in the least spelling; its last letter -/
def pa_ (n b : Int) : Int := tb_ (paT n.toNat) 8 b.toNat
def ll_ (n b : Int) : Int := tb_ (llT n.toNat) 8 b.toNat

/-- rings when closed; length and letters of the least spelling; the box with a plain box beneath; the order of finding, the place in it, how many are found -/
def rg_ (n b : Int) : Int := tb_ (rgT n.toNat) 8 b.toNat
def ln_ (n b : Int) : Int := tb_ (lnT n.toNat) 8 b.toNat
def sp_ (n b i : Int) : Int := tb_ (spT n.toNat) 8 (6 * b.toNat + i.toNat)
def bn_ (n b k : Int) : Int := tb_ (bnT n.toNat) 16 (6 * b.toNat + k.toNat)
def fd_ (n i : Int) : Int := tb_ (fdT n.toNat) 8 i.toNat
def ix_ (n b : Int) : Int := tb_ (ixT n.toNat) 8 b.toNat
def sz_ (n i k : Int) : Int := tb_ (szT n.toNat) 8 (7 * i.toNat + k.toNat)
/-- plain facts of one box -/
abbrev tb_A (n b : Int) : Prop := (0 ≤ ln_ n b ∧ ln_ n b ≤ 6) ∧ (0 ≤ ix_ n b ∧ ix_ n b < bx_K n ∧ fd_ n (ix_ n b) = b) ∧ (0 ≤ fd_ n b ∧ fd_ n b < bx_K n ∧ ix_ n (fd_ n b) = b) ∧ (0 ≤ rg_ n b ∧ rg_ n b ≤ 8)
abbrev tb_S (n b i : Int) : Prop := i < ln_ n b → 0 ≤ sp_ n b i ∧ sp_ n b i < 2 * n - 2
abbrev tb_N (n b k : Int) : Prop := k < 2 * n - 2 → 0 ≤ bn_ n b k ∧ bn_ n b k < 5000 ∧ bn_ n b k % 1000 < bx_K n
/-- a step of finding: the box i, the letter k -/
def tb_B (n i k : Int) : Prop := k < 2 * n - 2 → i < sz_ n i k ∧ sz_ n i k ≤ bx_K n ∧
  (if bn_ n (fd_ n i) k < bx_K n ∧ sz_ n i k ≤ ix_ n (bn_ n (fd_ n i) k) ∧ sz_ n i k < bx_K n then
    fd_ n (sz_ n i k) = bn_ n (fd_ n i) k ∧ ln_ n (bn_ n (fd_ n i) k) = ln_ n (fd_ n i) + 1 ∧ ln_ n (fd_ n i) ≤ 5 ∧ (∀ j : Nat, j < 6 → (j : Int) < ln_ n (fd_ n i) → sp_ n (bn_ n (fd_ n i) k) (j : Int) = sp_ n (fd_ n i) (j : Int)) ∧ sp_ n (bn_ n (fd_ n i) k) (ln_ n (fd_ n i)) = k ∧ ix_ n (bn_ n (fd_ n i) k) = sz_ n i k ∧ sz_ n i (k + 1) = sz_ n i k + 1
   else sz_ n i (k + 1) = sz_ n i k)
def tb_Bd {n i k : Int} : Decidable (tb_B n i k) := by unfold tb_B; exact inferInstance
abbrev tb_P (n i k : Int) : Prop := k < 2 * n - 2 → bn_ n (fd_ n i) k < bx_K n ∧ sz_ n i k ≤ ix_ n (bn_ n (fd_ n i) k) ∧ sz_ n i k < bx_K n → pa_ n (bn_ n (fd_ n i) k) = fd_ n i ∧ ll_ n (bn_ n (fd_ n i) k) = (if k < n - 1 then k + 1 else k - (n - 1) + 11)
abbrev tb_E (n i : Int) : Prop := ((i < sz_ n i 0 ∧ sz_ n i 0 < bx_K n) ∨ sz_ n i 0 = bx_K n) ∧ (i < bx_K n → i < sz_ n i 0 ∧ sz_ n i (2 * n - 2) = sz_ n (i + 1) 0)

theorem tb_A_1 : ∀ x : Nat, x < 1 → tb_A 1 (x : Int) := by decide +kernel
theorem tb_A_2 : ∀ x : Nat, x < 3 → tb_A 2 (x : Int) := by decide +kernel
theorem tb_A_3 : ∀ x : Nat, x < 15 → tb_A 3 (x : Int) := by decide +kernel
theorem tb_A_4 : ∀ x : Nat, x < 105 → tb_A 4 (x : Int) := by decide +kernel
theorem tb_A_a {n x : Int} (h1 : 1 ≤ n) (h4 : n ≤ 4) (x0 : 0 ≤ x) (xK : x < bx_K n + 0) : tb_A n x := by
  have ex : ((x.toNat : Nat) : Int) = x := Int.toNat_of_nonneg x0
  have h : n = 1 ∨ n = 2 ∨ n = 3 ∨ n = 4 := by omega
  rcases h with h | h | h | h <;> subst h
  · have g : bx_K 1 = 1 := by decide
    have := tb_A_1 x.toNat (by omega)
    rw [ex] at this
    exact this
  · have g : bx_K 2 = 3 := by decide
    have := tb_A_2 x.toNat (by omega)
    rw [ex] at this
    exact this
  · have g : bx_K 3 = 15 := by decide
    have := tb_A_3 x.toNat (by omega)
    rw [ex] at this
    exact this
  · have g : bx_K 4 = 105 := by decide
    have := tb_A_4 x.toNat (by omega)
    rw [ex] at this
    exact this
theorem tb_S_1 : ∀ x : Nat, x < 1 → ∀ k : Nat, k < 6 → tb_S 1 (x : Int) (k : Int) := by decide +kernel
theorem tb_S_2 : ∀ x : Nat, x < 3 → ∀ k : Nat, k < 6 → tb_S 2 (x : Int) (k : Int) := by decide +kernel
theorem tb_S_3 : ∀ x : Nat, x < 15 → ∀ k : Nat, k < 6 → tb_S 3 (x : Int) (k : Int) := by decide +kernel
theorem tb_S_4 : ∀ x : Nat, x < 105 → ∀ k : Nat, k < 6 → tb_S 4 (x : Int) (k : Int) := by decide +kernel
theorem tb_S_a {n x : Int} {k : Int} (h1 : 1 ≤ n) (h4 : n ≤ 4) (x0 : 0 ≤ x) (xK : x < bx_K n + 0) (k0 : 0 ≤ k) (k1 : k < 6) : tb_S n x k := by
  have ex : ((x.toNat : Nat) : Int) = x := Int.toNat_of_nonneg x0
  have ek : ((k.toNat : Nat) : Int) = k := Int.toNat_of_nonneg k0
  have h : n = 1 ∨ n = 2 ∨ n = 3 ∨ n = 4 := by omega
  rcases h with h | h | h | h <;> subst h
  · have g : bx_K 1 = 1 := by decide
    have := tb_S_1 x.toNat (by omega) k.toNat (by omega)
    rw [ex, ek] at this
    exact this
  · have g : bx_K 2 = 3 := by decide
    have := tb_S_2 x.toNat (by omega) k.toNat (by omega)
    rw [ex, ek] at this
    exact this
  · have g : bx_K 3 = 15 := by decide
    have := tb_S_3 x.toNat (by omega) k.toNat (by omega)
    rw [ex, ek] at this
    exact this
  · have g : bx_K 4 = 105 := by decide
    have := tb_S_4 x.toNat (by omega) k.toNat (by omega)
    rw [ex, ek] at this
    exact this
theorem tb_N_1 : ∀ x : Nat, x < 1 → ∀ k : Nat, k < 6 → tb_N 1 (x : Int) (k : Int) := by decide +kernel
theorem tb_N_2 : ∀ x : Nat, x < 3 → ∀ k : Nat, k < 6 → tb_N 2 (x : Int) (k : Int) := by decide +kernel
theorem tb_N_3 : ∀ x : Nat, x < 15 → ∀ k : Nat, k < 6 → tb_N 3 (x : Int) (k : Int) := by decide +kernel
theorem tb_N_4 : ∀ x : Nat, x < 105 → ∀ k : Nat, k < 6 → tb_N 4 (x : Int) (k : Int) := by decide +kernel
theorem tb_N_a {n x : Int} {k : Int} (h1 : 1 ≤ n) (h4 : n ≤ 4) (x0 : 0 ≤ x) (xK : x < bx_K n + 0) (k0 : 0 ≤ k) (k1 : k < 6) : tb_N n x k := by
  have ex : ((x.toNat : Nat) : Int) = x := Int.toNat_of_nonneg x0
  have ek : ((k.toNat : Nat) : Int) = k := Int.toNat_of_nonneg k0
  have h : n = 1 ∨ n = 2 ∨ n = 3 ∨ n = 4 := by omega
  rcases h with h | h | h | h <;> subst h
  · have g : bx_K 1 = 1 := by decide
    have := tb_N_1 x.toNat (by omega) k.toNat (by omega)
    rw [ex, ek] at this
    exact this
  · have g : bx_K 2 = 3 := by decide
    have := tb_N_2 x.toNat (by omega) k.toNat (by omega)
    rw [ex, ek] at this
    exact this
  · have g : bx_K 3 = 15 := by decide
    have := tb_N_3 x.toNat (by omega) k.toNat (by omega)
    rw [ex, ek] at this
    exact this
  · have g : bx_K 4 = 105 := by decide
    have := tb_N_4 x.toNat (by omega) k.toNat (by omega)
    rw [ex, ek] at this
    exact this
theorem tb_B_1 : ∀ x : Nat, x < 1 → ∀ k : Nat, k < 6 → @decide (tb_B 1 (x : Int) (k : Int)) tb_Bd = true := by decide +kernel
theorem tb_B_2 : ∀ x : Nat, x < 3 → ∀ k : Nat, k < 6 → @decide (tb_B 2 (x : Int) (k : Int)) tb_Bd = true := by decide +kernel
theorem tb_B_3 : ∀ x : Nat, x < 15 → ∀ k : Nat, k < 6 → @decide (tb_B 3 (x : Int) (k : Int)) tb_Bd = true := by decide +kernel
theorem tb_B_4 : ∀ x : Nat, x < 105 → ∀ k : Nat, k < 6 → @decide (tb_B 4 (x : Int) (k : Int)) tb_Bd = true := by decide +kernel
theorem tb_B_a {n x : Int} {k : Int} (h1 : 1 ≤ n) (h4 : n ≤ 4) (x0 : 0 ≤ x) (xK : x < bx_K n + 0) (k0 : 0 ≤ k) (k1 : k < 6) : tb_B n x k := by
  have ex : ((x.toNat : Nat) : Int) = x := Int.toNat_of_nonneg x0
  have ek : ((k.toNat : Nat) : Int) = k := Int.toNat_of_nonneg k0
  have h : n = 1 ∨ n = 2 ∨ n = 3 ∨ n = 4 := by omega
  rcases h with h | h | h | h <;> subst h
  · have g : bx_K 1 = 1 := by decide
    have := tb_B_1 x.toNat (by omega) k.toNat (by omega)
    rw [ex, ek] at this
    exact @of_decide_eq_true _ tb_Bd this
  · have g : bx_K 2 = 3 := by decide
    have := tb_B_2 x.toNat (by omega) k.toNat (by omega)
    rw [ex, ek] at this
    exact @of_decide_eq_true _ tb_Bd this
  · have g : bx_K 3 = 15 := by decide
    have := tb_B_3 x.toNat (by omega) k.toNat (by omega)
    rw [ex, ek] at this
    exact @of_decide_eq_true _ tb_Bd this
  · have g : bx_K 4 = 105 := by decide
    have := tb_B_4 x.toNat (by omega) k.toNat (by omega)
    rw [ex, ek] at this
    exact @of_decide_eq_true _ tb_Bd this
theorem tb_P_1 : ∀ x : Nat, x < 1 → ∀ k : Nat, k < 6 → tb_P 1 (x : Int) (k : Int) := by decide +kernel
theorem tb_P_2 : ∀ x : Nat, x < 3 → ∀ k : Nat, k < 6 → tb_P 2 (x : Int) (k : Int) := by decide +kernel
theorem tb_P_3 : ∀ x : Nat, x < 15 → ∀ k : Nat, k < 6 → tb_P 3 (x : Int) (k : Int) := by decide +kernel
theorem tb_P_4 : ∀ x : Nat, x < 105 → ∀ k : Nat, k < 6 → tb_P 4 (x : Int) (k : Int) := by decide +kernel
theorem tb_P_a {n x : Int} {k : Int} (h1 : 1 ≤ n) (h4 : n ≤ 4) (x0 : 0 ≤ x) (xK : x < bx_K n + 0) (k0 : 0 ≤ k) (k1 : k < 6) : tb_P n x k := by
  have ex : ((x.toNat : Nat) : Int) = x := Int.toNat_of_nonneg x0
  have ek : ((k.toNat : Nat) : Int) = k := Int.toNat_of_nonneg k0
  have h : n = 1 ∨ n = 2 ∨ n = 3 ∨ n = 4 := by omega
  rcases h with h | h | h | h <;> subst h
  · have g : bx_K 1 = 1 := by decide
    have := tb_P_1 x.toNat (by omega) k.toNat (by omega)
    rw [ex, ek] at this
    exact this
  · have g : bx_K 2 = 3 := by decide
    have := tb_P_2 x.toNat (by omega) k.toNat (by omega)
    rw [ex, ek] at this
    exact this
  · have g : bx_K 3 = 15 := by decide
    have := tb_P_3 x.toNat (by omega) k.toNat (by omega)
    rw [ex, ek] at this
    exact this
  · have g : bx_K 4 = 105 := by decide
    have := tb_P_4 x.toNat (by omega) k.toNat (by omega)
    rw [ex, ek] at this
    exact this
theorem tb_E_1 : ∀ x : Nat, x < 2 → tb_E 1 (x : Int) := by decide +kernel
theorem tb_E_2 : ∀ x : Nat, x < 4 → tb_E 2 (x : Int) := by decide +kernel
theorem tb_E_3 : ∀ x : Nat, x < 16 → tb_E 3 (x : Int) := by decide +kernel
theorem tb_E_4 : ∀ x : Nat, x < 106 → tb_E 4 (x : Int) := by decide +kernel
theorem tb_E_a {n x : Int} (h1 : 1 ≤ n) (h4 : n ≤ 4) (x0 : 0 ≤ x) (xK : x < bx_K n + 1) : tb_E n x := by
  have ex : ((x.toNat : Nat) : Int) = x := Int.toNat_of_nonneg x0
  have h : n = 1 ∨ n = 2 ∨ n = 3 ∨ n = 4 := by omega
  rcases h with h | h | h | h <;> subst h
  · have g : bx_K 1 = 1 := by decide
    have := tb_E_1 x.toNat (by omega)
    rw [ex] at this
    exact this
  · have g : bx_K 2 = 3 := by decide
    have := tb_E_2 x.toNat (by omega)
    rw [ex] at this
    exact this
  · have g : bx_K 3 = 15 := by decide
    have := tb_E_3 x.toNat (by omega)
    rw [ex] at this
    exact this
  · have g : bx_K 4 = 105 := by decide
    have := tb_E_4 x.toNat (by omega)
    rw [ex] at this
    exact this
/-- the straight box is found first -/
theorem tb_0 : ∀ n : Nat, n < 5 → 1 ≤ n → fd_ (n : Int) 0 = nu_o (bx_ol n 0) (2 * (n : Int)) 9 0 0 (2 * (n : Int) - 1) ∧ ln_ (n : Int) (fd_ (n : Int) 0) = 0 ∧ sz_ (n : Int) 0 0 = 1 := by decide +kernel
/-- the tables that an object of Boxes holds are these -/
def bx_e (n K : Nat) (tG tN : Int → Int → Int) (tR tL : Int → Int) : Prop := (∀ b : Int, 0 ≤ b → b < (K : Int) → tR b = rg_ (n : Int) b ∧ tL b = ln_ (n : Int) b) ∧ (∀ b i : Int, 0 ≤ b → b < (K : Int) → 0 ≤ i → i < ln_ (n : Int) b → tG b i = sp_ (n : Int) b i) ∧ ∀ b k : Int, 0 ≤ b → b < (K : Int) → 0 ≤ k → k < 2 * (n : Int) - 2 → tN b k = bn_ (n : Int) b k

def sb_o (j : Nat) : Nat := if j = 0 then 11 else if j = 1 then 42 else if j = 2 then 79 else 152
def sb_K (j : Nat) : Nat := if j = 0 then 1 else if j = 1 then 3 else if j = 2 then 15 else 105
def sb_h (j : Nat) : Nat := if j = 0 then 24 else if j = 1 then 61 else if j = 2 then 134 else 477
def sb_t : Nat → aq_T := fun y => match y with
  | 0 => .inr (vR 1)
  | 1 => .inr (vR 2)
  | 2 => .inr (vR 3)
  | 3 => .inr (vR 4)
  | 4 => .inr (vR 8)
  | _ => .inl 0
def sb_B (m : Nat) (F : aq_F) (o n K : Nat) : Prop := ∃ (tP tG tN : Int → Int → Int) (tR tL : Int → Int), bx_0 m F o n K ∧ bx_p F o n K tP ∧ bx_w F o n K tL tG tN ∧ bx_r F o K tR ∧ (0 ≤ nu_o (bx_ol n 0) (2 * (n : Int)) 9 0 0 (2 * (n : Int) - 1) ∧ nu_o (bx_ol n 0) (2 * (n : Int)) 9 0 0 (2 * (n : Int) - 1) < (K : Int)) ∧ bx_e n K tG tN tR tL
def sb_H (m : Nat) (F : aq_F) (o n : Nat) : Prop := ∃ (z : Nat) (tl : Int → Int) (th : Int → Int → Int), hv_0 m F o n z tl th ∧ hx_e n z tl th
def sb_C (m : Nat) (F : aq_F) : Prop := 527 ≤ m ∧ F 0 = (14, 5, sb_t) ∧ F 1 = (4, 4, fun j => aq_g 4 j (sb_o j)) ∧ F 2 = (5, 4, fun j => aq_g 4 j (sb_h j)) ∧ F 3 = (6, 8, fun j => aq_g 8 j (495 + 4 * j)) ∧ su_0 m F 4 ∧ cr_0 m F 8 ∧ (∀ j, j < 8 → su_0 m F (495 + 4 * j)) ∧ (∀ j, j < 4 → sb_B m F (sb_o j) (j + 1) (sb_K j)) ∧ ∀ j, j < 4 → sb_H m F (sb_h j) (j + 1)
/-- a sum between public calls -/
def sb_u (a : Nat) (c : aq_C) : Prop := 1 ≤ c a 0 ∧ c a 0 ≤ 4 ∧ su_k a (bx_K (c a 0)) c
def cl_I (c : aq_C) : Prop := (∀ j, j < 4 → aq_rg (sb_o j + 6 + 3 * sb_K j) (2 * ((j + 1 : Nat) : Int)) 0 (2 * ((j + 1 : Nat) : Int)) c) ∧ cr_l 8 c ∧ ∀ j, j < 8 → sb_u (495 + 4 * j) c
theorem sb_box {m : Nat} {F : aq_F} (hC : sb_C m F) {i : Int} (h0 : 0 ≤ i) (h4 : i < 4) : ∃ o n K : Nat, sb_o i.toNat = o ∧ (n : Int) = i + 1 ∧ (K : Int) = bx_K (i + 1) ∧ n = i.toNat + 1 ∧ sb_K i.toNat = K ∧ sb_B m F o n K := by
  refine ⟨_, i.toNat + 1, _, rfl, by omega, ?_, rfl, rfl, hC.2.2.2.2.2.2.2.2.1 i.toNat (by omega)⟩
  have h : i = 0 ∨ i = 1 ∨ i = 2 ∨ i = 3 := by omega
  rcases h with h | h | h | h <;> subst h <;> decide
theorem sb_half {m : Nat} {F : aq_F} (hC : sb_C m F) {i : Int} (h0 : 0 ≤ i) (h4 : i < 4) : ∃ o n : Nat, sb_h i.toNat = o ∧ (n : Int) = i + 1 ∧ sb_H m F o n :=
  ⟨_, i.toNat + 1, rfl, by omega, hC.2.2.2.2.2.2.2.2.2 i.toNat (by omega)⟩
theorem sb_dis : ∀ i, i < 4 → ∀ j, j < 4 → i ≠ j → sb_o i + 6 + 3 * sb_K i ≠ sb_o j + 6 + 3 * sb_K j ∧ sb_o i + 6 + 3 * sb_K i ≠ sb_o j + 7 + 3 * sb_K j := by decide
theorem sb_bnd : ∀ j, j < 4 → 20 ≤ sb_o j + 6 + 3 * sb_K j ∧ sb_o j + 7 + 3 * sb_K j < 495 := by decide
theorem sb_hnd : ∀ i, i < 4 → ∀ j, j < 4 → 20 ≤ sb_h j ∧ sb_h j + 18 ≤ 495 ∧ (sb_o i + 7 + 3 * sb_K i < sb_h j ∨ sb_h j + 18 ≤ sb_o i) := by decide
theorem cr_lc {x : Nat} {c d : aq_C} (h0 : ∀ i, d x i = c x i) (h1 : ∀ i, d (x + 1) i = c (x + 1) i) (h : cr_l x c) : cr_l x d := by
  unfold cr_l at *
  simp only [h0, h1]
  exact h
theorem su_kc {a : Nat} {k : Int} {c d : aq_C} (h0 : ∀ i, d a i = c a i) (h1 : ∀ i, d (a + 1) i = c (a + 1) i) (h3 : ∀ i, d (a + 3) i = c (a + 3) i) (h : su_k a k c) : su_k a k d := by
  unfold su_k at *
  simp only [h0, h1, h3]
  exact h
theorem sb_uc {a : Nat} {c d : aq_C} (h0 : ∀ i, d a i = c a i) (h1 : ∀ i, d (a + 1) i = c (a + 1) i) (h3 : ∀ i, d (a + 3) i = c (a + 3) i) (h : sb_u a c) : sb_u a d := by
  refine ⟨by rw [h0]; exact h.1, by rw [h0]; exact h.2.1, ?_⟩
  rw [h0]
  exact su_kc h0 h1 h3 h.2.2
/-- contents that differ on cells that hold nothing of the invariant -/
theorem cl_s {S : Nat → Prop} {c d : aq_C} (hI : cl_I c) (hs : aq_sm S c d) (h1 : ∀ j, j < 4 → ¬ S (sb_o j + 6 + 3 * sb_K j)) (h2 : ¬ S 8 ∧ ¬ S 9) (h3 : ∀ a, 495 ≤ a → ¬ S a) : cl_I d :=
  ⟨fun j hj => aq_rgs (hI.1 j hj) hs (h1 j hj), cr_lc (hs 8 h2.1) (hs 9 h2.2) hI.2.1, fun j hj => sb_uc (hs _ (h3 _ (by omega))) (hs _ (h3 _ (by omega))) (hs _ (h3 _ (by omega))) (hI.2.2 j hj)⟩
/-- draft and seen of one of the Boxes -/
theorem cl_b {c d : aq_C} {j : Nat} (hI : cl_I c) (hj : j < 4) (hs : aq_sm (fun a => a = sb_o j + 6 + 3 * sb_K j ∨ a = sb_o j + 7 + 3 * sb_K j) c d) (hr : aq_rg (sb_o j + 6 + 3 * sb_K j) (2 * ((j + 1 : Nat) : Int)) 0 (2 * ((j + 1 : Nat) : Int)) d) : cl_I d := by
  have hb := sb_bnd j hj
  refine ⟨fun i hi => ?_, cr_lc (hs 8 (by omega)) (hs 9 (by omega)) hI.2.1, fun i hi => sb_uc (hs _ (by omega)) (hs _ (by omega)) (hs _ (by omega)) (hI.2.2 i hi)⟩
  by_cases e : i = j
  · subst e
    exact hr
  · have h5 := sb_dis i hi j hj e
    exact aq_rgs (hI.1 i hi) hs (by omega)
/-- seen and table of one of the Halves -/
theorem cl_h {c d : aq_C} {j : Nat} (hI : cl_I c) (hj : j < 4) (hs : aq_sm (fun a => sb_h j ≤ a ∧ a < sb_h j + 18) c d) : cl_I d := by
  refine cl_s hI hs (fun i hi => ?_) ?_ (fun a ha => ?_)
  · have := sb_hnd i hi j hj
    omega
  · have := sb_hnd 0 (by omega) j hj
    omega
  · have := sb_hnd 0 (by omega) j hj
    omega
/-- the row of crossings -/
theorem cl_x {c d : aq_C} (hI : cl_I c) (hs : aq_sm (fun a => a = 8 ∨ a = 8 + 1) c d) (hl : cr_l 8 d) : cl_I d := by
  refine ⟨fun i hi => ?_, hl, fun i hi => sb_uc (hs _ (by omega)) (hs _ (by omega)) (hs _ (by omega)) (hI.2.2 i hi)⟩
  have hb := sb_bnd i hi
  exact aq_rgs (hI.1 i hi) hs (by omega)
/-- one of the sums -/
theorem cl_u {c d : aq_C} {j : Nat} (hI : cl_I c) (hj : j < 8) (hs : aq_sm (fun b => b = 495 + 4 * j ∨ b = 495 + 4 * j + 1 ∨ b = 495 + 4 * j + 2 ∨ b = 495 + 4 * j + 3) c d) (hu : sb_u (495 + 4 * j) d) : cl_I d := by
  refine ⟨fun i hi => ?_, cr_lc (hs 8 (by omega)) (hs 9 (by omega)) hI.2.1, fun i hi => ?_⟩
  · have hb := sb_bnd i hi
    exact aq_rgs (hI.1 i hi) hs (by omega)
  · by_cases e : i = j
    · subst e
      exact hu
    · exact sb_uc (hs _ (by omega)) (hs _ (by omega)) (hs _ (by omega)) (hI.2.2 i hi)
/-- the sum that is made -/
theorem cl_m {c d : aq_C} (hI : cl_I c) (hs : aq_sm (fun b => b = 4 ∨ b = 4 + 1 ∨ b = 4 + 2 ∨ b = 4 + 3) c d) : cl_I d := by
  refine cl_s hI hs (fun i hi => ?_) (by omega) (fun a ha => by omega)
  have hb := sb_bnd i hi
  omega
def aq_vl (r : Option am_V) : Prop := ∃ v, r = some (vL v)
theorem am_sq {d : Int} (h0 : 2 ≤ d) (h1 : d ≤ 32) : 0 ≤ d * d ∧ d * d ≤ 1024 := by
  refine ⟨Int.mul_nonneg (by omega) (by omega), ?_⟩
  exact Int.mul_le_mul h1 h1 (by omega) (by omega)
theorem ae_swd {C : am_C} {pc : Nat} {ls st : List am_V} {h : am_H} {Z : Option am_V → am_H → Prop} {d lo hi a : Int} {offs : Array Int} {len x y : Nat} (hrow : am_row C pc = some (.tableswitch d lo hi offs, len, x, y)) (ha : a < lo ∨ hi < a) (k : am_E C (((pc : Int) + d).toNat, ls, st, h) Z) : am_E C (pc, ls, vI a :: st, h) Z := by
  refine am_E.go hrow ?_ k
  show am_sw d lo hi offs len x y (pc, ls, vI a :: st, h) = _
  unfold am_sw
  simp only []
  rw [if_pos ha]

theorem qn_X4_isStrands {m s : Nat} {F : aq_F} {c : aq_C} {n : Int} : am_E ac_X4_isStrands (0, [vI n], [], aq_h m s F c) (aq_P m s F c (fun r => ∃ v, r = some (vI v) ∧ ((v = 1 ∧ 1 ≤ n ∧ n ≤ 4) ∨ (v = 0 ∧ ¬ (1 ≤ n ∧ n ≤ 4))))) := by
  refine am_E.go (t2 := (1, [vI n], [vI n], aq_h m s F c)) rfl rfl ?_
  refine am_E.go (t2 := (2, [vI n], [vI 1, vI n], aq_h m s F c)) rfl rfl ?_
  refine ae_icmp rfl (fun (q_1 : n < 1) => ?_) (fun (q_1 : 1 ≤ n) => ?_)
  · refine am_E.go (t2 := (15, [vI n], [vI 0], aq_h m s F c)) rfl rfl ?_
    refine am_E.ret rfl rfl ?_
    exact ⟨rfl, _, rfl, by omega⟩
  · refine am_E.go (t2 := (6, [vI n], [vI n], aq_h m s F c)) rfl rfl ?_
    refine am_E.go (t2 := (7, [vI n], [vI 4, vI n], aq_h m s F c)) rfl rfl ?_
    refine ae_icmp rfl (fun (q_2 : 4 < n) => ?_) (fun (q_2 : n ≤ 4) => ?_)
    · refine am_E.go (t2 := (15, [vI n], [vI 0], aq_h m s F c)) rfl rfl ?_
      refine am_E.ret rfl rfl ?_
      exact ⟨rfl, _, rfl, by omega⟩
    · refine am_E.go (t2 := (11, [vI n], [vI 1], aq_h m s F c)) rfl rfl ?_
      refine am_E.go (t2 := (15, [vI n], [vI 1], aq_h m s F c)) rfl rfl ?_
      refine am_E.ret rfl rfl ?_
      exact ⟨rfl, _, rfl, by omega⟩

theorem qn_X4_isSum {m s : Nat} {F : aq_F} {c : aq_C} {n : Int} : am_E ac_X4_isSum (0, [vI n], [], aq_h m s F c) (aq_P m s F c (fun r => ∃ v, r = some (vI v) ∧ ((v = 1 ∧ 0 ≤ n ∧ n < 8) ∨ (v = 0 ∧ ¬ (0 ≤ n ∧ n < 8))))) := by
  refine am_E.go (t2 := (1, [vI n], [vI n], aq_h m s F c)) rfl rfl ?_
  refine ae_if0 rfl (fun (q_1 : n < 0) => ?_) (fun (q_1 : 0 ≤ n) => ?_)
  · refine am_E.go (t2 := (15, [vI n], [vI 0], aq_h m s F c)) rfl rfl ?_
    refine am_E.ret rfl rfl ?_
    exact ⟨rfl, _, rfl, by omega⟩
  · refine am_E.go (t2 := (5, [vI n], [vI n], aq_h m s F c)) rfl rfl ?_
    refine am_E.go (t2 := (7, [vI n], [vI 8, vI n], aq_h m s F c)) rfl rfl ?_
    refine ae_icmp rfl (fun (q_2 : 8 ≤ n) => ?_) (fun (q_2 : n < 8) => ?_)
    · refine am_E.go (t2 := (15, [vI n], [vI 0], aq_h m s F c)) rfl rfl ?_
      refine am_E.ret rfl rfl ?_
      exact ⟨rfl, _, rfl, by omega⟩
    · refine am_E.go (t2 := (11, [vI n], [vI 1], aq_h m s F c)) rfl rfl ?_
      refine am_E.go (t2 := (15, [vI n], [vI 1], aq_h m s F c)) rfl rfl ?_
      refine am_E.ret rfl rfl ?_
      exact ⟨rfl, _, rfl, by omega⟩

theorem qn_X4_isThrough {m s : Nat} {F : aq_F} {c : aq_C} {n t : Int} : am_E ac_X4_isThrough (0, [vI n, vI t], [], aq_h m s F c) (aq_P m s F c (fun r => ∃ v, r = some (vI v) ∧ ((v = 1 ∧ 1 ≤ n ∧ n ≤ 4 ∧ 0 ≤ t ∧ t ≤ n) ∨ (v = 0 ∧ ¬ (1 ≤ n ∧ n ≤ 4 ∧ 0 ≤ t ∧ t ≤ n))))) := by
  refine am_E.go (t2 := (1, [vI n, vI t], [vI n], aq_h m s F c)) rfl rfl ?_
  refine am_E.call rfl rfl rfl (Nat.le_of_ble_eq_true rfl) (qn_X4_isStrands) ?_
  rintro r5 h5 ⟨rfl, v_1, rfl, hv_1⟩
  show am_E _ (4, [vI n, vI t], [vI v_1], aq_h m s F c) _
  refine ae_if0 rfl (fun (q_2 : v_1 = 0) => ?_) (fun (q_2 : v_1 ≠ 0) => ?_)
  · refine am_E.go (t2 := (21, [vI n, vI t], [vI 0], aq_h m s F c)) rfl rfl ?_
    refine am_E.ret rfl rfl ?_
    exact ⟨rfl, _, rfl, by omega⟩
  · refine am_E.go (t2 := (8, [vI n, vI t], [vI t], aq_h m s F c)) rfl rfl ?_
    refine ae_if0 rfl (fun (q_3 : t < 0) => ?_) (fun (q_3 : 0 ≤ t) => ?_)
    · refine am_E.go (t2 := (21, [vI n, vI t], [vI 0], aq_h m s F c)) rfl rfl ?_
      refine am_E.ret rfl rfl ?_
      exact ⟨rfl, _, rfl, by omega⟩
    · refine am_E.go (t2 := (12, [vI n, vI t], [vI t], aq_h m s F c)) rfl rfl ?_
      refine am_E.go (t2 := (13, [vI n, vI t], [vI n, vI t], aq_h m s F c)) rfl rfl ?_
      refine ae_icmp rfl (fun (q_4 : n < t) => ?_) (fun (q_4 : t ≤ n) => ?_)
      · refine am_E.go (t2 := (21, [vI n, vI t], [vI 0], aq_h m s F c)) rfl rfl ?_
        refine am_E.ret rfl rfl ?_
        exact ⟨rfl, _, rfl, by omega⟩
      · refine am_E.go (t2 := (17, [vI n, vI t], [vI 1], aq_h m s F c)) rfl rfl ?_
        refine am_E.go (t2 := (21, [vI n, vI t], [vI 1], aq_h m s F c)) rfl rfl ?_
        refine am_E.ret rfl rfl ?_
        exact ⟨rfl, _, rfl, by omega⟩

theorem qn_isPrime_l {m s : Nat} {F : aq_F} {c : aq_C} {p : Int} (hp0 : 2 ≤ p) (hp1 : p ≤ 997) : ∀ (d : Nat) (d5 : Int) (h0 : 2 ≤ d5) (h1 : d5 ≤ 32) (hd : 32 - d5 < (d : Int)), am_E ac_X4_isPrime (16, [vI p, vI d5], [], aq_h m s F c) (aq_P m s F c (fun r => ∃ v, r = some (vI v) ∧ ((v = 1 ∧ 2 ≤ p ∧ p ≤ 997) ∨ v = 0)))
  | 0, d5, h0, h1, hd => by exfalso; omega
  | d + 1, d5, h0, h1, hd => by
    have e1 : d5 = 32 → d5 * d5 = 1024 := by intro h; rw [h]; rfl
    have e2 := am_sq h0 h1
    refine am_E.go (t2 := (17, [vI p, vI d5], [vI d5], aq_h m s F c)) rfl rfl ?_
    refine am_E.go (t2 := (18, [vI p, vI d5], [vI d5, vI d5], aq_h m s F c)) rfl rfl ?_
    refine ae_mul rfl (am_ri (by omega) (by omega)) ?_
    show am_E _ (19, [vI p, vI d5], [vI (d5 * d5)], aq_h m s F c) _
    refine am_E.go (t2 := (20, [vI p, vI d5], [vI p, vI (d5 * d5)], aq_h m s F c)) rfl rfl ?_
    refine ae_icmp rfl (fun (q_1 : p < (d5 * d5)) => ?_) (fun (q_1 : (d5 * d5) ≤ p) => ?_)
    · refine am_E.go (t2 := (38, [vI p, vI d5], [vI 1], aq_h m s F c)) rfl rfl ?_
      refine am_E.ret rfl rfl ?_
      exact ⟨rfl, _, rfl, by omega⟩
    · refine am_E.go (t2 := (24, [vI p, vI d5], [vI p], aq_h m s F c)) rfl rfl ?_
      refine am_E.go (t2 := (25, [vI p, vI d5], [vI d5, vI p], aq_h m s F c)) rfl rfl ?_
      refine ae_bin (z := p.tmod d5) rfl rfl (am_rem_s (by omega)) ?_
      show am_E _ (26, [vI p, vI d5], [vI (p.tmod d5)], aq_h m s F c) _
      refine ae_if0 rfl (fun (q_2 : (p.tmod d5) ≠ 0) => ?_) (fun (q_2 : (p.tmod d5) = 0) => ?_)
      · refine ae_iinc rfl rfl (am_ri (by omega) (by omega)) ?_
        show am_E _ (34, [vI p, vI (d5 + 1)], [], aq_h m s F c) _
        refine am_E.go (t2 := (16, [vI p, vI (d5 + 1)], [], aq_h m s F c)) rfl rfl ?_
        exact qn_isPrime_l hp0 hp1 d (d5 + 1) (by omega) (by omega) (by omega)
      · refine am_E.go (t2 := (30, [vI p, vI d5], [vI 0], aq_h m s F c)) rfl rfl ?_
        refine am_E.ret rfl rfl ?_
        exact ⟨rfl, _, rfl, by omega⟩

theorem qn_X4_isPrime {m s : Nat} {F : aq_F} {c : aq_C} {p : Int} : am_E ac_X4_isPrime (0, [vI p, vU], [], aq_h m s F c) (aq_P m s F c (fun r => ∃ v, r = some (vI v) ∧ ((v = 1 ∧ 2 ≤ p ∧ p ≤ 997) ∨ v = 0))) := by
  refine am_E.go (t2 := (1, [vI p, vU], [vI p], aq_h m s F c)) rfl rfl ?_
  refine am_E.go (t2 := (2, [vI p, vU], [vI 2, vI p], aq_h m s F c)) rfl rfl ?_
  refine ae_icmp rfl (fun (q_1 : p < 2) => ?_) (fun (q_1 : 2 ≤ p) => ?_)
  · refine am_E.go (t2 := (13, [vI p, vU], [vI 0], aq_h m s F c)) rfl rfl ?_
    refine am_E.ret rfl rfl ?_
    exact ⟨rfl, _, rfl, by omega⟩
  · refine am_E.go (t2 := (6, [vI p, vU], [vI p], aq_h m s F c)) rfl rfl ?_
    refine am_E.go (t2 := (9, [vI p, vU], [vI 997, vI p], aq_h m s F c)) rfl rfl ?_
    refine ae_icmp rfl (fun (q_2 : p ≤ 997) => ?_) (fun (q_2 : 997 < p) => ?_)
    · refine am_E.go (t2 := (15, [vI p, vU], [vI 2], aq_h m s F c)) rfl rfl ?_
      refine am_E.go (t2 := (16, [vI p, vI 2], [], aq_h m s F c)) rfl rfl ?_
      exact qn_isPrime_l (by omega) (by omega) 32 2 (by omega) (by omega) (by omega)
    · refine am_E.go (t2 := (13, [vI p, vU], [vI 0], aq_h m s F c)) rfl rfl ?_
      refine am_E.ret rfl rfl ?_
      exact ⟨rfl, _, rfl, by omega⟩

theorem qn_X4_isBox {m s : Nat} {F : aq_F} {c : aq_C} (hC : sb_C m F) {nn b : Int} : am_E ac_X4_isBox (0, [vR 0, vI nn, vI b], [], aq_h m s F c) (aq_P m s F c (fun r => ∃ v, r = some (vI v) ∧ ((v = 1 ∧ 1 ≤ nn ∧ nn ≤ 4 ∧ 0 ≤ b ∧ b < bx_K nn) ∨ (v = 0 ∧ ¬ (1 ≤ nn ∧ nn ≤ 4 ∧ 0 ≤ b ∧ b < bx_K nn))))) := by
  obtain ⟨hCm, hC0, hC1, hC2, hC3, ⟨hma4, hFa4, hFn4, hFp4, hFf4⟩, ⟨hmx, hFx, hFl, hFw⟩, hCs, hCb, hCh⟩ := id hC
  refine am_E.go (t2 := (1, [vR 0, vI nn, vI b], [vI nn], aq_h m s F c)) rfl rfl ?_
  refine am_E.call rfl rfl rfl (Nat.le_of_ble_eq_true rfl) (qn_X4_isStrands) ?_
  rintro r5 h5 ⟨rfl, v_1, rfl, hv_1⟩
  show am_E _ (4, [vR 0, vI nn, vI b], [vI v_1], aq_h m s F c) _
  refine ae_if0 rfl (fun (q_2 : v_1 = 0) => ?_) (fun (q_2 : v_1 ≠ 0) => ?_)
  · refine am_E.go (t2 := (31, [vR 0, vI nn, vI b], [vI 0], aq_h m s F c)) rfl rfl ?_
    refine am_E.ret rfl rfl ?_
    exact ⟨rfl, _, rfl, by omega⟩
  · have e8 : nn - 1 + 1 = nn := by omega
    refine am_E.go (t2 := (8, [vR 0, vI nn, vI b], [vI b], aq_h m s F c)) rfl rfl ?_
    refine ae_if0 rfl (fun (q_3 : b < 0) => ?_) (fun (q_3 : 0 ≤ b) => ?_)
    · refine am_E.go (t2 := (31, [vR 0, vI nn, vI b], [vI 0], aq_h m s F c)) rfl rfl ?_
      refine am_E.ret rfl rfl ?_
      exact ⟨rfl, _, rfl, by omega⟩
    · refine am_E.go (t2 := (12, [vR 0, vI nn, vI b], [vI b], aq_h m s F c)) rfl rfl ?_
      refine am_E.go (t2 := (13, [vR 0, vI nn, vI b], [vR 0, vI b], aq_h m s F c)) rfl rfl ?_
      refine aq_gf (v := vR 1) rfl (by omega) hC0 (by decide) rfl ?_
      show am_E _ (16, [vR 0, vI nn, vI b], [vR 1, vI b], aq_h m s F c) _
      refine am_E.go (t2 := (17, [vR 0, vI nn, vI b], [vI nn, vR 1, vI b], aq_h m s F c)) rfl rfl ?_
      refine am_E.go (t2 := (18, [vR 0, vI nn, vI b], [vI 1, vI nn, vR 1, vI b], aq_h m s F c)) rfl rfl ?_
      refine ae_sub rfl (am_ri (by omega) (by omega)) ?_
      show am_E _ (19, [vR 0, vI nn, vI b], [vI (nn - 1), vR 1, vI b], aq_h m s F c) _
      obtain ⟨o, n, K, e_o, e_n, e_K, e_j, e_k, tP, tG, tN, tR, tL, ⟨hm, hn1, hn4, hK, hFo, hFd, hFs⟩, ⟨hPg, hPr, hPt⟩, ⟨hL, hGg, hGr, hNg, hNr, hLt, hGt, hNt⟩, ⟨hR, hRt⟩, hst, hex⟩ := sb_box hC (i := (nn - 1)) (by omega) (by omega)
      have hb := sb_bnd ((nn - 1)).toNat (by omega)
      rw [e_o, e_k] at hb
      refine aq_al (ok := fun k => decide (3 ≤ k) && decide (k < 7)) (v := vR o) rfl rfl (by omega) hC1 rfl (by omega) (by omega) (aq_gi2 (by omega) e_o) ?_
      show am_E _ (20, [vR 0, vI nn, vI b], [vR o, vI b], aq_h m s F c) _
      refine aq_gf (v := vI (K : Int)) rfl (by omega) hFo (by decide) rfl ?_
      show am_E _ (23, [vR 0, vI nn, vI b], [vI (K : Int), vI b], aq_h m s F c) _
      refine ae_icmp rfl (fun (q_4 : (K : Int) ≤ b) => ?_) (fun (q_4 : b < (K : Int)) => ?_)
      · rw [e8] at e_K
        refine am_E.go (t2 := (31, [vR 0, vI nn, vI b], [vI 0], aq_h m s F c)) rfl rfl ?_
        refine am_E.ret rfl rfl ?_
        exact ⟨rfl, _, rfl, by omega⟩
      · rw [e8] at e_K
        refine am_E.go (t2 := (27, [vR 0, vI nn, vI b], [vI 1], aq_h m s F c)) rfl rfl ?_
        refine am_E.go (t2 := (31, [vR 0, vI nn, vI b], [vI 1], aq_h m s F c)) rfl rfl ?_
        refine am_E.ret rfl rfl ?_
        exact ⟨rfl, _, rfl, by omega⟩
