
theorem qn_countLeaving_l {m s : Nat} {F : aq_F} {c : aq_C} {o n z : Nat} {tl : Int → Int} {th : Int → Int → Int} (hH : hv_0 m F o n z tl th) {t : Int} : ∀ (d : Nat) (x : Int) (h : Int) (h0 : 0 ≤ h) (h1 : h ≤ (z : Int)) (hd : (z : Int) - h < (d : Int)), am_E ac_X2_countLeaving (4, [vR o, vI t, vI x, vI h], [], aq_h m s F c) (aq_P m s F c aq_vi)
  | 0, x, h, h0, h1, hd => by exfalso; omega
  | d + 1, x, h, h0, h1, hd => by
    obtain ⟨hm, hn1, hn4, hz6, hFo, hFl, hFg, hFt, hFp, hFq, hFd, hFs, hht⟩ := hH
    refine am_E.go (t2 := (5, [vR o, vI t, vI x, vI h], [vI h], aq_h m s F c)) rfl rfl ?_
    refine am_E.go (t2 := (6, [vR o, vI t, vI x, vI h], [vR o, vI h], aq_h m s F c)) rfl rfl ?_
    refine aq_gf (v := vI (z : Int)) rfl (by omega) hFo (by decide) rfl ?_
    show am_E _ (9, [vR o, vI t, vI x, vI h], [vI (z : Int), vI h], aq_h m s F c) _
    refine ae_icmp rfl (fun (q_1 : (z : Int) ≤ h) => ?_) (fun (q_1 : h < (z : Int)) => ?_)
    · refine am_E.go (t2 := (37, [vR o, vI t, vI x, vI h], [vI x], aq_h m s F c)) rfl rfl ?_
      refine am_E.ret rfl rfl ?_
      exact ⟨rfl, _, rfl⟩
    · refine am_E.go (t2 := (13, [vR o, vI t, vI x, vI h], [vI x], aq_h m s F c)) rfl rfl ?_
      refine am_E.go (t2 := (14, [vR o, vI t, vI x, vI h], [vR o, vI x], aq_h m s F c)) rfl rfl ?_
      refine aq_gf (v := vR (o + 1)) rfl (by omega) hFo (by decide) rfl ?_
      show am_E _ (17, [vR o, vI t, vI x, vI h], [vR (o + 1), vI x], aq_h m s F c) _
      refine am_E.go (t2 := (18, [vR o, vI t, vI x, vI h], [vI h, vR (o + 1), vI x], aq_h m s F c)) rfl rfl ?_
      refine aq_alt (ok := fun k => k == 0) rfl rfl (by omega) hFl rfl (by omega) (by omega) ?_
      show am_E _ (19, [vR o, vI t, vI x, vI h], [vI (tl h), vI x], aq_h m s F c) _
      refine am_E.go (t2 := (20, [vR o, vI t, vI x, vI h], [vI t, vI (tl h), vI x], aq_h m s F c)) rfl rfl ?_
      refine ae_icmp rfl (fun (q_2 : (tl h) ≠ t) => ?_) (fun (q_2 : (tl h) = t) => ?_)
      · refine am_E.go (t2 := (28, [vR o, vI t, vI x, vI h], [vI 0, vI x], aq_h m s F c)) rfl rfl ?_
        refine am_E.go (t2 := (29, [vR o, vI t, vI x, vI h], [vI (am_w (x + 0))], aq_h m s F c)) rfl rfl ?_
        refine am_E.go (t2 := (30, [vR o, vI t, vI (am_w (x + 0)), vI h], [], aq_h m s F c)) rfl rfl ?_
        refine ae_iinc rfl rfl (am_ri (by omega) (by omega)) ?_
        show am_E _ (33, [vR o, vI t, vI (am_w (x + 0)), vI (h + 1)], [], aq_h m s F c) _
        refine am_E.go (t2 := (4, [vR o, vI t, vI (am_w (x + 0)), vI (h + 1)], [], aq_h m s F c)) rfl rfl ?_
        exact qn_countLeaving_l ⟨hm, hn1, hn4, hz6, hFo, hFl, hFg, hFt, hFp, hFq, hFd, hFs, hht⟩ d (am_w (x + 0)) (h + 1) (by omega) (by omega) (by omega)
      · refine am_E.go (t2 := (24, [vR o, vI t, vI x, vI h], [vI 1, vI x], aq_h m s F c)) rfl rfl ?_
        refine am_E.go (t2 := (28, [vR o, vI t, vI x, vI h], [vI 1, vI x], aq_h m s F c)) rfl rfl ?_
        refine am_E.go (t2 := (29, [vR o, vI t, vI x, vI h], [vI (am_w (x + 1))], aq_h m s F c)) rfl rfl ?_
        refine am_E.go (t2 := (30, [vR o, vI t, vI (am_w (x + 1)), vI h], [], aq_h m s F c)) rfl rfl ?_
        refine ae_iinc rfl rfl (am_ri (by omega) (by omega)) ?_
        show am_E _ (33, [vR o, vI t, vI (am_w (x + 1)), vI (h + 1)], [], aq_h m s F c) _
        refine am_E.go (t2 := (4, [vR o, vI t, vI (am_w (x + 1)), vI (h + 1)], [], aq_h m s F c)) rfl rfl ?_
        exact qn_countLeaving_l ⟨hm, hn1, hn4, hz6, hFo, hFl, hFg, hFt, hFp, hFq, hFd, hFs, hht⟩ d (am_w (x + 1)) (h + 1) (by omega) (by omega) (by omega)

theorem qn_X2_countLeaving {m s : Nat} {F : aq_F} {c : aq_C} {o n z : Nat} {tl : Int → Int} {th : Int → Int → Int} (hH : hv_0 m F o n z tl th) {t : Int} : am_E ac_X2_countLeaving (0, [vR o, vI t, vU, vU], [], aq_h m s F c) (aq_P m s F c aq_vi) := by
  obtain ⟨hm, hn1, hn4, hz6, hFo, hFl, hFg, hFt, hFp, hFq, hFd, hFs, hht⟩ := hH
  refine am_E.go (t2 := (1, [vR o, vI t, vU, vU], [vI 0], aq_h m s F c)) rfl rfl ?_
  refine am_E.go (t2 := (2, [vR o, vI t, vI 0, vU], [], aq_h m s F c)) rfl rfl ?_
  refine am_E.go (t2 := (3, [vR o, vI t, vI 0, vU], [vI 0], aq_h m s F c)) rfl rfl ?_
  refine am_E.go (t2 := (4, [vR o, vI t, vI 0, vI 0], [], aq_h m s F c)) rfl rfl ?_
  exact qn_countLeaving_l ⟨hm, hn1, hn4, hz6, hFo, hFl, hFg, hFt, hFp, hFq, hFd, hFs, hht⟩ 7 0 0 (by omega) (by omega) (by omega)

theorem qn_find_l {m s : Nat} {F : aq_F} {c : aq_C} {o n z : Nat} {tl : Int → Int} {th : Int → Int → Int} (hH : hv_0 m F o n z tl th) {t i : Int} : ∀ (d : Nat) (x : Int) (h : Int) (h0 : 0 ≤ h) (h1 : h ≤ (z : Int)) (hd : (z : Int) - h < (d : Int)), am_E ac_X2_find (5, [vR o, vI t, vI i, vI x, vI h], [], aq_h m s F c) (aq_P m s F c (fun r => ∃ v, r = some (vI v) ∧ (-1 ≤ v ∧ v < (z : Int))))
  | 0, x, h, h0, h1, hd => by exfalso; omega
  | d + 1, x, h, h0, h1, hd => by
    obtain ⟨hm, hn1, hn4, hz6, hFo, hFl, hFg, hFt, hFp, hFq, hFd, hFs, hht⟩ := hH
    refine am_E.go (t2 := (7, [vR o, vI t, vI i, vI x, vI h], [vI h], aq_h m s F c)) rfl rfl ?_
    refine am_E.go (t2 := (8, [vR o, vI t, vI i, vI x, vI h], [vR o, vI h], aq_h m s F c)) rfl rfl ?_
    refine aq_gf (v := vI (z : Int)) rfl (by omega) hFo (by decide) rfl ?_
    show am_E _ (11, [vR o, vI t, vI i, vI x, vI h], [vI (z : Int), vI h], aq_h m s F c) _
    refine ae_icmp rfl (fun (q_1 : (z : Int) ≤ h) => ?_) (fun (q_1 : h < (z : Int)) => ?_)
    · refine am_E.go (t2 := (43, [vR o, vI t, vI i, vI x, vI h], [vI (-1)], aq_h m s F c)) rfl rfl ?_
      refine am_E.ret rfl rfl ?_
      exact ⟨rfl, _, rfl, by omega⟩
    · refine am_E.go (t2 := (15, [vR o, vI t, vI i, vI x, vI h], [vR o], aq_h m s F c)) rfl rfl ?_
      refine aq_gf (v := vR (o + 1)) rfl (by omega) hFo (by decide) rfl ?_
      show am_E _ (18, [vR o, vI t, vI i, vI x, vI h], [vR (o + 1)], aq_h m s F c) _
      refine am_E.go (t2 := (20, [vR o, vI t, vI i, vI x, vI h], [vI h, vR (o + 1)], aq_h m s F c)) rfl rfl ?_
      refine aq_alt (ok := fun k => k == 0) rfl rfl (by omega) hFl rfl (by omega) (by omega) ?_
      show am_E _ (21, [vR o, vI t, vI i, vI x, vI h], [vI (tl h)], aq_h m s F c) _
      refine am_E.go (t2 := (22, [vR o, vI t, vI i, vI x, vI h], [vI t, vI (tl h)], aq_h m s F c)) rfl rfl ?_
      refine ae_icmp rfl (fun (q_2 : (tl h) ≠ t) => ?_) (fun (q_2 : (tl h) = t) => ?_)
      · refine ae_iinc rfl rfl (am_ri (by omega) (by omega)) ?_
        show am_E _ (39, [vR o, vI t, vI i, vI x, vI (h + 1)], [], aq_h m s F c) _
        refine am_E.go (t2 := (5, [vR o, vI t, vI i, vI x, vI (h + 1)], [], aq_h m s F c)) rfl rfl ?_
        exact qn_find_l ⟨hm, hn1, hn4, hz6, hFo, hFl, hFg, hFt, hFp, hFq, hFd, hFs, hht⟩ d x (h + 1) (by omega) (by omega) (by omega)
      · refine am_E.go (t2 := (26, [vR o, vI t, vI i, vI x, vI h], [vI x], aq_h m s F c)) rfl rfl ?_
        refine am_E.go (t2 := (27, [vR o, vI t, vI i, vI x, vI h], [vI i, vI x], aq_h m s F c)) rfl rfl ?_
        refine ae_icmp rfl (fun (q_3 : x ≠ i) => ?_) (fun (q_3 : x = i) => ?_)
        · refine am_E.go (t2 := (36, [vR o, vI t, vI i, vI (am_w (x + 1)), vI h], [], aq_h m s F c)) rfl rfl ?_
          refine ae_iinc rfl rfl (am_ri (by omega) (by omega)) ?_
          show am_E _ (39, [vR o, vI t, vI i, vI (am_w (x + 1)), vI (h + 1)], [], aq_h m s F c) _
          refine am_E.go (t2 := (5, [vR o, vI t, vI i, vI (am_w (x + 1)), vI (h + 1)], [], aq_h m s F c)) rfl rfl ?_
          exact qn_find_l ⟨hm, hn1, hn4, hz6, hFo, hFl, hFg, hFt, hFp, hFq, hFd, hFs, hht⟩ d (am_w (x + 1)) (h + 1) (by omega) (by omega) (by omega)
        · refine am_E.go (t2 := (32, [vR o, vI t, vI i, vI x, vI h], [vI h], aq_h m s F c)) rfl rfl ?_
          refine am_E.ret rfl rfl ?_
          exact ⟨rfl, _, rfl, by omega⟩

theorem qn_X2_find {m s : Nat} {F : aq_F} {c : aq_C} {o n z : Nat} {tl : Int → Int} {th : Int → Int → Int} (hH : hv_0 m F o n z tl th) {t i : Int} : am_E ac_X2_find (0, [vR o, vI t, vI i, vU, vU], [], aq_h m s F c) (aq_P m s F c (fun r => ∃ v, r = some (vI v) ∧ (-1 ≤ v ∧ v < (z : Int)))) := by
  obtain ⟨hm, hn1, hn4, hz6, hFo, hFl, hFg, hFt, hFp, hFq, hFd, hFs, hht⟩ := hH
  refine am_E.go (t2 := (1, [vR o, vI t, vI i, vU, vU], [vI 0], aq_h m s F c)) rfl rfl ?_
  refine am_E.go (t2 := (2, [vR o, vI t, vI i, vI 0, vU], [], aq_h m s F c)) rfl rfl ?_
  refine am_E.go (t2 := (3, [vR o, vI t, vI i, vI 0, vU], [vI 0], aq_h m s F c)) rfl rfl ?_
  refine am_E.go (t2 := (5, [vR o, vI t, vI i, vI 0, vI 0], [], aq_h m s F c)) rfl rfl ?_
  exact qn_find_l ⟨hm, hn1, hn4, hz6, hFo, hFl, hFg, hFt, hFp, hFq, hFd, hFs, hht⟩ 7 0 0 (by omega) (by omega) (by omega)

theorem qn_leadsOut_l {m s : Nat} {F : aq_F} {c0 : aq_C} {S : Nat → Prop} {o n z : Nat} {tl : Int → Int} {th : Int → Int → Int} (hH : hv_0 m F o n z tl th) (hSs : S (o + 17)) (hSt : ∀ j, j < 6 → S (o + 3 + j)) {x y : Int} (hx0 : 0 ≤ x) (hx6 : x < 6) (hy0 : 0 ≤ y) (hy6 : y < 6) {p : Int} : ∀ (d : Nat) (a : Int) (k : Int) (v6 : am_V) (c : aq_C) (hs : aq_sm S c0 c) (h0 : 0 ≤ a) (h1 : a < (n : Int)) (h2 : 0 ≤ k) (h3 : k ≤ (n : Int)) (hd : (n : Int) - k < (d : Int)), am_E ac_X2_leadsOut (6, [vR o, vR (o + 10 + x.toNat), vR (o + 10 + y.toNat), vI p, vI a, vI k, v6], [], aq_h m s F c) (aq_Z m s F S c0 (fun r _ => aq_vb r))
  | 0, a, k, v6, c, hs, h0, h1, h2, h3, hd => by exfalso; omega
  | d + 1, a, k, v6, c, hs, h0, h1, h2, h3, hd => by
    obtain ⟨hm, hn1, hn4, hz6, hFo, hFl, hFg, hFt, hFp, hFq, hFd, hFs, hht⟩ := hH
    refine am_E.go (t2 := (8, [vR o, vR (o + 10 + x.toNat), vR (o + 10 + y.toNat), vI p, vI a, vI k, v6], [vI k], aq_h m s F c)) rfl rfl ?_
    refine am_E.go (t2 := (9, [vR o, vR (o + 10 + x.toNat), vR (o + 10 + y.toNat), vI p, vI a, vI k, v6], [vR o, vI k], aq_h m s F c)) rfl rfl ?_
    refine aq_gf (v := vI (n : Int)) rfl (by omega) hFo (by decide) rfl ?_
    show am_E _ (12, [vR o, vR (o + 10 + x.toNat), vR (o + 10 + y.toNat), vI p, vI a, vI k, v6], [vI (n : Int), vI k], aq_h m s F c) _
    refine ae_icmp rfl (fun (q_1 : (n : Int) ≤ k) => ?_) (fun (q_1 : k < (n : Int)) => ?_)
    · refine am_E.go (t2 := (72, [vR o, vR (o + 10 + x.toNat), vR (o + 10 + y.toNat), vI p, vI a, vI k, v6], [vI 0], aq_h m s F c)) rfl rfl ?_
      refine am_E.ret rfl rfl ?_
      exact ⟨_, rfl, hs, _, rfl, by omega⟩
    · refine am_E.go (t2 := (16, [vR o, vR (o + 10 + x.toNat), vR (o + 10 + y.toNat), vI p, vI a, vI k, v6], [vR o], aq_h m s F c)) rfl rfl ?_
      refine aq_gf (v := vR (o + 17)) rfl (by omega) hFo (by decide) rfl ?_
      show am_E _ (19, [vR o, vR (o + 10 + x.toNat), vR (o + 10 + y.toNat), vI p, vI a, vI k, v6], [vR (o + 17)], aq_h m s F c) _
      refine am_E.go (t2 := (21, [vR o, vR (o + 10 + x.toNat), vR (o + 10 + y.toNat), vI p, vI a, vI k, v6], [vI a, vR (o + 17)], aq_h m s F c)) rfl rfl ?_
      refine am_E.go (t2 := (22, [vR o, vR (o + 10 + x.toNat), vR (o + 10 + y.toNat), vI p, vI a, vI k, v6], [vI 1, vI a, vR (o + 17)], aq_h m s F c)) rfl rfl ?_
      refine aq_as (kd := 1) rfl rfl (by omega) hFs (by omega) (by omega) rfl rfl ?_
      show am_E _ (23, [vR o, vR (o + 10 + x.toNat), vR (o + 10 + y.toNat), vI p, vI a, vI k, v6], [], aq_h m s F (aq_u c (o + 17) a 1)) _
      generalize hdc_2 : aq_u c (o + 17) a 1 = c_2
      have sc_2 := aq_smu hs hdc_2 hSs
      refine am_E.go (t2 := (24, [vR o, vR (o + 10 + x.toNat), vR (o + 10 + y.toNat), vI p, vI a, vI k, v6], [vR (o + 10 + y.toNat)], aq_h m s F c_2)) rfl rfl ?_
      refine am_E.go (t2 := (26, [vR o, vR (o + 10 + x.toNat), vR (o + 10 + y.toNat), vI p, vI a, vI k, v6], [vI a, vR (o + 10 + y.toNat)], aq_h m s F c_2)) rfl rfl ?_
      refine aq_alt (ok := fun k => k == 0) rfl rfl (by omega) (hFq _ (by omega)) rfl (by omega) (by omega) ?_
      show am_E _ (27, [vR o, vR (o + 10 + x.toNat), vR (o + 10 + y.toNat), vI p, vI a, vI k, v6], [vI (th ((y.toNat : Nat) : Int) a)], aq_h m s F c_2) _
      have f_3 := hht ((y.toNat : Nat) : Int) a (by omega) (by omega) (by omega) (by omega)
      refine am_E.go (t2 := (29, [vR o, vR (o + 10 + x.toNat), vR (o + 10 + y.toNat), vI p, vI a, vI k, vI (th ((y.toNat : Nat) : Int) a)], [], aq_h m s F c_2)) rfl rfl ?_
      refine am_E.go (t2 := (31, [vR o, vR (o + 10 + x.toNat), vR (o + 10 + y.toNat), vI p, vI a, vI k, vI (th ((y.toNat : Nat) : Int) a)], [vI (th ((y.toNat : Nat) : Int) a)], aq_h m s F c_2)) rfl rfl ?_
      refine am_E.go (t2 := (32, [vR o, vR (o + 10 + x.toNat), vR (o + 10 + y.toNat), vI p, vI a, vI k, vI (th ((y.toNat : Nat) : Int) a)], [vR o, vI (th ((y.toNat : Nat) : Int) a)], aq_h m s F c_2)) rfl rfl ?_
      refine aq_gf (v := vI (n : Int)) rfl (by omega) hFo (by decide) rfl ?_
      show am_E _ (35, [vR o, vR (o + 10 + x.toNat), vR (o + 10 + y.toNat), vI p, vI a, vI k, vI (th ((y.toNat : Nat) : Int) a)], [vI (n : Int), vI (th ((y.toNat : Nat) : Int) a)], aq_h m s F c_2) _
      refine ae_icmp rfl (fun (q_4 : (th ((y.toNat : Nat) : Int) a) ≠ (n : Int)) => ?_) (fun (q_4 : (th ((y.toNat : Nat) : Int) a) = (n : Int)) => ?_)
      · refine am_E.go (t2 := (41, [vR o, vR (o + 10 + x.toNat), vR (o + 10 + y.toNat), vI p, vI a, vI k, vI (th ((y.toNat : Nat) : Int) a)], [vR o], aq_h m s F c_2)) rfl rfl ?_
        refine aq_gf (v := vR (o + 17)) rfl (by omega) hFo (by decide) rfl ?_
        show am_E _ (44, [vR o, vR (o + 10 + x.toNat), vR (o + 10 + y.toNat), vI p, vI a, vI k, vI (th ((y.toNat : Nat) : Int) a)], [vR (o + 17)], aq_h m s F c_2) _
        refine am_E.go (t2 := (46, [vR o, vR (o + 10 + x.toNat), vR (o + 10 + y.toNat), vI p, vI a, vI k, vI (th ((y.toNat : Nat) : Int) a)], [vI (th ((y.toNat : Nat) : Int) a), vR (o + 17)], aq_h m s F c_2)) rfl rfl ?_
        refine am_E.go (t2 := (47, [vR o, vR (o + 10 + x.toNat), vR (o + 10 + y.toNat), vI p, vI a, vI k, vI (th ((y.toNat : Nat) : Int) a)], [vI 1, vI (th ((y.toNat : Nat) : Int) a), vR (o + 17)], aq_h m s F c_2)) rfl rfl ?_
        refine aq_as (kd := 1) rfl rfl (by omega) hFs (by omega) (by omega) rfl rfl ?_
        show am_E _ (48, [vR o, vR (o + 10 + x.toNat), vR (o + 10 + y.toNat), vI p, vI a, vI k, vI (th ((y.toNat : Nat) : Int) a)], [], aq_h m s F (aq_u c_2 (o + 17) (th ((y.toNat : Nat) : Int) a) 1)) _
        generalize hdc_5 : aq_u c_2 (o + 17) (th ((y.toNat : Nat) : Int) a) 1 = c_5
        have sc_5 := aq_smu sc_2 hdc_5 hSs
        refine am_E.go (t2 := (49, [vR o, vR (o + 10 + x.toNat), vR (o + 10 + y.toNat), vI p, vI a, vI k, vI (th ((y.toNat : Nat) : Int) a)], [vR (o + 10 + x.toNat)], aq_h m s F c_5)) rfl rfl ?_
        refine am_E.go (t2 := (51, [vR o, vR (o + 10 + x.toNat), vR (o + 10 + y.toNat), vI p, vI a, vI k, vI (th ((y.toNat : Nat) : Int) a)], [vI (th ((y.toNat : Nat) : Int) a), vR (o + 10 + x.toNat)], aq_h m s F c_5)) rfl rfl ?_
        refine aq_alt (ok := fun k => k == 0) rfl rfl (by omega) (hFq _ (by omega)) rfl (by omega) (by omega) ?_
        show am_E _ (52, [vR o, vR (o + 10 + x.toNat), vR (o + 10 + y.toNat), vI p, vI a, vI k, vI (th ((y.toNat : Nat) : Int) a)], [vI (th ((x.toNat : Nat) : Int) (th ((y.toNat : Nat) : Int) a))], aq_h m s F c_5) _
        have f_6 := hht ((x.toNat : Nat) : Int) (th ((y.toNat : Nat) : Int) a) (by omega) (by omega) (by omega) (by omega)
        refine am_E.go (t2 := (54, [vR o, vR (o + 10 + x.toNat), vR (o + 10 + y.toNat), vI p, vI (th ((x.toNat : Nat) : Int) (th ((y.toNat : Nat) : Int) a)), vI k, vI (th ((y.toNat : Nat) : Int) a)], [], aq_h m s F c_5)) rfl rfl ?_
        refine am_E.go (t2 := (56, [vR o, vR (o + 10 + x.toNat), vR (o + 10 + y.toNat), vI p, vI (th ((x.toNat : Nat) : Int) (th ((y.toNat : Nat) : Int) a)), vI k, vI (th ((y.toNat : Nat) : Int) a)], [vI (th ((x.toNat : Nat) : Int) (th ((y.toNat : Nat) : Int) a))], aq_h m s F c_5)) rfl rfl ?_
        refine am_E.go (t2 := (57, [vR o, vR (o + 10 + x.toNat), vR (o + 10 + y.toNat), vI p, vI (th ((x.toNat : Nat) : Int) (th ((y.toNat : Nat) : Int) a)), vI k, vI (th ((y.toNat : Nat) : Int) a)], [vR o, vI (th ((x.toNat : Nat) : Int) (th ((y.toNat : Nat) : Int) a))], aq_h m s F c_5)) rfl rfl ?_
        refine aq_gf (v := vI (n : Int)) rfl (by omega) hFo (by decide) rfl ?_
        show am_E _ (60, [vR o, vR (o + 10 + x.toNat), vR (o + 10 + y.toNat), vI p, vI (th ((x.toNat : Nat) : Int) (th ((y.toNat : Nat) : Int) a)), vI k, vI (th ((y.toNat : Nat) : Int) a)], [vI (n : Int), vI (th ((x.toNat : Nat) : Int) (th ((y.toNat : Nat) : Int) a))], aq_h m s F c_5) _
        refine ae_icmp rfl (fun (q_7 : (th ((x.toNat : Nat) : Int) (th ((y.toNat : Nat) : Int) a)) ≠ (n : Int)) => ?_) (fun (q_7 : (th ((x.toNat : Nat) : Int) (th ((y.toNat : Nat) : Int) a)) = (n : Int)) => ?_)
        · refine ae_iinc rfl rfl (am_ri (by omega) (by omega)) ?_
          show am_E _ (68, [vR o, vR (o + 10 + x.toNat), vR (o + 10 + y.toNat), vI p, vI (th ((x.toNat : Nat) : Int) (th ((y.toNat : Nat) : Int) a)), vI (k + 1), vI (th ((y.toNat : Nat) : Int) a)], [], aq_h m s F c_5) _
          refine am_E.go (t2 := (6, [vR o, vR (o + 10 + x.toNat), vR (o + 10 + y.toNat), vI p, vI (th ((x.toNat : Nat) : Int) (th ((y.toNat : Nat) : Int) a)), vI (k + 1), vI (th ((y.toNat : Nat) : Int) a)], [], aq_h m s F c_5)) rfl rfl ?_
          exact qn_leadsOut_l ⟨hm, hn1, hn4, hz6, hFo, hFl, hFg, hFt, hFp, hFq, hFd, hFs, hht⟩ hSs hSt hx0 hx6 hy0 hy6 d (th ((x.toNat : Nat) : Int) (th ((y.toNat : Nat) : Int) a)) (k + 1) (vI (th ((y.toNat : Nat) : Int) a)) c_5 sc_5 (by omega) (by omega) (by omega) (by omega) (by omega)
        · refine am_E.go (t2 := (64, [vR o, vR (o + 10 + x.toNat), vR (o + 10 + y.toNat), vI p, vI (th ((x.toNat : Nat) : Int) (th ((y.toNat : Nat) : Int) a)), vI k, vI (th ((y.toNat : Nat) : Int) a)], [vI 0], aq_h m s F c_5)) rfl rfl ?_
          refine am_E.ret rfl rfl ?_
          exact ⟨_, rfl, sc_5, _, rfl, by omega⟩
      · refine am_E.go (t2 := (39, [vR o, vR (o + 10 + x.toNat), vR (o + 10 + y.toNat), vI p, vI a, vI k, vI (th ((y.toNat : Nat) : Int) a)], [vI 1], aq_h m s F c_2)) rfl rfl ?_
        refine am_E.ret rfl rfl ?_
        exact ⟨_, rfl, sc_2, _, rfl, by omega⟩

theorem qn_X2_leadsOut {m s : Nat} {F : aq_F} {c : aq_C} {S : Nat → Prop} {o n z : Nat} {tl : Int → Int} {th : Int → Int → Int} (hH : hv_0 m F o n z tl th) (hSs : S (o + 17)) (hSt : ∀ j, j < 6 → S (o + 3 + j)) {x y : Int} (hx0 : 0 ≤ x) (hx6 : x < 6) (hy0 : 0 ≤ y) (hy6 : y < 6) {p : Int} (hp0 : 0 ≤ p) (hpn : p < (n : Int)) : am_E ac_X2_leadsOut (0, [vR o, vR (o + 10 + x.toNat), vR (o + 10 + y.toNat), vI p, vU, vU, vU], [], aq_h m s F c) (aq_Z m s F S c (fun r _ => aq_vb r)) := by
  obtain ⟨hm, hn1, hn4, hz6, hFo, hFl, hFg, hFt, hFp, hFq, hFd, hFs, hht⟩ := hH
  refine am_E.go (t2 := (1, [vR o, vR (o + 10 + x.toNat), vR (o + 10 + y.toNat), vI p, vU, vU, vU], [vI p], aq_h m s F c)) rfl rfl ?_
  refine am_E.go (t2 := (3, [vR o, vR (o + 10 + x.toNat), vR (o + 10 + y.toNat), vI p, vI p, vU, vU], [], aq_h m s F c)) rfl rfl ?_
  refine am_E.go (t2 := (4, [vR o, vR (o + 10 + x.toNat), vR (o + 10 + y.toNat), vI p, vI p, vU, vU], [vI 0], aq_h m s F c)) rfl rfl ?_
  refine am_E.go (t2 := (6, [vR o, vR (o + 10 + x.toNat), vR (o + 10 + y.toNat), vI p, vI p, vI 0, vU], [], aq_h m s F c)) rfl rfl ?_
  exact qn_leadsOut_l ⟨hm, hn1, hn4, hz6, hFo, hFl, hFg, hFt, hFp, hFq, hFd, hFs, hht⟩ hSs hSt hx0 hx6 hy0 hy6 7 p 0 (vU) c aq_sm0 (by omega) (by omega) (by omega) (by omega) (by omega)

theorem qn_goRound_l {m s : Nat} {F : aq_F} {c0 : aq_C} {S : Nat → Prop} {o n z : Nat} {tl : Int → Int} {th : Int → Int → Int} (hH : hv_0 m F o n z tl th) (hSs : S (o + 17)) (hSt : ∀ j, j < 6 → S (o + 3 + j)) {x y : Int} (hx0 : 0 ≤ x) (hx6 : x < 6) (hy0 : 0 ≤ y) (hy6 : y < 6) {p : Int} : ∀ (d : Nat) (a : Int) (k : Int) (v6 : am_V) (c : aq_C) (hs : aq_sm S c0 c) (h0 : 0 ≤ a) (h1 : a ≤ (n : Int)) (h2 : 0 ≤ k) (h3 : k ≤ (n : Int)) (hd : (n : Int) - k < (d : Int)), am_E ac_X2_goRound (6, [vR o, vR (o + 10 + x.toNat), vR (o + 10 + y.toNat), vI p, vI a, vI k, v6], [], aq_h m s F c) (aq_Z m s F S c0 (fun r _ => r = none))
  | 0, a, k, v6, c, hs, h0, h1, h2, h3, hd => by exfalso; omega
  | d + 1, a, k, v6, c, hs, h0, h1, h2, h3, hd => by
    obtain ⟨hm, hn1, hn4, hz6, hFo, hFl, hFg, hFt, hFp, hFq, hFd, hFs, hht⟩ := hH
    refine am_E.go (t2 := (8, [vR o, vR (o + 10 + x.toNat), vR (o + 10 + y.toNat), vI p, vI a, vI k, v6], [vI k], aq_h m s F c)) rfl rfl ?_
    refine am_E.go (t2 := (9, [vR o, vR (o + 10 + x.toNat), vR (o + 10 + y.toNat), vI p, vI a, vI k, v6], [vR o, vI k], aq_h m s F c)) rfl rfl ?_
    refine aq_gf (v := vI (n : Int)) rfl (by omega) hFo (by decide) rfl ?_
    show am_E _ (12, [vR o, vR (o + 10 + x.toNat), vR (o + 10 + y.toNat), vI p, vI a, vI k, v6], [vI (n : Int), vI k], aq_h m s F c) _
    refine ae_icmp rfl (fun (q_1 : (n : Int) ≤ k) => ?_) (fun (q_1 : k < (n : Int)) => ?_)
    · refine am_E.ret rfl rfl ?_
      exact ⟨_, rfl, hs, rfl⟩
    · refine am_E.go (t2 := (17, [vR o, vR (o + 10 + x.toNat), vR (o + 10 + y.toNat), vI p, vI a, vI k, v6], [vI a], aq_h m s F c)) rfl rfl ?_
      refine am_E.go (t2 := (18, [vR o, vR (o + 10 + x.toNat), vR (o + 10 + y.toNat), vI p, vI a, vI k, v6], [vR o, vI a], aq_h m s F c)) rfl rfl ?_
      refine aq_gf (v := vI (n : Int)) rfl (by omega) hFo (by decide) rfl ?_
      show am_E _ (21, [vR o, vR (o + 10 + x.toNat), vR (o + 10 + y.toNat), vI p, vI a, vI k, v6], [vI (n : Int), vI a], aq_h m s F c) _
      refine ae_icmp rfl (fun (q_2 : (n : Int) ≤ a) => ?_) (fun (q_2 : a < (n : Int)) => ?_)
      · refine am_E.ret rfl rfl ?_
        exact ⟨_, rfl, hs, rfl⟩
      · refine am_E.go (t2 := (25, [vR o, vR (o + 10 + x.toNat), vR (o + 10 + y.toNat), vI p, vI a, vI k, v6], [vR o], aq_h m s F c)) rfl rfl ?_
        refine aq_gf (v := vR (o + 17)) rfl (by omega) hFo (by decide) rfl ?_
        show am_E _ (28, [vR o, vR (o + 10 + x.toNat), vR (o + 10 + y.toNat), vI p, vI a, vI k, v6], [vR (o + 17)], aq_h m s F c) _
        refine am_E.go (t2 := (30, [vR o, vR (o + 10 + x.toNat), vR (o + 10 + y.toNat), vI p, vI a, vI k, v6], [vI a, vR (o + 17)], aq_h m s F c)) rfl rfl ?_
        refine aq_al (ok := fun k => k == 1) (v := vI (c (o + 17) a)) rfl rfl (by omega) hFs rfl (by omega) (by omega) rfl ?_
        show am_E _ (31, [vR o, vR (o + 10 + x.toNat), vR (o + 10 + y.toNat), vI p, vI a, vI k, v6], [vI (c (o + 17) a)], aq_h m s F c) _
        refine ae_if0 rfl (fun (q_3 : (c (o + 17) a) ≠ 0) => ?_) (fun (q_3 : (c (o + 17) a) = 0) => ?_)
        · refine am_E.ret rfl rfl ?_
          exact ⟨_, rfl, hs, rfl⟩
        · refine am_E.go (t2 := (35, [vR o, vR (o + 10 + x.toNat), vR (o + 10 + y.toNat), vI p, vI a, vI k, v6], [vR o], aq_h m s F c)) rfl rfl ?_
          refine aq_gf (v := vR (o + 17)) rfl (by omega) hFo (by decide) rfl ?_
          show am_E _ (38, [vR o, vR (o + 10 + x.toNat), vR (o + 10 + y.toNat), vI p, vI a, vI k, v6], [vR (o + 17)], aq_h m s F c) _
          refine am_E.go (t2 := (40, [vR o, vR (o + 10 + x.toNat), vR (o + 10 + y.toNat), vI p, vI a, vI k, v6], [vI a, vR (o + 17)], aq_h m s F c)) rfl rfl ?_
          refine am_E.go (t2 := (41, [vR o, vR (o + 10 + x.toNat), vR (o + 10 + y.toNat), vI p, vI a, vI k, v6], [vI 1, vI a, vR (o + 17)], aq_h m s F c)) rfl rfl ?_
          refine aq_as (kd := 1) rfl rfl (by omega) hFs (by omega) (by omega) rfl rfl ?_
          show am_E _ (42, [vR o, vR (o + 10 + x.toNat), vR (o + 10 + y.toNat), vI p, vI a, vI k, v6], [], aq_h m s F (aq_u c (o + 17) a 1)) _
          generalize hdc_4 : aq_u c (o + 17) a 1 = c_4
          have sc_4 := aq_smu hs hdc_4 hSs
          refine am_E.go (t2 := (43, [vR o, vR (o + 10 + x.toNat), vR (o + 10 + y.toNat), vI p, vI a, vI k, v6], [vR (o + 10 + y.toNat)], aq_h m s F c_4)) rfl rfl ?_
          refine am_E.go (t2 := (45, [vR o, vR (o + 10 + x.toNat), vR (o + 10 + y.toNat), vI p, vI a, vI k, v6], [vI a, vR (o + 10 + y.toNat)], aq_h m s F c_4)) rfl rfl ?_
          refine aq_alt (ok := fun k => k == 0) rfl rfl (by omega) (hFq _ (by omega)) rfl (by omega) (by omega) ?_
          show am_E _ (46, [vR o, vR (o + 10 + x.toNat), vR (o + 10 + y.toNat), vI p, vI a, vI k, v6], [vI (th ((y.toNat : Nat) : Int) a)], aq_h m s F c_4) _
          have f_5 := hht ((y.toNat : Nat) : Int) a (by omega) (by omega) (by omega) (by omega)
          refine am_E.go (t2 := (48, [vR o, vR (o + 10 + x.toNat), vR (o + 10 + y.toNat), vI p, vI a, vI k, vI (th ((y.toNat : Nat) : Int) a)], [], aq_h m s F c_4)) rfl rfl ?_
          refine am_E.go (t2 := (50, [vR o, vR (o + 10 + x.toNat), vR (o + 10 + y.toNat), vI p, vI a, vI k, vI (th ((y.toNat : Nat) : Int) a)], [vI (th ((y.toNat : Nat) : Int) a)], aq_h m s F c_4)) rfl rfl ?_
          refine am_E.go (t2 := (51, [vR o, vR (o + 10 + x.toNat), vR (o + 10 + y.toNat), vI p, vI a, vI k, vI (th ((y.toNat : Nat) : Int) a)], [vR o, vI (th ((y.toNat : Nat) : Int) a)], aq_h m s F c_4)) rfl rfl ?_
          refine aq_gf (v := vI (n : Int)) rfl (by omega) hFo (by decide) rfl ?_
          show am_E _ (54, [vR o, vR (o + 10 + x.toNat), vR (o + 10 + y.toNat), vI p, vI a, vI k, vI (th ((y.toNat : Nat) : Int) a)], [vI (n : Int), vI (th ((y.toNat : Nat) : Int) a)], aq_h m s F c_4) _
          refine ae_icmp rfl (fun (q_6 : (n : Int) ≤ (th ((y.toNat : Nat) : Int) a)) => ?_) (fun (q_6 : (th ((y.toNat : Nat) : Int) a) < (n : Int)) => ?_)
          · refine ae_iinc rfl rfl (am_ri (by omega) (by omega)) ?_
            show am_E _ (74, [vR o, vR (o + 10 + x.toNat), vR (o + 10 + y.toNat), vI p, vI a, vI (k + 1), vI (th ((y.toNat : Nat) : Int) a)], [], aq_h m s F c_4) _
            refine am_E.go (t2 := (6, [vR o, vR (o + 10 + x.toNat), vR (o + 10 + y.toNat), vI p, vI a, vI (k + 1), vI (th ((y.toNat : Nat) : Int) a)], [], aq_h m s F c_4)) rfl rfl ?_
            exact qn_goRound_l ⟨hm, hn1, hn4, hz6, hFo, hFl, hFg, hFt, hFp, hFq, hFd, hFs, hht⟩ hSs hSt hx0 hx6 hy0 hy6 d a (k + 1) (vI (th ((y.toNat : Nat) : Int) a)) c_4 sc_4 (by omega) (by omega) (by omega) (by omega) (by omega)
          · refine am_E.go (t2 := (58, [vR o, vR (o + 10 + x.toNat), vR (o + 10 + y.toNat), vI p, vI a, vI k, vI (th ((y.toNat : Nat) : Int) a)], [vR o], aq_h m s F c_4)) rfl rfl ?_
            refine aq_gf (v := vR (o + 17)) rfl (by omega) hFo (by decide) rfl ?_
            show am_E _ (61, [vR o, vR (o + 10 + x.toNat), vR (o + 10 + y.toNat), vI p, vI a, vI k, vI (th ((y.toNat : Nat) : Int) a)], [vR (o + 17)], aq_h m s F c_4) _
            refine am_E.go (t2 := (63, [vR o, vR (o + 10 + x.toNat), vR (o + 10 + y.toNat), vI p, vI a, vI k, vI (th ((y.toNat : Nat) : Int) a)], [vI (th ((y.toNat : Nat) : Int) a), vR (o + 17)], aq_h m s F c_4)) rfl rfl ?_
            refine am_E.go (t2 := (64, [vR o, vR (o + 10 + x.toNat), vR (o + 10 + y.toNat), vI p, vI a, vI k, vI (th ((y.toNat : Nat) : Int) a)], [vI 1, vI (th ((y.toNat : Nat) : Int) a), vR (o + 17)], aq_h m s F c_4)) rfl rfl ?_
            refine aq_as (kd := 1) rfl rfl (by omega) hFs (by omega) (by omega) rfl rfl ?_
            show am_E _ (65, [vR o, vR (o + 10 + x.toNat), vR (o + 10 + y.toNat), vI p, vI a, vI k, vI (th ((y.toNat : Nat) : Int) a)], [], aq_h m s F (aq_u c_4 (o + 17) (th ((y.toNat : Nat) : Int) a) 1)) _
            generalize hdc_7 : aq_u c_4 (o + 17) (th ((y.toNat : Nat) : Int) a) 1 = c_7
            have sc_7 := aq_smu sc_4 hdc_7 hSs
            refine am_E.go (t2 := (66, [vR o, vR (o + 10 + x.toNat), vR (o + 10 + y.toNat), vI p, vI a, vI k, vI (th ((y.toNat : Nat) : Int) a)], [vR (o + 10 + x.toNat)], aq_h m s F c_7)) rfl rfl ?_
            refine am_E.go (t2 := (68, [vR o, vR (o + 10 + x.toNat), vR (o + 10 + y.toNat), vI p, vI a, vI k, vI (th ((y.toNat : Nat) : Int) a)], [vI (th ((y.toNat : Nat) : Int) a), vR (o + 10 + x.toNat)], aq_h m s F c_7)) rfl rfl ?_
            refine aq_alt (ok := fun k => k == 0) rfl rfl (by omega) (hFq _ (by omega)) rfl (by omega) (by omega) ?_
            show am_E _ (69, [vR o, vR (o + 10 + x.toNat), vR (o + 10 + y.toNat), vI p, vI a, vI k, vI (th ((y.toNat : Nat) : Int) a)], [vI (th ((x.toNat : Nat) : Int) (th ((y.toNat : Nat) : Int) a))], aq_h m s F c_7) _
            have f_8 := hht ((x.toNat : Nat) : Int) (th ((y.toNat : Nat) : Int) a) (by omega) (by omega) (by omega) (by omega)
            refine am_E.go (t2 := (71, [vR o, vR (o + 10 + x.toNat), vR (o + 10 + y.toNat), vI p, vI (th ((x.toNat : Nat) : Int) (th ((y.toNat : Nat) : Int) a)), vI k, vI (th ((y.toNat : Nat) : Int) a)], [], aq_h m s F c_7)) rfl rfl ?_
            refine ae_iinc rfl rfl (am_ri (by omega) (by omega)) ?_
            show am_E _ (74, [vR o, vR (o + 10 + x.toNat), vR (o + 10 + y.toNat), vI p, vI (th ((x.toNat : Nat) : Int) (th ((y.toNat : Nat) : Int) a)), vI (k + 1), vI (th ((y.toNat : Nat) : Int) a)], [], aq_h m s F c_7) _
            refine am_E.go (t2 := (6, [vR o, vR (o + 10 + x.toNat), vR (o + 10 + y.toNat), vI p, vI (th ((x.toNat : Nat) : Int) (th ((y.toNat : Nat) : Int) a)), vI (k + 1), vI (th ((y.toNat : Nat) : Int) a)], [], aq_h m s F c_7)) rfl rfl ?_
            exact qn_goRound_l ⟨hm, hn1, hn4, hz6, hFo, hFl, hFg, hFt, hFp, hFq, hFd, hFs, hht⟩ hSs hSt hx0 hx6 hy0 hy6 d (th ((x.toNat : Nat) : Int) (th ((y.toNat : Nat) : Int) a)) (k + 1) (vI (th ((y.toNat : Nat) : Int) a)) c_7 sc_7 (by omega) (by omega) (by omega) (by omega) (by omega)

theorem qn_X2_goRound {m s : Nat} {F : aq_F} {c : aq_C} {S : Nat → Prop} {o n z : Nat} {tl : Int → Int} {th : Int → Int → Int} (hH : hv_0 m F o n z tl th) (hSs : S (o + 17)) (hSt : ∀ j, j < 6 → S (o + 3 + j)) {x y : Int} (hx0 : 0 ≤ x) (hx6 : x < 6) (hy0 : 0 ≤ y) (hy6 : y < 6) {p : Int} (hp0 : 0 ≤ p) (hpn : p < (n : Int)) : am_E ac_X2_goRound (0, [vR o, vR (o + 10 + x.toNat), vR (o + 10 + y.toNat), vI p, vU, vU, vU], [], aq_h m s F c) (aq_Z m s F S c (fun r _ => r = none)) := by
  obtain ⟨hm, hn1, hn4, hz6, hFo, hFl, hFg, hFt, hFp, hFq, hFd, hFs, hht⟩ := hH
  refine am_E.go (t2 := (1, [vR o, vR (o + 10 + x.toNat), vR (o + 10 + y.toNat), vI p, vU, vU, vU], [vI p], aq_h m s F c)) rfl rfl ?_
  refine am_E.go (t2 := (3, [vR o, vR (o + 10 + x.toNat), vR (o + 10 + y.toNat), vI p, vI p, vU, vU], [], aq_h m s F c)) rfl rfl ?_
  refine am_E.go (t2 := (4, [vR o, vR (o + 10 + x.toNat), vR (o + 10 + y.toNat), vI p, vI p, vU, vU], [vI 0], aq_h m s F c)) rfl rfl ?_
  refine am_E.go (t2 := (6, [vR o, vR (o + 10 + x.toNat), vR (o + 10 + y.toNat), vI p, vI p, vI 0, vU], [], aq_h m s F c)) rfl rfl ?_
  exact qn_goRound_l ⟨hm, hn1, hn4, hz6, hFo, hFl, hFg, hFt, hFp, hFq, hFd, hFs, hht⟩ hSs hSt hx0 hx6 hy0 hy6 7 p 0 (vU) c aq_sm0 (by omega) (by omega) (by omega) (by omega) (by omega)

theorem qn_lay_3 {m s : Nat} {F : aq_F} {c0 : aq_C} {S : Nat → Prop} {o n z : Nat} {tl : Int → Int} {th : Int → Int → Int} (hH : hv_0 m F o n z tl th) (hSs : S (o + 17)) (hSt : ∀ j, j < 6 → S (o + 3 + j)) {x y : Int} (hx0 : 0 ≤ x) (hx6 : x < 6) (hy0 : 0 ≤ y) (hy6 : y < 6) : ∀ (d : Nat) (f : Int) (p : Int) (c : aq_C) (hs : aq_sm S c0 c) (h0 : 0 ≤ p) (h1 : p ≤ (n : Int)) (h2 : 0 ≤ f) (h3 : f ≤ p) (hd : (n : Int) - p < (d : Int)), am_E ac_X2_lay (82, [vR o, vI x, vI y, vI f, vI p], [], aq_h m s F c) (aq_Z m s F S c0 (fun r _ => ∃ v, r = some (vI v) ∧ (-4 ≤ v ∧ v ≤ 4)))
  | 0, f, p, c, hs, h0, h1, h2, h3, hd => by exfalso; omega
  | d + 1, f, p, c, hs, h0, h1, h2, h3, hd => by
    obtain ⟨hm, hn1, hn4, hz6, hFo, hFl, hFg, hFt, hFp, hFq, hFd, hFs, hht⟩ := hH
    refine am_E.go (t2 := (84, [vR o, vI x, vI y, vI f, vI p], [vI p], aq_h m s F c)) rfl rfl ?_
    refine am_E.go (t2 := (85, [vR o, vI x, vI y, vI f, vI p], [vR o, vI p], aq_h m s F c)) rfl rfl ?_
    refine aq_gf (v := vI (n : Int)) rfl (by omega) hFo (by decide) rfl ?_
    show am_E _ (88, [vR o, vI x, vI y, vI f, vI p], [vI (n : Int), vI p], aq_h m s F c) _
    refine ae_icmp rfl (fun (q_1 : (n : Int) ≤ p) => ?_) (fun (q_1 : p < (n : Int)) => ?_)
    · refine am_E.go (t2 := (129, [vR o, vI x, vI y, vI f, vI p], [vI f], aq_h m s F c)) rfl rfl ?_
      refine am_E.ret rfl rfl ?_
      exact ⟨_, rfl, hs, _, rfl, by omega⟩
    · refine am_E.go (t2 := (92, [vR o, vI x, vI y, vI f, vI p], [vR o], aq_h m s F c)) rfl rfl ?_
      refine aq_gf (v := vR (o + 17)) rfl (by omega) hFo (by decide) rfl ?_
      show am_E _ (95, [vR o, vI x, vI y, vI f, vI p], [vR (o + 17)], aq_h m s F c) _
      refine am_E.go (t2 := (97, [vR o, vI x, vI y, vI f, vI p], [vI p, vR (o + 17)], aq_h m s F c)) rfl rfl ?_
      refine aq_al (ok := fun k => k == 1) (v := vI (c (o + 17) p)) rfl rfl (by omega) hFs rfl (by omega) (by omega) rfl ?_
      show am_E _ (98, [vR o, vI x, vI y, vI f, vI p], [vI (c (o + 17) p)], aq_h m s F c) _
      refine ae_if0 rfl (fun (q_2 : (c (o + 17) p) ≠ 0) => ?_) (fun (q_2 : (c (o + 17) p) = 0) => ?_)
      · refine ae_iinc rfl rfl (am_ri (by omega) (by omega)) ?_
        show am_E _ (125, [vR o, vI x, vI y, vI f, vI (p + 1)], [], aq_h m s F c) _
        refine am_E.go (t2 := (82, [vR o, vI x, vI y, vI f, vI (p + 1)], [], aq_h m s F c)) rfl rfl ?_
        exact qn_lay_3 ⟨hm, hn1, hn4, hz6, hFo, hFl, hFg, hFt, hFp, hFq, hFd, hFs, hht⟩ hSs hSt hx0 hx6 hy0 hy6 d f (p + 1) c hs (by omega) (by omega) (by omega) (by omega) (by omega)
      · refine ae_iinc rfl rfl (am_ri (by omega) (by omega)) ?_
        show am_E _ (104, [vR o, vI x, vI y, vI (f + 1), vI p], [], aq_h m s F c) _
        refine am_E.go (t2 := (105, [vR o, vI x, vI y, vI (f + 1), vI p], [vR o], aq_h m s F c)) rfl rfl ?_
        refine am_E.go (t2 := (106, [vR o, vI x, vI y, vI (f + 1), vI p], [vR o, vR o], aq_h m s F c)) rfl rfl ?_
        refine aq_gf (v := vR (o + 9)) rfl (by omega) hFo (by decide) rfl ?_
        show am_E _ (109, [vR o, vI x, vI y, vI (f + 1), vI p], [vR (o + 9), vR o], aq_h m s F c) _
        refine am_E.go (t2 := (110, [vR o, vI x, vI y, vI (f + 1), vI p], [vI x, vR (o + 9), vR o], aq_h m s F c)) rfl rfl ?_
        refine aq_al (ok := fun k => decide (3 ≤ k) && decide (k < 7)) (v := vR (o + 10 + x.toNat)) rfl rfl (by omega) hFp rfl (by omega) (by omega) (aq_gi (by omega)) ?_
        show am_E _ (111, [vR o, vI x, vI y, vI (f + 1), vI p], [vR (o + 10 + x.toNat), vR o], aq_h m s F c) _
        refine am_E.go (t2 := (112, [vR o, vI x, vI y, vI (f + 1), vI p], [vR o, vR (o + 10 + x.toNat), vR o], aq_h m s F c)) rfl rfl ?_
        refine aq_gf (v := vR (o + 9)) rfl (by omega) hFo (by decide) rfl ?_
        show am_E _ (115, [vR o, vI x, vI y, vI (f + 1), vI p], [vR (o + 9), vR (o + 10 + x.toNat), vR o], aq_h m s F c) _
        refine am_E.go (t2 := (116, [vR o, vI x, vI y, vI (f + 1), vI p], [vI y, vR (o + 9), vR (o + 10 + x.toNat), vR o], aq_h m s F c)) rfl rfl ?_
        refine aq_al (ok := fun k => decide (3 ≤ k) && decide (k < 7)) (v := vR (o + 10 + y.toNat)) rfl rfl (by omega) hFp rfl (by omega) (by omega) (aq_gi (by omega)) ?_
        show am_E _ (117, [vR o, vI x, vI y, vI (f + 1), vI p], [vR (o + 10 + y.toNat), vR (o + 10 + x.toNat), vR o], aq_h m s F c) _
        refine am_E.go (t2 := (119, [vR o, vI x, vI y, vI (f + 1), vI p], [vI p, vR (o + 10 + y.toNat), vR (o + 10 + x.toNat), vR o], aq_h m s F c)) rfl rfl ?_
        refine aq_callv (y := 4) (as2 := [vR (o + 10 + x.toNat), vR (o + 10 + y.toNat), vI p]) (rest := []) rfl rfl (by decide) (Nat.le_of_ble_eq_true rfl) rfl rfl (Nat.le_of_ble_eq_true rfl) (by omega) hFo rfl (Nat.le_of_ble_eq_true rfl) (qn_X2_goRound ⟨hm, hn1, hn4, hz6, hFo, hFl, hFg, hFt, hFp, hFq, hFd, hFs, hht⟩ hSs hSt (x := x) (y := y) (by omega) (by omega) (by omega) (by omega) (by omega) (by omega)) ?_
        rintro r5 h5 ⟨c_3, rfl, sc_3, rfl⟩
        show am_E _ (122, [vR o, vI x, vI y, vI (f + 1), vI p], [], aq_h m s F c_3) _
        refine ae_iinc rfl rfl (am_ri (by omega) (by omega)) ?_
        show am_E _ (125, [vR o, vI x, vI y, vI (f + 1), vI (p + 1)], [], aq_h m s F c_3) _
        refine am_E.go (t2 := (82, [vR o, vI x, vI y, vI (f + 1), vI (p + 1)], [], aq_h m s F c_3)) rfl rfl ?_
        exact qn_lay_3 ⟨hm, hn1, hn4, hz6, hFo, hFl, hFg, hFt, hFp, hFq, hFd, hFs, hht⟩ hSs hSt hx0 hx6 hy0 hy6 d (f + 1) (p + 1) c_3 (aq_smt hs sc_3) (by omega) (by omega) (by omega) (by omega) (by omega)

theorem qn_lay_2 {m s : Nat} {F : aq_F} {c0 : aq_C} {S : Nat → Prop} {o n z : Nat} {tl : Int → Int} {th : Int → Int → Int} (hH : hv_0 m F o n z tl th) (hSs : S (o + 17)) (hSt : ∀ j, j < 6 → S (o + 3 + j)) {x y : Int} (hx0 : 0 ≤ x) (hx6 : x < 6) (hy0 : 0 ≤ y) (hy6 : y < 6) : ∀ (d : Nat) (p : Int) (v4 : am_V) (c : aq_C) (hs : aq_sm S c0 c) (h0 : 0 ≤ p) (h1 : p ≤ (n : Int)) (hd : (n : Int) - p < (d : Int)), am_E ac_X2_lay (25, [vR o, vI x, vI y, vI p, v4], [], aq_h m s F c) (aq_Z m s F S c0 (fun r _ => ∃ v, r = some (vI v) ∧ (-4 ≤ v ∧ v ≤ 4)))
  | 0, p, v4, c, hs, h0, h1, hd => by exfalso; omega
  | d + 1, p, v4, c, hs, h0, h1, hd => by
    obtain ⟨hm, hn1, hn4, hz6, hFo, hFl, hFg, hFt, hFp, hFq, hFd, hFs, hht⟩ := hH
    refine am_E.go (t2 := (26, [vR o, vI x, vI y, vI p, v4], [vI p], aq_h m s F c)) rfl rfl ?_
    refine am_E.go (t2 := (27, [vR o, vI x, vI y, vI p, v4], [vR o, vI p], aq_h m s F c)) rfl rfl ?_
    refine aq_gf (v := vI (n : Int)) rfl (by omega) hFo (by decide) rfl ?_
    show am_E _ (30, [vR o, vI x, vI y, vI p, v4], [vI (n : Int), vI p], aq_h m s F c) _
    refine ae_icmp rfl (fun (q_1 : (n : Int) ≤ p) => ?_) (fun (q_1 : p < (n : Int)) => ?_)
    · refine am_E.go (t2 := (78, [vR o, vI x, vI y, vI p, v4], [vI 0], aq_h m s F c)) rfl rfl ?_
      refine am_E.go (t2 := (79, [vR o, vI x, vI y, vI 0, v4], [], aq_h m s F c)) rfl rfl ?_
      refine am_E.go (t2 := (80, [vR o, vI x, vI y, vI 0, v4], [vI 0], aq_h m s F c)) rfl rfl ?_
      refine am_E.go (t2 := (82, [vR o, vI x, vI y, vI 0, vI 0], [], aq_h m s F c)) rfl rfl ?_
      exact qn_lay_3 ⟨hm, hn1, hn4, hz6, hFo, hFl, hFg, hFt, hFp, hFq, hFd, hFs, hht⟩ hSs hSt hx0 hx6 hy0 hy6 7 0 0 c hs (by omega) (by omega) (by omega) (by omega) (by omega)
    · refine am_E.go (t2 := (34, [vR o, vI x, vI y, vI p, v4], [vR o], aq_h m s F c)) rfl rfl ?_
      refine aq_gf (v := vR (o + 9)) rfl (by omega) hFo (by decide) rfl ?_
      show am_E _ (37, [vR o, vI x, vI y, vI p, v4], [vR (o + 9)], aq_h m s F c) _
      refine am_E.go (t2 := (38, [vR o, vI x, vI y, vI p, v4], [vI x, vR (o + 9)], aq_h m s F c)) rfl rfl ?_
      refine aq_al (ok := fun k => decide (3 ≤ k) && decide (k < 7)) (v := vR (o + 10 + x.toNat)) rfl rfl (by omega) hFp rfl (by omega) (by omega) (aq_gi (by omega)) ?_
      show am_E _ (39, [vR o, vI x, vI y, vI p, v4], [vR (o + 10 + x.toNat)], aq_h m s F c) _
      refine am_E.go (t2 := (40, [vR o, vI x, vI y, vI p, v4], [vI p, vR (o + 10 + x.toNat)], aq_h m s F c)) rfl rfl ?_
      refine aq_alt (ok := fun k => k == 0) rfl rfl (by omega) (hFq _ (by omega)) rfl (by omega) (by omega) ?_
      show am_E _ (41, [vR o, vI x, vI y, vI p, v4], [vI (th ((x.toNat : Nat) : Int) p)], aq_h m s F c) _
      have f_2 := hht ((x.toNat : Nat) : Int) p (by omega) (by omega) (by omega) (by omega)
      refine am_E.go (t2 := (42, [vR o, vI x, vI y, vI p, v4], [vR o, vI (th ((x.toNat : Nat) : Int) p)], aq_h m s F c)) rfl rfl ?_
      refine aq_gf (v := vI (n : Int)) rfl (by omega) hFo (by decide) rfl ?_
      show am_E _ (45, [vR o, vI x, vI y, vI p, v4], [vI (n : Int), vI (th ((x.toNat : Nat) : Int) p)], aq_h m s F c) _
      refine ae_icmp rfl (fun (q_3 : (th ((x.toNat : Nat) : Int) p) ≠ (n : Int)) => ?_) (fun (q_3 : (th ((x.toNat : Nat) : Int) p) = (n : Int)) => ?_)
      · refine ae_iinc rfl rfl (am_ri (by omega) (by omega)) ?_
        show am_E _ (74, [vR o, vI x, vI y, vI (p + 1), v4], [], aq_h m s F c) _
        refine am_E.go (t2 := (25, [vR o, vI x, vI y, vI (p + 1), v4], [], aq_h m s F c)) rfl rfl ?_
        exact qn_lay_2 ⟨hm, hn1, hn4, hz6, hFo, hFl, hFg, hFt, hFp, hFq, hFd, hFs, hht⟩ hSs hSt hx0 hx6 hy0 hy6 d (p + 1) (v4) c hs (by omega) (by omega) (by omega)
      · refine am_E.go (t2 := (49, [vR o, vI x, vI y, vI p, v4], [vR o], aq_h m s F c)) rfl rfl ?_
        refine am_E.go (t2 := (50, [vR o, vI x, vI y, vI p, v4], [vR o, vR o], aq_h m s F c)) rfl rfl ?_
        refine aq_gf (v := vR (o + 9)) rfl (by omega) hFo (by decide) rfl ?_
        show am_E _ (53, [vR o, vI x, vI y, vI p, v4], [vR (o + 9), vR o], aq_h m s F c) _
        refine am_E.go (t2 := (54, [vR o, vI x, vI y, vI p, v4], [vI x, vR (o + 9), vR o], aq_h m s F c)) rfl rfl ?_
        refine aq_al (ok := fun k => decide (3 ≤ k) && decide (k < 7)) (v := vR (o + 10 + x.toNat)) rfl rfl (by omega) hFp rfl (by omega) (by omega) (aq_gi (by omega)) ?_
        show am_E _ (55, [vR o, vI x, vI y, vI p, v4], [vR (o + 10 + x.toNat), vR o], aq_h m s F c) _
        refine am_E.go (t2 := (56, [vR o, vI x, vI y, vI p, v4], [vR o, vR (o + 10 + x.toNat), vR o], aq_h m s F c)) rfl rfl ?_
        refine aq_gf (v := vR (o + 9)) rfl (by omega) hFo (by decide) rfl ?_
        show am_E _ (59, [vR o, vI x, vI y, vI p, v4], [vR (o + 9), vR (o + 10 + x.toNat), vR o], aq_h m s F c) _
        refine am_E.go (t2 := (60, [vR o, vI x, vI y, vI p, v4], [vI y, vR (o + 9), vR (o + 10 + x.toNat), vR o], aq_h m s F c)) rfl rfl ?_
        refine aq_al (ok := fun k => decide (3 ≤ k) && decide (k < 7)) (v := vR (o + 10 + y.toNat)) rfl rfl (by omega) hFp rfl (by omega) (by omega) (aq_gi (by omega)) ?_
        show am_E _ (61, [vR o, vI x, vI y, vI p, v4], [vR (o + 10 + y.toNat), vR (o + 10 + x.toNat), vR o], aq_h m s F c) _
        refine am_E.go (t2 := (62, [vR o, vI x, vI y, vI p, v4], [vI p, vR (o + 10 + y.toNat), vR (o + 10 + x.toNat), vR o], aq_h m s F c)) rfl rfl ?_
        refine aq_callv (y := 4) (as2 := [vR (o + 10 + x.toNat), vR (o + 10 + y.toNat), vI p]) (rest := []) rfl rfl (by decide) (Nat.le_of_ble_eq_true rfl) rfl rfl (Nat.le_of_ble_eq_true rfl) (by omega) hFo rfl (Nat.le_of_ble_eq_true rfl) (qn_X2_leadsOut ⟨hm, hn1, hn4, hz6, hFo, hFl, hFg, hFt, hFp, hFq, hFd, hFs, hht⟩ hSs hSt (x := x) (y := y) (by omega) (by omega) (by omega) (by omega) (by omega) (by omega)) ?_
        rintro r5 h5 ⟨c_4, rfl, sc_4, v_5, rfl, hv_5⟩
        show am_E _ (65, [vR o, vI x, vI y, vI p, v4], [vI v_5], aq_h m s F c_4) _
        refine ae_if0 rfl (fun (q_6 : v_5 ≠ 0) => ?_) (fun (q_6 : v_5 = 0) => ?_)
        · refine ae_iinc rfl rfl (am_ri (by omega) (by omega)) ?_
          show am_E _ (74, [vR o, vI x, vI y, vI (p + 1), v4], [], aq_h m s F c_4) _
          refine am_E.go (t2 := (25, [vR o, vI x, vI y, vI (p + 1), v4], [], aq_h m s F c_4)) rfl rfl ?_
          exact qn_lay_2 ⟨hm, hn1, hn4, hz6, hFo, hFl, hFg, hFt, hFp, hFq, hFd, hFs, hht⟩ hSs hSt hx0 hx6 hy0 hy6 d (p + 1) (v4) c_4 (aq_smt hs sc_4) (by omega) (by omega) (by omega)
        · refine am_E.go (t2 := (70, [vR o, vI x, vI y, vI p, v4], [vI (-4)], aq_h m s F c_4)) rfl rfl ?_
          refine am_E.ret rfl rfl ?_
          exact ⟨_, rfl, (aq_smt hs sc_4), _, rfl, by omega⟩

theorem qn_lay_1 {m s : Nat} {F : aq_F} {c0 : aq_C} {S : Nat → Prop} {o n z : Nat} {tl : Int → Int} {th : Int → Int → Int} (hH : hv_0 m F o n z tl th) (hSs : S (o + 17)) (hSt : ∀ j, j < 6 → S (o + 3 + j)) {x y : Int} (hx0 : 0 ≤ x) (hx6 : x < 6) (hy0 : 0 ≤ y) (hy6 : y < 6) : ∀ (d : Nat) (p : Int) (v4 : am_V) (c : aq_C) (hs : aq_sm S c0 c) (h0 : 0 ≤ p) (h1 : p ≤ (n : Int)) (hd : (n : Int) - p < (d : Int)), am_E ac_X2_lay (2, [vR o, vI x, vI y, vI p, v4], [], aq_h m s F c) (aq_Z m s F S c0 (fun r _ => ∃ v, r = some (vI v) ∧ (-4 ≤ v ∧ v ≤ 4)))
  | 0, p, v4, c, hs, h0, h1, hd => by exfalso; omega
  | d + 1, p, v4, c, hs, h0, h1, hd => by
    obtain ⟨hm, hn1, hn4, hz6, hFo, hFl, hFg, hFt, hFp, hFq, hFd, hFs, hht⟩ := hH
    refine am_E.go (t2 := (3, [vR o, vI x, vI y, vI p, v4], [vI p], aq_h m s F c)) rfl rfl ?_
    refine am_E.go (t2 := (4, [vR o, vI x, vI y, vI p, v4], [vR o, vI p], aq_h m s F c)) rfl rfl ?_
    refine aq_gf (v := vI (n : Int)) rfl (by omega) hFo (by decide) rfl ?_
    show am_E _ (7, [vR o, vI x, vI y, vI p, v4], [vI (n : Int), vI p], aq_h m s F c) _
    refine ae_icmp rfl (fun (q_1 : (n : Int) ≤ p) => ?_) (fun (q_1 : p < (n : Int)) => ?_)
    · refine am_E.go (t2 := (24, [vR o, vI x, vI y, vI p, v4], [vI 0], aq_h m s F c)) rfl rfl ?_
      refine am_E.go (t2 := (25, [vR o, vI x, vI y, vI 0, v4], [], aq_h m s F c)) rfl rfl ?_
      exact qn_lay_2 ⟨hm, hn1, hn4, hz6, hFo, hFl, hFg, hFt, hFp, hFq, hFd, hFs, hht⟩ hSs hSt hx0 hx6 hy0 hy6 7 0 (v4) c hs (by omega) (by omega) (by omega)
    · refine am_E.go (t2 := (11, [vR o, vI x, vI y, vI p, v4], [vR o], aq_h m s F c)) rfl rfl ?_
      refine aq_gf (v := vR (o + 17)) rfl (by omega) hFo (by decide) rfl ?_
      show am_E _ (14, [vR o, vI x, vI y, vI p, v4], [vR (o + 17)], aq_h m s F c) _
      refine am_E.go (t2 := (15, [vR o, vI x, vI y, vI p, v4], [vI p, vR (o + 17)], aq_h m s F c)) rfl rfl ?_
      refine am_E.go (t2 := (16, [vR o, vI x, vI y, vI p, v4], [vI 0, vI p, vR (o + 17)], aq_h m s F c)) rfl rfl ?_
      refine aq_as (kd := 1) rfl rfl (by omega) hFs (by omega) (by omega) rfl rfl ?_
      show am_E _ (17, [vR o, vI x, vI y, vI p, v4], [], aq_h m s F (aq_u c (o + 17) p 0)) _
      generalize hdc_2 : aq_u c (o + 17) p 0 = c_2
      have sc_2 := aq_smu hs hdc_2 hSs
      refine ae_iinc rfl rfl (am_ri (by omega) (by omega)) ?_
      show am_E _ (20, [vR o, vI x, vI y, vI (p + 1), v4], [], aq_h m s F c_2) _
      refine am_E.go (t2 := (2, [vR o, vI x, vI y, vI (p + 1), v4], [], aq_h m s F c_2)) rfl rfl ?_
      exact qn_lay_1 ⟨hm, hn1, hn4, hz6, hFo, hFl, hFg, hFt, hFp, hFq, hFd, hFs, hht⟩ hSs hSt hx0 hx6 hy0 hy6 d (p + 1) (v4) c_2 sc_2 (by omega) (by omega) (by omega)

theorem qn_X2_lay {m s : Nat} {F : aq_F} {c : aq_C} {S : Nat → Prop} {o n z : Nat} {tl : Int → Int} {th : Int → Int → Int} (hH : hv_0 m F o n z tl th) (hSs : S (o + 17)) (hSt : ∀ j, j < 6 → S (o + 3 + j)) {x y : Int} (hx0 : 0 ≤ x) (hx6 : x < 6) (hy0 : 0 ≤ y) (hy6 : y < 6) : am_E ac_X2_lay (0, [vR o, vI x, vI y, vU, vU], [], aq_h m s F c) (aq_Z m s F S c (fun r _ => ∃ v, r = some (vI v) ∧ (-4 ≤ v ∧ v ≤ 4))) := by
  obtain ⟨hm, hn1, hn4, hz6, hFo, hFl, hFg, hFt, hFp, hFq, hFd, hFs, hht⟩ := hH
  refine am_E.go (t2 := (1, [vR o, vI x, vI y, vU, vU], [vI 0], aq_h m s F c)) rfl rfl ?_
  refine am_E.go (t2 := (2, [vR o, vI x, vI y, vI 0, vU], [], aq_h m s F c)) rfl rfl ?_
  exact qn_lay_1 ⟨hm, hn1, hn4, hz6, hFo, hFl, hFg, hFt, hFp, hFq, hFd, hFs, hht⟩ hSs hSt hx0 hx6 hy0 hy6 7 0 (vU) c aq_sm0 (by omega) (by omega) (by omega)

theorem qn_raise_l {m s : Nat} {F : aq_F} {c : aq_C} {v e p : Int} (hp : p ≠ 0) (he : e ≤ 4) : ∀ (d : Nat) (x : Int) (i : Int) (h0 : 0 ≤ i) (h1 : i ≤ 4) (hd : max 0 (e - i) < (d : Int)), am_E ac_X2_raise (7, [vI v, vI e, vI p, vI x, vI i], [], aq_h m s F c) (aq_P m s F c aq_vi)
  | 0, x, i, h0, h1, hd => by exfalso; omega
  | d + 1, x, i, h0, h1, hd => by
    refine am_E.go (t2 := (9, [vI v, vI e, vI p, vI x, vI i], [vI i], aq_h m s F c)) rfl rfl ?_
    refine am_E.go (t2 := (10, [vI v, vI e, vI p, vI x, vI i], [vI e, vI i], aq_h m s F c)) rfl rfl ?_
    refine ae_icmp rfl (fun (q_1 : e ≤ i) => ?_) (fun (q_1 : i < e) => ?_)
    · refine am_E.go (t2 := (26, [vI v, vI e, vI p, vI x, vI i], [vI x], aq_h m s F c)) rfl rfl ?_
      refine am_E.ret rfl rfl ?_
      exact ⟨rfl, _, rfl⟩
    · refine am_E.go (t2 := (14, [vI v, vI e, vI p, vI x, vI i], [vI x], aq_h m s F c)) rfl rfl ?_
      refine am_E.go (t2 := (15, [vI v, vI e, vI p, vI x, vI i], [vI v, vI x], aq_h m s F c)) rfl rfl ?_
      refine am_E.go (t2 := (16, [vI v, vI e, vI p, vI x, vI i], [vI (am_w (x * v))], aq_h m s F c)) rfl rfl ?_
      refine am_E.go (t2 := (17, [vI v, vI e, vI p, vI x, vI i], [vI p, vI (am_w (x * v))], aq_h m s F c)) rfl rfl ?_
      refine ae_bin (z := (am_w (x * v)).tmod p) rfl rfl (am_rem_s hp) ?_
      show am_E _ (18, [vI v, vI e, vI p, vI x, vI i], [vI ((am_w (x * v)).tmod p)], aq_h m s F c) _
      refine am_E.go (t2 := (19, [vI v, vI e, vI p, vI ((am_w (x * v)).tmod p), vI i], [], aq_h m s F c)) rfl rfl ?_
      refine ae_iinc rfl rfl (am_ri (by omega) (by omega)) ?_
      show am_E _ (22, [vI v, vI e, vI p, vI ((am_w (x * v)).tmod p), vI (i + 1)], [], aq_h m s F c) _
      refine am_E.go (t2 := (7, [vI v, vI e, vI p, vI ((am_w (x * v)).tmod p), vI (i + 1)], [], aq_h m s F c)) rfl rfl ?_
      exact qn_raise_l hp he d ((am_w (x * v)).tmod p) (i + 1) (by omega) (by omega) (by omega)

theorem qn_X2_raise {m s : Nat} {F : aq_F} {c : aq_C} {v e p : Int} (hp : p ≠ 0) (he : e ≤ 4) : am_E ac_X2_raise (0, [vI v, vI e, vI p, vU, vU], [], aq_h m s F c) (aq_P m s F c aq_vi) := by
  refine am_E.go (t2 := (1, [vI v, vI e, vI p, vU, vU], [vI 1], aq_h m s F c)) rfl rfl ?_
  refine am_E.go (t2 := (2, [vI v, vI e, vI p, vU, vU], [vI p, vI 1], aq_h m s F c)) rfl rfl ?_
  refine ae_bin (z := (1 : Int).tmod p) rfl rfl (am_rem_s hp) ?_
  show am_E _ (3, [vI v, vI e, vI p, vU, vU], [vI ((1 : Int).tmod p)], aq_h m s F c) _
  refine am_E.go (t2 := (4, [vI v, vI e, vI p, vI ((1 : Int).tmod p), vU], [], aq_h m s F c)) rfl rfl ?_
  refine am_E.go (t2 := (5, [vI v, vI e, vI p, vI ((1 : Int).tmod p), vU], [vI 0], aq_h m s F c)) rfl rfl ?_
  refine am_E.go (t2 := (7, [vI v, vI e, vI p, vI ((1 : Int).tmod p), vI 0], [], aq_h m s F c)) rfl rfl ?_
  exact qn_raise_l hp he 6 ((1 : Int).tmod p) 0 (by omega) (by omega) (by omega)

theorem qn_fillRow_l {m s : Nat} {F : aq_F} {c0 : aq_C} {S : Nat → Prop} {o n z : Nat} {tl : Int → Int} {th : Int → Int → Int} (hH : hv_0 m F o n z tl th) (hSs : S (o + 17)) (hSt : ∀ j, j < 6 → S (o + 3 + j)) {k x v p : Int} (hk0 : 0 ≤ k) (hk6 : k < 6) (hx0 : 0 ≤ x) (hxz : x < (z : Int)) (hp : p ≠ 0) : ∀ (d : Nat) (q : Int) (y : Int) (v7 : am_V) (c : aq_C) (hs : aq_sm S c0 c) (h0 : 0 ≤ q) (h1 : q ≤ y) (h2 : y ≤ (z : Int)) (hd : (z : Int) - y < (d : Int)), am_E ac_X2_fillRow (6, [vR o, vR (o + 3 + k.toNat), vI x, vI v, vI p, vI q, vI y, v7], [], aq_h m s F c) (aq_Z m s F S c0 (fun r _ => r = none))
  | 0, q, y, v7, c, hs, h0, h1, h2, hd => by exfalso; omega
  | d + 1, q, y, v7, c, hs, h0, h1, h2, hd => by
    obtain ⟨hm, hn1, hn4, hz6, hFo, hFl, hFg, hFt, hFp, hFq, hFd, hFs, hht⟩ := hH
    refine am_E.go (t2 := (8, [vR o, vR (o + 3 + k.toNat), vI x, vI v, vI p, vI q, vI y, v7], [vI y], aq_h m s F c)) rfl rfl ?_
    refine am_E.go (t2 := (9, [vR o, vR (o + 3 + k.toNat), vI x, vI v, vI p, vI q, vI y, v7], [vR o, vI y], aq_h m s F c)) rfl rfl ?_
    refine aq_gf (v := vI (z : Int)) rfl (by omega) hFo (by decide) rfl ?_
    show am_E _ (12, [vR o, vR (o + 3 + k.toNat), vI x, vI v, vI p, vI q, vI y, v7], [vI (z : Int), vI y], aq_h m s F c) _
    refine ae_icmp rfl (fun (q_1 : (z : Int) ≤ y) => ?_) (fun (q_1 : y < (z : Int)) => ?_)
    · refine am_E.ret rfl rfl ?_
      exact ⟨_, rfl, hs, rfl⟩
    · refine am_E.go (t2 := (16, [vR o, vR (o + 3 + k.toNat), vI x, vI v, vI p, vI q, vI y, v7], [vR o], aq_h m s F c)) rfl rfl ?_
      refine aq_gf (v := vR (o + 1)) rfl (by omega) hFo (by decide) rfl ?_
      show am_E _ (19, [vR o, vR (o + 3 + k.toNat), vI x, vI v, vI p, vI q, vI y, v7], [vR (o + 1)], aq_h m s F c) _
      refine am_E.go (t2 := (21, [vR o, vR (o + 3 + k.toNat), vI x, vI v, vI p, vI q, vI y, v7], [vI y, vR (o + 1)], aq_h m s F c)) rfl rfl ?_
      refine aq_alt (ok := fun k => k == 0) rfl rfl (by omega) hFl rfl (by omega) (by omega) ?_
      show am_E _ (22, [vR o, vR (o + 3 + k.toNat), vI x, vI v, vI p, vI q, vI y, v7], [vI (tl y)], aq_h m s F c) _
      refine am_E.go (t2 := (23, [vR o, vR (o + 3 + k.toNat), vI x, vI v, vI p, vI q, vI y, v7], [vR o, vI (tl y)], aq_h m s F c)) rfl rfl ?_
      refine aq_gf (v := vR (o + 1)) rfl (by omega) hFo (by decide) rfl ?_
      show am_E _ (26, [vR o, vR (o + 3 + k.toNat), vI x, vI v, vI p, vI q, vI y, v7], [vR (o + 1), vI (tl y)], aq_h m s F c) _
      refine am_E.go (t2 := (27, [vR o, vR (o + 3 + k.toNat), vI x, vI v, vI p, vI q, vI y, v7], [vI x, vR (o + 1), vI (tl y)], aq_h m s F c)) rfl rfl ?_
      refine aq_alt (ok := fun k => k == 0) rfl rfl (by omega) hFl rfl (by omega) (by omega) ?_
      show am_E _ (28, [vR o, vR (o + 3 + k.toNat), vI x, vI v, vI p, vI q, vI y, v7], [vI (tl x), vI (tl y)], aq_h m s F c) _
      refine ae_icmp rfl (fun (q_2 : (tl y) ≠ (tl x)) => ?_) (fun (q_2 : (tl y) = (tl x)) => ?_)
      · refine ae_iinc rfl rfl (am_ri (by omega) (by omega)) ?_
        show am_E _ (69, [vR o, vR (o + 3 + k.toNat), vI x, vI v, vI p, vI q, vI (y + 1), v7], [], aq_h m s F c) _
        refine am_E.go (t2 := (6, [vR o, vR (o + 3 + k.toNat), vI x, vI v, vI p, vI q, vI (y + 1), v7], [], aq_h m s F c)) rfl rfl ?_
        exact qn_fillRow_l ⟨hm, hn1, hn4, hz6, hFo, hFl, hFg, hFt, hFp, hFq, hFd, hFs, hht⟩ hSs hSt hk0 hk6 hx0 hxz hp d q (y + 1) (v7) c hs (by omega) (by omega) (by omega) (by omega)
      · refine am_E.go (t2 := (32, [vR o, vR (o + 3 + k.toNat), vI x, vI v, vI p, vI q, vI y, v7], [vR o], aq_h m s F c)) rfl rfl ?_
        refine am_E.go (t2 := (33, [vR o, vR (o + 3 + k.toNat), vI x, vI v, vI p, vI q, vI y, v7], [vI x, vR o], aq_h m s F c)) rfl rfl ?_
        refine am_E.go (t2 := (35, [vR o, vR (o + 3 + k.toNat), vI x, vI v, vI p, vI q, vI y, v7], [vI y, vI x, vR o], aq_h m s F c)) rfl rfl ?_
        refine aq_callv (y := 3) (as2 := [vI x, vI y]) (rest := []) rfl rfl (by decide) (Nat.le_of_ble_eq_true rfl) rfl rfl (Nat.le_of_ble_eq_true rfl) (by omega) hFo rfl (Nat.le_of_ble_eq_true rfl) (qn_X2_lay ⟨hm, hn1, hn4, hz6, hFo, hFl, hFg, hFt, hFp, hFq, hFd, hFs, hht⟩ hSs hSt (by omega) (by omega) (by omega) (by omega)) ?_
        rintro r5 h5 ⟨c_3, rfl, sc_3, v_4, rfl, hv_4⟩
        show am_E _ (38, [vR o, vR (o + 3 + k.toNat), vI x, vI v, vI p, vI q, vI y, v7], [vI v_4], aq_h m s F c_3) _
        refine am_E.go (t2 := (40, [vR o, vR (o + 3 + k.toNat), vI x, vI v, vI p, vI q, vI y, vI v_4], [], aq_h m s F c_3)) rfl rfl ?_
        refine am_E.go (t2 := (41, [vR o, vR (o + 3 + k.toNat), vI x, vI v, vI p, vI q, vI y, vI v_4], [vR (o + 3 + k.toNat)], aq_h m s F c_3)) rfl rfl ?_
        refine am_E.go (t2 := (43, [vR o, vR (o + 3 + k.toNat), vI x, vI v, vI p, vI q, vI y, vI v_4], [vI q, vR (o + 3 + k.toNat)], aq_h m s F c_3)) rfl rfl ?_
        refine am_E.go (t2 := (45, [vR o, vR (o + 3 + k.toNat), vI x, vI v, vI p, vI q, vI y, vI v_4], [vI v_4, vI q, vR (o + 3 + k.toNat)], aq_h m s F c_3)) rfl rfl ?_
        refine am_E.go (t2 := (47, [vR o, vR (o + 3 + k.toNat), vI x, vI v, vI p, vI q, vI y, vI v_4], [vI (-4), vI v_4, vI q, vR (o + 3 + k.toNat)], aq_h m s F c_3)) rfl rfl ?_
        refine ae_icmp rfl (fun (q_5 : v_4 ≠ (-4)) => ?_) (fun (q_5 : v_4 = (-4)) => ?_)
        · refine am_E.go (t2 := (55, [vR o, vR (o + 3 + k.toNat), vI x, vI v, vI p, vI q, vI y, vI v_4], [vI v, vI q, vR (o + 3 + k.toNat)], aq_h m s F c_3)) rfl rfl ?_
          refine am_E.go (t2 := (57, [vR o, vR (o + 3 + k.toNat), vI x, vI v, vI p, vI q, vI y, vI v_4], [vI v_4, vI v, vI q, vR (o + 3 + k.toNat)], aq_h m s F c_3)) rfl rfl ?_
          refine am_E.go (t2 := (59, [vR o, vR (o + 3 + k.toNat), vI x, vI v, vI p, vI q, vI y, vI v_4], [vI p, vI v_4, vI v, vI q, vR (o + 3 + k.toNat)], aq_h m s F c_3)) rfl rfl ?_
          refine am_E.call rfl rfl rfl (Nat.le_of_ble_eq_true rfl) (qn_X2_raise (by omega) (by omega)) ?_
          rintro r5 h5 ⟨rfl, v_6, rfl⟩
          show am_E _ (62, [vR o, vR (o + 3 + k.toNat), vI x, vI v, vI p, vI q, vI y, vI v_4], [vI v_6, vI q, vR (o + 3 + k.toNat)], aq_h m s F c_3) _
          refine aq_as (kd := 0) rfl rfl (by omega) (hFt _ (by omega)) (by omega) (by omega) rfl rfl ?_
          show am_E _ (63, [vR o, vR (o + 3 + k.toNat), vI x, vI v, vI p, vI q, vI y, vI v_4], [], aq_h m s F (aq_u c_3 (o + 3 + k.toNat) q v_6)) _
          generalize hdc_7 : aq_u c_3 (o + 3 + k.toNat) q v_6 = c_7
          have sc_7 := aq_smu (aq_smt hs sc_3) hdc_7 (hSt _ (by omega))
          refine ae_iinc rfl rfl (am_ri (by omega) (by omega)) ?_
          show am_E _ (66, [vR o, vR (o + 3 + k.toNat), vI x, vI v, vI p, vI (q + 1), vI y, vI v_4], [], aq_h m s F c_7) _
          refine ae_iinc rfl rfl (am_ri (by omega) (by omega)) ?_
          show am_E _ (69, [vR o, vR (o + 3 + k.toNat), vI x, vI v, vI p, vI (q + 1), vI (y + 1), vI v_4], [], aq_h m s F c_7) _
          refine am_E.go (t2 := (6, [vR o, vR (o + 3 + k.toNat), vI x, vI v, vI p, vI (q + 1), vI (y + 1), vI v_4], [], aq_h m s F c_7)) rfl rfl ?_
          exact qn_fillRow_l ⟨hm, hn1, hn4, hz6, hFo, hFl, hFg, hFt, hFp, hFq, hFd, hFs, hht⟩ hSs hSt hk0 hk6 hx0 hxz hp d (q + 1) (y + 1) (vI v_4) c_7 sc_7 (by omega) (by omega) (by omega) (by omega)
        · refine am_E.go (t2 := (51, [vR o, vR (o + 3 + k.toNat), vI x, vI v, vI p, vI q, vI y, vI v_4], [vI 0, vI q, vR (o + 3 + k.toNat)], aq_h m s F c_3)) rfl rfl ?_
          refine am_E.go (t2 := (62, [vR o, vR (o + 3 + k.toNat), vI x, vI v, vI p, vI q, vI y, vI v_4], [vI 0, vI q, vR (o + 3 + k.toNat)], aq_h m s F c_3)) rfl rfl ?_
          refine aq_as (kd := 0) rfl rfl (by omega) (hFt _ (by omega)) (by omega) (by omega) rfl rfl ?_
          show am_E _ (63, [vR o, vR (o + 3 + k.toNat), vI x, vI v, vI p, vI q, vI y, vI v_4], [], aq_h m s F (aq_u c_3 (o + 3 + k.toNat) q 0)) _
          generalize hdc_8 : aq_u c_3 (o + 3 + k.toNat) q 0 = c_8
          have sc_8 := aq_smu (aq_smt hs sc_3) hdc_8 (hSt _ (by omega))
          refine ae_iinc rfl rfl (am_ri (by omega) (by omega)) ?_
          show am_E _ (66, [vR o, vR (o + 3 + k.toNat), vI x, vI v, vI p, vI (q + 1), vI y, vI v_4], [], aq_h m s F c_8) _
          refine ae_iinc rfl rfl (am_ri (by omega) (by omega)) ?_
          show am_E _ (69, [vR o, vR (o + 3 + k.toNat), vI x, vI v, vI p, vI (q + 1), vI (y + 1), vI v_4], [], aq_h m s F c_8) _
          refine am_E.go (t2 := (6, [vR o, vR (o + 3 + k.toNat), vI x, vI v, vI p, vI (q + 1), vI (y + 1), vI v_4], [], aq_h m s F c_8)) rfl rfl ?_
          exact qn_fillRow_l ⟨hm, hn1, hn4, hz6, hFo, hFl, hFg, hFt, hFp, hFq, hFd, hFs, hht⟩ hSs hSt hk0 hk6 hx0 hxz hp d (q + 1) (y + 1) (vI v_4) c_8 sc_8 (by omega) (by omega) (by omega) (by omega)

theorem qn_X2_fillRow {m s : Nat} {F : aq_F} {c : aq_C} {S : Nat → Prop} {o n z : Nat} {tl : Int → Int} {th : Int → Int → Int} (hH : hv_0 m F o n z tl th) (hSs : S (o + 17)) (hSt : ∀ j, j < 6 → S (o + 3 + j)) {k x v p : Int} (hk0 : 0 ≤ k) (hk6 : k < 6) (hx0 : 0 ≤ x) (hxz : x < (z : Int)) (hp : p ≠ 0) : am_E ac_X2_fillRow (0, [vR o, vR (o + 3 + k.toNat), vI x, vI v, vI p, vU, vU, vU], [], aq_h m s F c) (aq_Z m s F S c (fun r _ => r = none)) := by
  obtain ⟨hm, hn1, hn4, hz6, hFo, hFl, hFg, hFt, hFp, hFq, hFd, hFs, hht⟩ := hH
  refine am_E.go (t2 := (1, [vR o, vR (o + 3 + k.toNat), vI x, vI v, vI p, vU, vU, vU], [vI 0], aq_h m s F c)) rfl rfl ?_
  refine am_E.go (t2 := (3, [vR o, vR (o + 3 + k.toNat), vI x, vI v, vI p, vI 0, vU, vU], [], aq_h m s F c)) rfl rfl ?_
  refine am_E.go (t2 := (4, [vR o, vR (o + 3 + k.toNat), vI x, vI v, vI p, vI 0, vU, vU], [vI 0], aq_h m s F c)) rfl rfl ?_
  refine am_E.go (t2 := (6, [vR o, vR (o + 3 + k.toNat), vI x, vI v, vI p, vI 0, vI 0, vU], [], aq_h m s F c)) rfl rfl ?_
  exact qn_fillRow_l ⟨hm, hn1, hn4, hz6, hFo, hFl, hFg, hFt, hFp, hFq, hFd, hFs, hht⟩ hSs hSt hk0 hk6 hx0 hxz hp 7 0 0 (vU) c aq_sm0 (by omega) (by omega) (by omega) (by omega)

theorem qn_fillTable_l {m s : Nat} {F : aq_F} {c0 : aq_C} {S : Nat → Prop} {o n z : Nat} {tl : Int → Int} {th : Int → Int → Int} (hH : hv_0 m F o n z tl th) (hSs : S (o + 17)) (hSt : ∀ j, j < 6 → S (o + 3 + j)) {t v p : Int} (hp : p ≠ 0) : ∀ (d : Nat) (r : Int) (x : Int) (c : aq_C) (hs : aq_sm S c0 c) (h0 : 0 ≤ r) (h1 : r ≤ x) (h2 : x ≤ (z : Int)) (hd : (z : Int) - x < (d : Int)), am_E ac_X2_fillTable (6, [vR o, vI t, vI v, vI p, vI r, vI x], [], aq_h m s F c) (aq_Z m s F S c0 (fun r _ => ∃ v, r = some (vI v) ∧ (0 ≤ v ∧ v ≤ (z : Int))))
  | 0, r, x, c, hs, h0, h1, h2, hd => by exfalso; omega
  | d + 1, r, x, c, hs, h0, h1, h2, hd => by
    obtain ⟨hm, hn1, hn4, hz6, hFo, hFl, hFg, hFt, hFp, hFq, hFd, hFs, hht⟩ := hH
    refine am_E.go (t2 := (8, [vR o, vI t, vI v, vI p, vI r, vI x], [vI x], aq_h m s F c)) rfl rfl ?_
    refine am_E.go (t2 := (9, [vR o, vI t, vI v, vI p, vI r, vI x], [vR o, vI x], aq_h m s F c)) rfl rfl ?_
    refine aq_gf (v := vI (z : Int)) rfl (by omega) hFo (by decide) rfl ?_
    show am_E _ (12, [vR o, vI t, vI v, vI p, vI r, vI x], [vI (z : Int), vI x], aq_h m s F c) _
    refine ae_icmp rfl (fun (q_1 : (z : Int) ≤ x) => ?_) (fun (q_1 : x < (z : Int)) => ?_)
    · refine am_E.go (t2 := (52, [vR o, vI t, vI v, vI p, vI r, vI x], [vI r], aq_h m s F c)) rfl rfl ?_
      refine am_E.ret rfl rfl ?_
      exact ⟨_, rfl, hs, _, rfl, by omega⟩
    · refine am_E.go (t2 := (16, [vR o, vI t, vI v, vI p, vI r, vI x], [vR o], aq_h m s F c)) rfl rfl ?_
      refine aq_gf (v := vR (o + 1)) rfl (by omega) hFo (by decide) rfl ?_
      show am_E _ (19, [vR o, vI t, vI v, vI p, vI r, vI x], [vR (o + 1)], aq_h m s F c) _
      refine am_E.go (t2 := (21, [vR o, vI t, vI v, vI p, vI r, vI x], [vI x, vR (o + 1)], aq_h m s F c)) rfl rfl ?_
      refine aq_alt (ok := fun k => k == 0) rfl rfl (by omega) hFl rfl (by omega) (by omega) ?_
      show am_E _ (22, [vR o, vI t, vI v, vI p, vI r, vI x], [vI (tl x)], aq_h m s F c) _
      refine am_E.go (t2 := (23, [vR o, vI t, vI v, vI p, vI r, vI x], [vI t, vI (tl x)], aq_h m s F c)) rfl rfl ?_
      refine ae_icmp rfl (fun (q_2 : (tl x) ≠ t) => ?_) (fun (q_2 : (tl x) = t) => ?_)
      · refine ae_iinc rfl rfl (am_ri (by omega) (by omega)) ?_
        show am_E _ (47, [vR o, vI t, vI v, vI p, vI r, vI (x + 1)], [], aq_h m s F c) _
        refine am_E.go (t2 := (6, [vR o, vI t, vI v, vI p, vI r, vI (x + 1)], [], aq_h m s F c)) rfl rfl ?_
        exact qn_fillTable_l ⟨hm, hn1, hn4, hz6, hFo, hFl, hFg, hFt, hFp, hFq, hFd, hFs, hht⟩ hSs hSt hp d r (x + 1) c hs (by omega) (by omega) (by omega) (by omega)
      · refine am_E.go (t2 := (27, [vR o, vI t, vI v, vI p, vI r, vI x], [vR o], aq_h m s F c)) rfl rfl ?_
        refine am_E.go (t2 := (28, [vR o, vI t, vI v, vI p, vI r, vI x], [vR o, vR o], aq_h m s F c)) rfl rfl ?_
        refine aq_gf (v := vR (o + 2)) rfl (by omega) hFo (by decide) rfl ?_
        show am_E _ (31, [vR o, vI t, vI v, vI p, vI r, vI x], [vR (o + 2), vR o], aq_h m s F c) _
        refine am_E.go (t2 := (33, [vR o, vI t, vI v, vI p, vI r, vI x], [vI r, vR (o + 2), vR o], aq_h m s F c)) rfl rfl ?_
        refine aq_al (ok := fun k => decide (3 ≤ k) && decide (k < 7)) (v := vR (o + 3 + r.toNat)) rfl rfl (by omega) hFg rfl (by omega) (by omega) (aq_gi (by omega)) ?_
        show am_E _ (34, [vR o, vI t, vI v, vI p, vI r, vI x], [vR (o + 3 + r.toNat), vR o], aq_h m s F c) _
        refine am_E.go (t2 := (36, [vR o, vI t, vI v, vI p, vI r, vI x], [vI x, vR (o + 3 + r.toNat), vR o], aq_h m s F c)) rfl rfl ?_
        refine am_E.go (t2 := (37, [vR o, vI t, vI v, vI p, vI r, vI x], [vI v, vI x, vR (o + 3 + r.toNat), vR o], aq_h m s F c)) rfl rfl ?_
        refine am_E.go (t2 := (38, [vR o, vI t, vI v, vI p, vI r, vI x], [vI p, vI v, vI x, vR (o + 3 + r.toNat), vR o], aq_h m s F c)) rfl rfl ?_
        refine aq_callv (y := 5) (as2 := [vR (o + 3 + r.toNat), vI x, vI v, vI p]) (rest := []) rfl rfl (by decide) (Nat.le_of_ble_eq_true rfl) rfl rfl (Nat.le_of_ble_eq_true rfl) (by omega) hFo rfl (Nat.le_of_ble_eq_true rfl) (qn_X2_fillRow ⟨hm, hn1, hn4, hz6, hFo, hFl, hFg, hFt, hFp, hFq, hFd, hFs, hht⟩ hSs hSt (by omega) (by omega) (by omega) (by omega) (by omega)) ?_
        rintro r5 h5 ⟨c_3, rfl, sc_3, rfl⟩
        show am_E _ (41, [vR o, vI t, vI v, vI p, vI r, vI x], [], aq_h m s F c_3) _
        refine ae_iinc rfl rfl (am_ri (by omega) (by omega)) ?_
        show am_E _ (44, [vR o, vI t, vI v, vI p, vI (r + 1), vI x], [], aq_h m s F c_3) _
        refine ae_iinc rfl rfl (am_ri (by omega) (by omega)) ?_
        show am_E _ (47, [vR o, vI t, vI v, vI p, vI (r + 1), vI (x + 1)], [], aq_h m s F c_3) _
        refine am_E.go (t2 := (6, [vR o, vI t, vI v, vI p, vI (r + 1), vI (x + 1)], [], aq_h m s F c_3)) rfl rfl ?_
        exact qn_fillTable_l ⟨hm, hn1, hn4, hz6, hFo, hFl, hFg, hFt, hFp, hFq, hFd, hFs, hht⟩ hSs hSt hp d (r + 1) (x + 1) c_3 (aq_smt hs sc_3) (by omega) (by omega) (by omega) (by omega)

theorem qn_X2_fillTable {m s : Nat} {F : aq_F} {c : aq_C} {S : Nat → Prop} {o n z : Nat} {tl : Int → Int} {th : Int → Int → Int} (hH : hv_0 m F o n z tl th) (hSs : S (o + 17)) (hSt : ∀ j, j < 6 → S (o + 3 + j)) {t v p : Int} (hp : p ≠ 0) : am_E ac_X2_fillTable (0, [vR o, vI t, vI v, vI p, vU, vU], [], aq_h m s F c) (aq_Z m s F S c (fun r _ => ∃ v, r = some (vI v) ∧ (0 ≤ v ∧ v ≤ (z : Int)))) := by
  obtain ⟨hm, hn1, hn4, hz6, hFo, hFl, hFg, hFt, hFp, hFq, hFd, hFs, hht⟩ := hH
  refine am_E.go (t2 := (1, [vR o, vI t, vI v, vI p, vU, vU], [vI 0], aq_h m s F c)) rfl rfl ?_
  refine am_E.go (t2 := (3, [vR o, vI t, vI v, vI p, vI 0, vU], [], aq_h m s F c)) rfl rfl ?_
  refine am_E.go (t2 := (4, [vR o, vI t, vI v, vI p, vI 0, vU], [vI 0], aq_h m s F c)) rfl rfl ?_
  refine am_E.go (t2 := (6, [vR o, vI t, vI v, vI p, vI 0, vI 0], [], aq_h m s F c)) rfl rfl ?_
  exact qn_fillTable_l ⟨hm, hn1, hn4, hz6, hFo, hFl, hFg, hFt, hFp, hFq, hFd, hFs, hht⟩ hSs hSt hp 7 0 0 c aq_sm0 (by omega) (by omega) (by omega) (by omega)

theorem qn_swapRows_l {m s : Nat} {F : aq_F} {c0 : aq_C} {S : Nat → Prop} {o n z : Nat} {tl : Int → Int} {th : Int → Int → Int} (hH : hv_0 m F o n z tl th) (hSs : S (o + 17)) (hSt : ∀ j, j < 6 → S (o + 3 + j)) {i j r : Int} (hi0 : 0 ≤ i) (hi6 : i < 6) (hj0 : 0 ≤ j) (hj6 : j < 6) (hr6 : r ≤ 6) : ∀ (d : Nat) (q : Int) (v5 : am_V) (c : aq_C) (hs : aq_sm S c0 c) (h0 : 0 ≤ q) (h1 : q ≤ 6) (hd : max 0 (r - q) < (d : Int)), am_E ac_X2_swapRows (3, [vR o, vI i, vI j, vI r, vI q, v5], [], aq_h m s F c) (aq_Z m s F S c0 (fun r _ => r = none))
  | 0, q, v5, c, hs, h0, h1, hd => by exfalso; omega
  | d + 1, q, v5, c, hs, h0, h1, hd => by
    obtain ⟨hm, hn1, hn4, hz6, hFo, hFl, hFg, hFt, hFp, hFq, hFd, hFs, hht⟩ := hH
    refine am_E.go (t2 := (5, [vR o, vI i, vI j, vI r, vI q, v5], [vI q], aq_h m s F c)) rfl rfl ?_
    refine am_E.go (t2 := (6, [vR o, vI i, vI j, vI r, vI q, v5], [vI r, vI q], aq_h m s F c)) rfl rfl ?_
    refine ae_icmp rfl (fun (q_1 : r ≤ q) => ?_) (fun (q_1 : q < r) => ?_)
    · refine am_E.ret rfl rfl ?_
      exact ⟨_, rfl, hs, rfl⟩
    · refine am_E.go (t2 := (10, [vR o, vI i, vI j, vI r, vI q, v5], [vR o], aq_h m s F c)) rfl rfl ?_
      refine aq_gf (v := vR (o + 2)) rfl (by omega) hFo (by decide) rfl ?_
      show am_E _ (13, [vR o, vI i, vI j, vI r, vI q, v5], [vR (o + 2)], aq_h m s F c) _
      refine am_E.go (t2 := (14, [vR o, vI i, vI j, vI r, vI q, v5], [vI i, vR (o + 2)], aq_h m s F c)) rfl rfl ?_
      refine aq_al (ok := fun k => decide (3 ≤ k) && decide (k < 7)) (v := vR (o + 3 + i.toNat)) rfl rfl (by omega) hFg rfl (by omega) (by omega) (aq_gi (by omega)) ?_
      show am_E _ (15, [vR o, vI i, vI j, vI r, vI q, v5], [vR (o + 3 + i.toNat)], aq_h m s F c) _
      refine am_E.go (t2 := (17, [vR o, vI i, vI j, vI r, vI q, v5], [vI q, vR (o + 3 + i.toNat)], aq_h m s F c)) rfl rfl ?_
      refine aq_al (ok := fun k => k == 0) (v := vI (c (o + 3 + i.toNat) q)) rfl rfl (by omega) (hFt _ (by omega)) rfl (by omega) (by omega) rfl ?_
      show am_E _ (18, [vR o, vI i, vI j, vI r, vI q, v5], [vI (c (o + 3 + i.toNat) q)], aq_h m s F c) _
      refine am_E.go (t2 := (20, [vR o, vI i, vI j, vI r, vI q, vI (c (o + 3 + i.toNat) q)], [], aq_h m s F c)) rfl rfl ?_
      refine am_E.go (t2 := (21, [vR o, vI i, vI j, vI r, vI q, vI (c (o + 3 + i.toNat) q)], [vR o], aq_h m s F c)) rfl rfl ?_
      refine aq_gf (v := vR (o + 2)) rfl (by omega) hFo (by decide) rfl ?_
      show am_E _ (24, [vR o, vI i, vI j, vI r, vI q, vI (c (o + 3 + i.toNat) q)], [vR (o + 2)], aq_h m s F c) _
      refine am_E.go (t2 := (25, [vR o, vI i, vI j, vI r, vI q, vI (c (o + 3 + i.toNat) q)], [vI i, vR (o + 2)], aq_h m s F c)) rfl rfl ?_
      refine aq_al (ok := fun k => decide (3 ≤ k) && decide (k < 7)) (v := vR (o + 3 + i.toNat)) rfl rfl (by omega) hFg rfl (by omega) (by omega) (aq_gi (by omega)) ?_
      show am_E _ (26, [vR o, vI i, vI j, vI r, vI q, vI (c (o + 3 + i.toNat) q)], [vR (o + 3 + i.toNat)], aq_h m s F c) _
      refine am_E.go (t2 := (28, [vR o, vI i, vI j, vI r, vI q, vI (c (o + 3 + i.toNat) q)], [vI q, vR (o + 3 + i.toNat)], aq_h m s F c)) rfl rfl ?_
      refine am_E.go (t2 := (29, [vR o, vI i, vI j, vI r, vI q, vI (c (o + 3 + i.toNat) q)], [vR o, vI q, vR (o + 3 + i.toNat)], aq_h m s F c)) rfl rfl ?_
      refine aq_gf (v := vR (o + 2)) rfl (by omega) hFo (by decide) rfl ?_
      show am_E _ (32, [vR o, vI i, vI j, vI r, vI q, vI (c (o + 3 + i.toNat) q)], [vR (o + 2), vI q, vR (o + 3 + i.toNat)], aq_h m s F c) _
      refine am_E.go (t2 := (33, [vR o, vI i, vI j, vI r, vI q, vI (c (o + 3 + i.toNat) q)], [vI j, vR (o + 2), vI q, vR (o + 3 + i.toNat)], aq_h m s F c)) rfl rfl ?_
      refine aq_al (ok := fun k => decide (3 ≤ k) && decide (k < 7)) (v := vR (o + 3 + j.toNat)) rfl rfl (by omega) hFg rfl (by omega) (by omega) (aq_gi (by omega)) ?_
      show am_E _ (34, [vR o, vI i, vI j, vI r, vI q, vI (c (o + 3 + i.toNat) q)], [vR (o + 3 + j.toNat), vI q, vR (o + 3 + i.toNat)], aq_h m s F c) _
      refine am_E.go (t2 := (36, [vR o, vI i, vI j, vI r, vI q, vI (c (o + 3 + i.toNat) q)], [vI q, vR (o + 3 + j.toNat), vI q, vR (o + 3 + i.toNat)], aq_h m s F c)) rfl rfl ?_
      refine aq_al (ok := fun k => k == 0) (v := vI (c (o + 3 + j.toNat) q)) rfl rfl (by omega) (hFt _ (by omega)) rfl (by omega) (by omega) rfl ?_
      show am_E _ (37, [vR o, vI i, vI j, vI r, vI q, vI (c (o + 3 + i.toNat) q)], [vI (c (o + 3 + j.toNat) q), vI q, vR (o + 3 + i.toNat)], aq_h m s F c) _
      refine aq_as (kd := 0) rfl rfl (by omega) (hFt _ (by omega)) (by omega) (by omega) rfl rfl ?_
      show am_E _ (38, [vR o, vI i, vI j, vI r, vI q, vI (c (o + 3 + i.toNat) q)], [], aq_h m s F (aq_u c (o + 3 + i.toNat) q (c (o + 3 + j.toNat) q))) _
      generalize hdc_2 : aq_u c (o + 3 + i.toNat) q (c (o + 3 + j.toNat) q) = c_2
      have sc_2 := aq_smu hs hdc_2 (hSt _ (by omega))
      refine am_E.go (t2 := (39, [vR o, vI i, vI j, vI r, vI q, vI (c (o + 3 + i.toNat) q)], [vR o], aq_h m s F c_2)) rfl rfl ?_
      refine aq_gf (v := vR (o + 2)) rfl (by omega) hFo (by decide) rfl ?_
      show am_E _ (42, [vR o, vI i, vI j, vI r, vI q, vI (c (o + 3 + i.toNat) q)], [vR (o + 2)], aq_h m s F c_2) _
      refine am_E.go (t2 := (43, [vR o, vI i, vI j, vI r, vI q, vI (c (o + 3 + i.toNat) q)], [vI j, vR (o + 2)], aq_h m s F c_2)) rfl rfl ?_
      refine aq_al (ok := fun k => decide (3 ≤ k) && decide (k < 7)) (v := vR (o + 3 + j.toNat)) rfl rfl (by omega) hFg rfl (by omega) (by omega) (aq_gi (by omega)) ?_
      show am_E _ (44, [vR o, vI i, vI j, vI r, vI q, vI (c (o + 3 + i.toNat) q)], [vR (o + 3 + j.toNat)], aq_h m s F c_2) _
      refine am_E.go (t2 := (46, [vR o, vI i, vI j, vI r, vI q, vI (c (o + 3 + i.toNat) q)], [vI q, vR (o + 3 + j.toNat)], aq_h m s F c_2)) rfl rfl ?_
      refine am_E.go (t2 := (48, [vR o, vI i, vI j, vI r, vI q, vI (c (o + 3 + i.toNat) q)], [vI (c (o + 3 + i.toNat) q), vI q, vR (o + 3 + j.toNat)], aq_h m s F c_2)) rfl rfl ?_
      refine aq_as (kd := 0) rfl rfl (by omega) (hFt _ (by omega)) (by omega) (by omega) rfl rfl ?_
      show am_E _ (49, [vR o, vI i, vI j, vI r, vI q, vI (c (o + 3 + i.toNat) q)], [], aq_h m s F (aq_u c_2 (o + 3 + j.toNat) q (c (o + 3 + i.toNat) q))) _
      generalize hdc_3 : aq_u c_2 (o + 3 + j.toNat) q (c (o + 3 + i.toNat) q) = c_3
      have sc_3 := aq_smu sc_2 hdc_3 (hSt _ (by omega))
      refine ae_iinc rfl rfl (am_ri (by omega) (by omega)) ?_
      show am_E _ (52, [vR o, vI i, vI j, vI r, vI (q + 1), vI (c (o + 3 + i.toNat) q)], [], aq_h m s F c_3) _
      refine am_E.go (t2 := (3, [vR o, vI i, vI j, vI r, vI (q + 1), vI (c (o + 3 + i.toNat) q)], [], aq_h m s F c_3)) rfl rfl ?_
      exact qn_swapRows_l ⟨hm, hn1, hn4, hz6, hFo, hFl, hFg, hFt, hFp, hFq, hFd, hFs, hht⟩ hSs hSt hi0 hi6 hj0 hj6 hr6 d (q + 1) (vI (c (o + 3 + i.toNat) q)) c_3 sc_3 (by omega) (by omega) (by omega)

theorem qn_X2_swapRows {m s : Nat} {F : aq_F} {c : aq_C} {S : Nat → Prop} {o n z : Nat} {tl : Int → Int} {th : Int → Int → Int} (hH : hv_0 m F o n z tl th) (hSs : S (o + 17)) (hSt : ∀ j, j < 6 → S (o + 3 + j)) {i j r : Int} (hi0 : 0 ≤ i) (hi6 : i < 6) (hj0 : 0 ≤ j) (hj6 : j < 6) (hr6 : r ≤ 6) : am_E ac_X2_swapRows (0, [vR o, vI i, vI j, vI r, vU, vU], [], aq_h m s F c) (aq_Z m s F S c (fun r _ => r = none)) := by
  obtain ⟨hm, hn1, hn4, hz6, hFo, hFl, hFg, hFt, hFp, hFq, hFd, hFs, hht⟩ := hH
  refine am_E.go (t2 := (1, [vR o, vI i, vI j, vI r, vU, vU], [vI 0], aq_h m s F c)) rfl rfl ?_
  refine am_E.go (t2 := (3, [vR o, vI i, vI j, vI r, vI 0, vU], [], aq_h m s F c)) rfl rfl ?_
  exact qn_swapRows_l ⟨hm, hn1, hn4, hz6, hFo, hFl, hFg, hFt, hFp, hFq, hFd, hFs, hht⟩ hSs hSt hi0 hi6 hj0 hj6 hr6 8 0 (vU) c aq_sm0 (by omega) (by omega) (by omega)

theorem qn_clearBelow_in {m s : Nat} {F : aq_F} {c0 : aq_C} {S : Nat → Prop} {o n z : Nat} {tl : Int → Int} {th : Int → Int → Int} (hH : hv_0 m F o n z tl th) (hSs : S (o + 17)) (hSt : ∀ j, j < 6 → S (o + 3 + j)) {h q r p : Int} (hh0 : 0 ≤ h) (hh6 : h < 6) (hq0 : 0 ≤ q) (hq6 : q < 6) (hr6 : r ≤ 6) (hp : p ≠ 0) : ∀ (d : Nat) (top : Int) (i : Int) (w : Int) (j : Int) (c : aq_C) (hs : aq_sm S c0 c) (h0 : 0 ≤ i) (h1 : i < 6) (h2 : 0 ≤ j) (h3 : j ≤ 6) (hd : max 0 (r - j) < (d : Int)) (K0 : ∀ (j2 : Int) (c2 : aq_C) (hs2 : aq_sm S c0 c2), am_E ac_X2_clearBelow (88, [vR o, vI h, vI q, vI r, vI p, vI top, vI i, vI w, vI j2], [], aq_h m s F c2) (aq_Z m s F S c0 (fun r _ => r = none))), am_E ac_X2_clearBelow (35, [vR o, vI h, vI q, vI r, vI p, vI top, vI i, vI w, vI j], [], aq_h m s F c) (aq_Z m s F S c0 (fun r _ => r = none))
  | 0, top, i, w, j, c, hs, h0, h1, h2, h3, hd, K0 => by exfalso; omega
  | d + 1, top, i, w, j, c, hs, h0, h1, h2, h3, hd, K0 => by
    obtain ⟨hm, hn1, hn4, hz6, hFo, hFl, hFg, hFt, hFp, hFq, hFd, hFs, hht⟩ := hH
    refine am_E.go (t2 := (37, [vR o, vI h, vI q, vI r, vI p, vI top, vI i, vI w, vI j], [vI j], aq_h m s F c)) rfl rfl ?_
    refine am_E.go (t2 := (38, [vR o, vI h, vI q, vI r, vI p, vI top, vI i, vI w, vI j], [vI r, vI j], aq_h m s F c)) rfl rfl ?_
    refine ae_icmp rfl (fun (q_1 : r ≤ j) => ?_) (fun (q_1 : j < r) => ?_)
    · exact K0 j c hs
    · refine am_E.go (t2 := (42, [vR o, vI h, vI q, vI r, vI p, vI top, vI i, vI w, vI j], [vR o], aq_h m s F c)) rfl rfl ?_
      refine aq_gf (v := vR (o + 2)) rfl (by omega) hFo (by decide) rfl ?_
      show am_E _ (45, [vR o, vI h, vI q, vI r, vI p, vI top, vI i, vI w, vI j], [vR (o + 2)], aq_h m s F c) _
      refine am_E.go (t2 := (47, [vR o, vI h, vI q, vI r, vI p, vI top, vI i, vI w, vI j], [vI i, vR (o + 2)], aq_h m s F c)) rfl rfl ?_
      refine aq_al (ok := fun k => decide (3 ≤ k) && decide (k < 7)) (v := vR (o + 3 + i.toNat)) rfl rfl (by omega) hFg rfl (by omega) (by omega) (aq_gi (by omega)) ?_
      show am_E _ (48, [vR o, vI h, vI q, vI r, vI p, vI top, vI i, vI w, vI j], [vR (o + 3 + i.toNat)], aq_h m s F c) _
      refine am_E.go (t2 := (50, [vR o, vI h, vI q, vI r, vI p, vI top, vI i, vI w, vI j], [vI j, vR (o + 3 + i.toNat)], aq_h m s F c)) rfl rfl ?_
      refine am_E.go (t2 := (51, [vR o, vI h, vI q, vI r, vI p, vI top, vI i, vI w, vI j], [vR o, vI j, vR (o + 3 + i.toNat)], aq_h m s F c)) rfl rfl ?_
      refine aq_gf (v := vR (o + 2)) rfl (by omega) hFo (by decide) rfl ?_
      show am_E _ (54, [vR o, vI h, vI q, vI r, vI p, vI top, vI i, vI w, vI j], [vR (o + 2), vI j, vR (o + 3 + i.toNat)], aq_h m s F c) _
      refine am_E.go (t2 := (56, [vR o, vI h, vI q, vI r, vI p, vI top, vI i, vI w, vI j], [vI i, vR (o + 2), vI j, vR (o + 3 + i.toNat)], aq_h m s F c)) rfl rfl ?_
      refine aq_al (ok := fun k => decide (3 ≤ k) && decide (k < 7)) (v := vR (o + 3 + i.toNat)) rfl rfl (by omega) hFg rfl (by omega) (by omega) (aq_gi (by omega)) ?_
      show am_E _ (57, [vR o, vI h, vI q, vI r, vI p, vI top, vI i, vI w, vI j], [vR (o + 3 + i.toNat), vI j, vR (o + 3 + i.toNat)], aq_h m s F c) _
      refine am_E.go (t2 := (59, [vR o, vI h, vI q, vI r, vI p, vI top, vI i, vI w, vI j], [vI j, vR (o + 3 + i.toNat), vI j, vR (o + 3 + i.toNat)], aq_h m s F c)) rfl rfl ?_
      refine aq_al (ok := fun k => k == 0) (v := vI (c (o + 3 + i.toNat) j)) rfl rfl (by omega) (hFt _ (by omega)) rfl (by omega) (by omega) rfl ?_
      show am_E _ (60, [vR o, vI h, vI q, vI r, vI p, vI top, vI i, vI w, vI j], [vI (c (o + 3 + i.toNat) j), vI j, vR (o + 3 + i.toNat)], aq_h m s F c) _
      refine am_E.go (t2 := (62, [vR o, vI h, vI q, vI r, vI p, vI top, vI i, vI w, vI j], [vI top, vI (c (o + 3 + i.toNat) j), vI j, vR (o + 3 + i.toNat)], aq_h m s F c)) rfl rfl ?_
      refine am_E.go (t2 := (63, [vR o, vI h, vI q, vI r, vI p, vI top, vI i, vI w, vI j], [vI (am_w ((c (o + 3 + i.toNat) j) * top)), vI j, vR (o + 3 + i.toNat)], aq_h m s F c)) rfl rfl ?_
      refine am_E.go (t2 := (64, [vR o, vI h, vI q, vI r, vI p, vI top, vI i, vI w, vI j], [vR o, vI (am_w ((c (o + 3 + i.toNat) j) * top)), vI j, vR (o + 3 + i.toNat)], aq_h m s F c)) rfl rfl ?_
      refine aq_gf (v := vR (o + 2)) rfl (by omega) hFo (by decide) rfl ?_
      show am_E _ (67, [vR o, vI h, vI q, vI r, vI p, vI top, vI i, vI w, vI j], [vR (o + 2), vI (am_w ((c (o + 3 + i.toNat) j) * top)), vI j, vR (o + 3 + i.toNat)], aq_h m s F c) _
      refine am_E.go (t2 := (68, [vR o, vI h, vI q, vI r, vI p, vI top, vI i, vI w, vI j], [vI h, vR (o + 2), vI (am_w ((c (o + 3 + i.toNat) j) * top)), vI j, vR (o + 3 + i.toNat)], aq_h m s F c)) rfl rfl ?_
      refine aq_al (ok := fun k => decide (3 ≤ k) && decide (k < 7)) (v := vR (o + 3 + h.toNat)) rfl rfl (by omega) hFg rfl (by omega) (by omega) (aq_gi (by omega)) ?_
      show am_E _ (69, [vR o, vI h, vI q, vI r, vI p, vI top, vI i, vI w, vI j], [vR (o + 3 + h.toNat), vI (am_w ((c (o + 3 + i.toNat) j) * top)), vI j, vR (o + 3 + i.toNat)], aq_h m s F c) _
      refine am_E.go (t2 := (71, [vR o, vI h, vI q, vI r, vI p, vI top, vI i, vI w, vI j], [vI j, vR (o + 3 + h.toNat), vI (am_w ((c (o + 3 + i.toNat) j) * top)), vI j, vR (o + 3 + i.toNat)], aq_h m s F c)) rfl rfl ?_
      refine aq_al (ok := fun k => k == 0) (v := vI (c (o + 3 + h.toNat) j)) rfl rfl (by omega) (hFt _ (by omega)) rfl (by omega) (by omega) rfl ?_
      show am_E _ (72, [vR o, vI h, vI q, vI r, vI p, vI top, vI i, vI w, vI j], [vI (c (o + 3 + h.toNat) j), vI (am_w ((c (o + 3 + i.toNat) j) * top)), vI j, vR (o + 3 + i.toNat)], aq_h m s F c) _
      refine am_E.go (t2 := (74, [vR o, vI h, vI q, vI r, vI p, vI top, vI i, vI w, vI j], [vI w, vI (c (o + 3 + h.toNat) j), vI (am_w ((c (o + 3 + i.toNat) j) * top)), vI j, vR (o + 3 + i.toNat)], aq_h m s F c)) rfl rfl ?_
      refine am_E.go (t2 := (75, [vR o, vI h, vI q, vI r, vI p, vI top, vI i, vI w, vI j], [vI (am_w ((c (o + 3 + h.toNat) j) * w)), vI (am_w ((c (o + 3 + i.toNat) j) * top)), vI j, vR (o + 3 + i.toNat)], aq_h m s F c)) rfl rfl ?_
      refine am_E.go (t2 := (76, [vR o, vI h, vI q, vI r, vI p, vI top, vI i, vI w, vI j], [vI (am_w ((am_w ((c (o + 3 + i.toNat) j) * top)) - (am_w ((c (o + 3 + h.toNat) j) * w)))), vI j, vR (o + 3 + i.toNat)], aq_h m s F c)) rfl rfl ?_
      refine am_E.go (t2 := (78, [vR o, vI h, vI q, vI r, vI p, vI top, vI i, vI w, vI j], [vI p, vI (am_w ((am_w ((c (o + 3 + i.toNat) j) * top)) - (am_w ((c (o + 3 + h.toNat) j) * w)))), vI j, vR (o + 3 + i.toNat)], aq_h m s F c)) rfl rfl ?_
      refine am_E.call rfl rfl rfl (Nat.le_of_ble_eq_true rfl) (rn_J9_floorMod (by omega) _) ?_
      rintro r5 h5 ⟨rfl, v_2, rfl⟩
      show am_E _ (81, [vR o, vI h, vI q, vI r, vI p, vI top, vI i, vI w, vI j], [vI v_2, vI j, vR (o + 3 + i.toNat)], aq_h m s F c) _
      refine aq_as (kd := 0) rfl rfl (by omega) (hFt _ (by omega)) (by omega) (by omega) rfl rfl ?_
      show am_E _ (82, [vR o, vI h, vI q, vI r, vI p, vI top, vI i, vI w, vI j], [], aq_h m s F (aq_u c (o + 3 + i.toNat) j v_2)) _
      generalize hdc_3 : aq_u c (o + 3 + i.toNat) j v_2 = c_3
      have sc_3 := aq_smu hs hdc_3 (hSt _ (by omega))
      refine ae_iinc rfl rfl (am_ri (by omega) (by omega)) ?_
      show am_E _ (85, [vR o, vI h, vI q, vI r, vI p, vI top, vI i, vI w, vI (j + 1)], [], aq_h m s F c_3) _
      refine am_E.go (t2 := (35, [vR o, vI h, vI q, vI r, vI p, vI top, vI i, vI w, vI (j + 1)], [], aq_h m s F c_3)) rfl rfl ?_
      exact qn_clearBelow_in ⟨hm, hn1, hn4, hz6, hFo, hFl, hFg, hFt, hFp, hFq, hFd, hFs, hht⟩ hSs hSt hh0 hh6 hq0 hq6 hr6 hp d top i w (j + 1) c_3 sc_3 (by omega) (by omega) (by omega) (by omega) (by omega) K0

theorem qn_clearBelow_out {m s : Nat} {F : aq_F} {c0 : aq_C} {S : Nat → Prop} {o n z : Nat} {tl : Int → Int} {th : Int → Int → Int} (hH : hv_0 m F o n z tl th) (hSs : S (o + 17)) (hSt : ∀ j, j < 6 → S (o + 3 + j)) {h q r p : Int} (hh0 : 0 ≤ h) (hh6 : h < 6) (hq0 : 0 ≤ q) (hq6 : q < 6) (hr6 : r ≤ 6) (hp : p ≠ 0) : ∀ (d : Nat) (top : Int) (i : Int) (v7 : am_V) (v8 : am_V) (c : aq_C) (hs : aq_sm S c0 c) (h0 : 0 ≤ i) (h1 : i ≤ 6) (hd : max 0 (r - i) < (d : Int)), am_E ac_X2_clearBelow (15, [vR o, vI h, vI q, vI r, vI p, vI top, vI i, v7, v8], [], aq_h m s F c) (aq_Z m s F S c0 (fun r _ => r = none))
  | 0, top, i, v7, v8, c, hs, h0, h1, hd => by exfalso; omega
  | d + 1, top, i, v7, v8, c, hs, h0, h1, hd => by
    obtain ⟨hm, hn1, hn4, hz6, hFo, hFl, hFg, hFt, hFp, hFq, hFd, hFs, hht⟩ := hH
    refine am_E.go (t2 := (17, [vR o, vI h, vI q, vI r, vI p, vI top, vI i, v7, v8], [vI i], aq_h m s F c)) rfl rfl ?_
    refine am_E.go (t2 := (18, [vR o, vI h, vI q, vI r, vI p, vI top, vI i, v7, v8], [vI r, vI i], aq_h m s F c)) rfl rfl ?_
    refine ae_icmp rfl (fun (q_1 : r ≤ i) => ?_) (fun (q_1 : i < r) => ?_)
    · refine am_E.ret rfl rfl ?_
      exact ⟨_, rfl, hs, rfl⟩
    · refine am_E.go (t2 := (22, [vR o, vI h, vI q, vI r, vI p, vI top, vI i, v7, v8], [vR o], aq_h m s F c)) rfl rfl ?_
      refine aq_gf (v := vR (o + 2)) rfl (by omega) hFo (by decide) rfl ?_
      show am_E _ (25, [vR o, vI h, vI q, vI r, vI p, vI top, vI i, v7, v8], [vR (o + 2)], aq_h m s F c) _
      refine am_E.go (t2 := (27, [vR o, vI h, vI q, vI r, vI p, vI top, vI i, v7, v8], [vI i, vR (o + 2)], aq_h m s F c)) rfl rfl ?_
      refine aq_al (ok := fun k => decide (3 ≤ k) && decide (k < 7)) (v := vR (o + 3 + i.toNat)) rfl rfl (by omega) hFg rfl (by omega) (by omega) (aq_gi (by omega)) ?_
      show am_E _ (28, [vR o, vI h, vI q, vI r, vI p, vI top, vI i, v7, v8], [vR (o + 3 + i.toNat)], aq_h m s F c) _
      refine am_E.go (t2 := (29, [vR o, vI h, vI q, vI r, vI p, vI top, vI i, v7, v8], [vI q, vR (o + 3 + i.toNat)], aq_h m s F c)) rfl rfl ?_
      refine aq_al (ok := fun k => k == 0) (v := vI (c (o + 3 + i.toNat) q)) rfl rfl (by omega) (hFt _ (by omega)) rfl (by omega) (by omega) rfl ?_
      show am_E _ (30, [vR o, vI h, vI q, vI r, vI p, vI top, vI i, v7, v8], [vI (c (o + 3 + i.toNat) q)], aq_h m s F c) _
      refine am_E.go (t2 := (32, [vR o, vI h, vI q, vI r, vI p, vI top, vI i, vI (c (o + 3 + i.toNat) q), v8], [], aq_h m s F c)) rfl rfl ?_
      refine am_E.go (t2 := (33, [vR o, vI h, vI q, vI r, vI p, vI top, vI i, vI (c (o + 3 + i.toNat) q), v8], [vI 0], aq_h m s F c)) rfl rfl ?_
      refine am_E.go (t2 := (35, [vR o, vI h, vI q, vI r, vI p, vI top, vI i, vI (c (o + 3 + i.toNat) q), vI 0], [], aq_h m s F c)) rfl rfl ?_
      refine qn_clearBelow_in ⟨hm, hn1, hn4, hz6, hFo, hFl, hFg, hFt, hFp, hFq, hFd, hFs, hht⟩ hSs hSt hh0 hh6 hq0 hq6 hr6 hp 8 top i (c (o + 3 + i.toNat) q) 0 c hs (by omega) (by omega) (by omega) (by omega) (by omega) ?_
      · intro j2_35 c_2 sc_2
        refine ae_iinc rfl rfl (am_ri (by omega) (by omega)) ?_
        show am_E _ (91, [vR o, vI h, vI q, vI r, vI p, vI top, vI (i + 1), vI (c (o + 3 + i.toNat) q), vI j2_35], [], aq_h m s F c_2) _
        refine am_E.go (t2 := (15, [vR o, vI h, vI q, vI r, vI p, vI top, vI (i + 1), vI (c (o + 3 + i.toNat) q), vI j2_35], [], aq_h m s F c_2)) rfl rfl ?_
        exact qn_clearBelow_out ⟨hm, hn1, hn4, hz6, hFo, hFl, hFg, hFt, hFp, hFq, hFd, hFs, hht⟩ hSs hSt hh0 hh6 hq0 hq6 hr6 hp d top (i + 1) (vI (c (o + 3 + i.toNat) q)) (vI j2_35) c_2 sc_2 (by omega) (by omega) (by omega)

theorem qn_X2_clearBelow {m s : Nat} {F : aq_F} {c : aq_C} {S : Nat → Prop} {o n z : Nat} {tl : Int → Int} {th : Int → Int → Int} (hH : hv_0 m F o n z tl th) (hSs : S (o + 17)) (hSt : ∀ j, j < 6 → S (o + 3 + j)) {h q r p : Int} (hh0 : 0 ≤ h) (hh6 : h < 6) (hq0 : 0 ≤ q) (hq6 : q < 6) (hr6 : r ≤ 6) (hp : p ≠ 0) : am_E ac_X2_clearBelow (0, [vR o, vI h, vI q, vI r, vI p, vU, vU, vU, vU], [], aq_h m s F c) (aq_Z m s F S c (fun r _ => r = none)) := by
  obtain ⟨hm, hn1, hn4, hz6, hFo, hFl, hFg, hFt, hFp, hFq, hFd, hFs, hht⟩ := hH
  refine am_E.go (t2 := (1, [vR o, vI h, vI q, vI r, vI p, vU, vU, vU, vU], [vR o], aq_h m s F c)) rfl rfl ?_
  refine aq_gf (v := vR (o + 2)) rfl (by omega) hFo (by decide) rfl ?_
  show am_E _ (4, [vR o, vI h, vI q, vI r, vI p, vU, vU, vU, vU], [vR (o + 2)], aq_h m s F c) _
  refine am_E.go (t2 := (5, [vR o, vI h, vI q, vI r, vI p, vU, vU, vU, vU], [vI h, vR (o + 2)], aq_h m s F c)) rfl rfl ?_
  refine aq_al (ok := fun k => decide (3 ≤ k) && decide (k < 7)) (v := vR (o + 3 + h.toNat)) rfl rfl (by omega) hFg rfl (by omega) (by omega) (aq_gi (by omega)) ?_
  show am_E _ (6, [vR o, vI h, vI q, vI r, vI p, vU, vU, vU, vU], [vR (o + 3 + h.toNat)], aq_h m s F c) _
  refine am_E.go (t2 := (7, [vR o, vI h, vI q, vI r, vI p, vU, vU, vU, vU], [vI q, vR (o + 3 + h.toNat)], aq_h m s F c)) rfl rfl ?_
  refine aq_al (ok := fun k => k == 0) (v := vI (c (o + 3 + h.toNat) q)) rfl rfl (by omega) (hFt _ (by omega)) rfl (by omega) (by omega) rfl ?_
  show am_E _ (8, [vR o, vI h, vI q, vI r, vI p, vU, vU, vU, vU], [vI (c (o + 3 + h.toNat) q)], aq_h m s F c) _
  refine am_E.go (t2 := (10, [vR o, vI h, vI q, vI r, vI p, vI (c (o + 3 + h.toNat) q), vU, vU, vU], [], aq_h m s F c)) rfl rfl ?_
  refine am_E.go (t2 := (11, [vR o, vI h, vI q, vI r, vI p, vI (c (o + 3 + h.toNat) q), vU, vU, vU], [vI h], aq_h m s F c)) rfl rfl ?_
  refine am_E.go (t2 := (12, [vR o, vI h, vI q, vI r, vI p, vI (c (o + 3 + h.toNat) q), vU, vU, vU], [vI 1, vI h], aq_h m s F c)) rfl rfl ?_
  refine ae_add rfl (am_ri (by omega) (by omega)) ?_
  show am_E _ (13, [vR o, vI h, vI q, vI r, vI p, vI (c (o + 3 + h.toNat) q), vU, vU, vU], [vI (h + 1)], aq_h m s F c) _
  refine am_E.go (t2 := (15, [vR o, vI h, vI q, vI r, vI p, vI (c (o + 3 + h.toNat) q), vI (h + 1), vU, vU], [], aq_h m s F c)) rfl rfl ?_
  exact qn_clearBelow_out ⟨hm, hn1, hn4, hz6, hFo, hFl, hFg, hFt, hFp, hFq, hFd, hFs, hht⟩ hSs hSt hh0 hh6 hq0 hq6 hr6 hp 8 (c (o + 3 + h.toNat) q) (h + 1) (vU) (vU) c aq_sm0 (by omega) (by omega) (by omega)

theorem qn_rank_in {m s : Nat} {F : aq_F} {c0 : aq_C} {S : Nat → Prop} {o n z : Nat} {tl : Int → Int} {th : Int → Int → Int} (hH : hv_0 m F o n z tl th) (hSs : S (o + 17)) (hSt : ∀ j, j < 6 → S (o + 3 + j)) {t v p r : Int} (hp : p ≠ 0) (hr0 : 0 ≤ r) (hr6 : r ≤ 6) : ∀ (d : Nat) (d5 : Int) (q : Int) (w : Int) (c : aq_C) (hs : aq_sm S c0 c) (h0 : 0 ≤ q) (h1 : q < r) (h2 : 0 ≤ d5) (h3 : d5 ≤ w) (h4 : w ≤ r) (hd : r - w < (d : Int)) (K0 : ∀ (w2 : Int) (c2 : aq_C) (hs2 : aq_sm S c0 c2) (f1 : d5 ≤ w2) (f2 : w2 ≤ r), am_E ac_X2_rank (56, [vR o, vI t, vI v, vI p, vI r, vI d5, vI q, vI w2], [], aq_h m s F c2) (aq_Z m s F S c0 (fun r _ => aq_vi r))), am_E ac_X2_rank (30, [vR o, vI t, vI v, vI p, vI r, vI d5, vI q, vI w], [], aq_h m s F c) (aq_Z m s F S c0 (fun r _ => aq_vi r))
  | 0, d5, q, w, c, hs, h0, h1, h2, h3, h4, hd, K0 => by exfalso; omega
  | d + 1, d5, q, w, c, hs, h0, h1, h2, h3, h4, hd, K0 => by
    obtain ⟨hm, hn1, hn4, hz6, hFo, hFl, hFg, hFt, hFp, hFq, hFd, hFs, hht⟩ := hH
    refine am_E.go (t2 := (32, [vR o, vI t, vI v, vI p, vI r, vI d5, vI q, vI w], [vI w], aq_h m s F c)) rfl rfl ?_
    refine am_E.go (t2 := (34, [vR o, vI t, vI v, vI p, vI r, vI d5, vI q, vI w], [vI r, vI w], aq_h m s F c)) rfl rfl ?_
    refine ae_icmp rfl (fun (q_1 : r ≤ w) => ?_) (fun (q_1 : w < r) => ?_)
    · exact K0 w c hs (by omega) (by omega)
    · refine am_E.go (t2 := (38, [vR o, vI t, vI v, vI p, vI r, vI d5, vI q, vI w], [vR o], aq_h m s F c)) rfl rfl ?_
      refine aq_gf (v := vR (o + 2)) rfl (by omega) hFo (by decide) rfl ?_
      show am_E _ (41, [vR o, vI t, vI v, vI p, vI r, vI d5, vI q, vI w], [vR (o + 2)], aq_h m s F c) _
      refine am_E.go (t2 := (43, [vR o, vI t, vI v, vI p, vI r, vI d5, vI q, vI w], [vI w, vR (o + 2)], aq_h m s F c)) rfl rfl ?_
      refine aq_al (ok := fun k => decide (3 ≤ k) && decide (k < 7)) (v := vR (o + 3 + w.toNat)) rfl rfl (by omega) hFg rfl (by omega) (by omega) (aq_gi (by omega)) ?_
      show am_E _ (44, [vR o, vI t, vI v, vI p, vI r, vI d5, vI q, vI w], [vR (o + 3 + w.toNat)], aq_h m s F c) _
      refine am_E.go (t2 := (46, [vR o, vI t, vI v, vI p, vI r, vI d5, vI q, vI w], [vI q, vR (o + 3 + w.toNat)], aq_h m s F c)) rfl rfl ?_
      refine aq_al (ok := fun k => k == 0) (v := vI (c (o + 3 + w.toNat) q)) rfl rfl (by omega) (hFt _ (by omega)) rfl (by omega) (by omega) rfl ?_
      show am_E _ (47, [vR o, vI t, vI v, vI p, vI r, vI d5, vI q, vI w], [vI (c (o + 3 + w.toNat) q)], aq_h m s F c) _
      refine ae_if0 rfl (fun (q_2 : (c (o + 3 + w.toNat) q) ≠ 0) => ?_) (fun (q_2 : (c (o + 3 + w.toNat) q) = 0) => ?_)
      · exact K0 w c hs (by omega) (by omega)
      · refine ae_iinc rfl rfl (am_ri (by omega) (by omega)) ?_
        show am_E _ (53, [vR o, vI t, vI v, vI p, vI r, vI d5, vI q, vI (w + 1)], [], aq_h m s F c) _
        refine am_E.go (t2 := (30, [vR o, vI t, vI v, vI p, vI r, vI d5, vI q, vI (w + 1)], [], aq_h m s F c)) rfl rfl ?_
        exact qn_rank_in ⟨hm, hn1, hn4, hz6, hFo, hFl, hFg, hFt, hFp, hFq, hFd, hFs, hht⟩ hSs hSt hp hr0 hr6 d d5 q (w + 1) c hs (by omega) (by omega) (by omega) (by omega) (by omega) (by omega) K0

theorem qn_rank_out {m s : Nat} {F : aq_F} {c0 : aq_C} {S : Nat → Prop} {o n z : Nat} {tl : Int → Int} {th : Int → Int → Int} (hH : hv_0 m F o n z tl th) (hSs : S (o + 17)) (hSt : ∀ j, j < 6 → S (o + 3 + j)) {t v p r : Int} (hp : p ≠ 0) (hr0 : 0 ≤ r) (hr6 : r ≤ 6) : ∀ (d : Nat) (d5 : Int) (q : Int) (v7 : am_V) (c : aq_C) (hs : aq_sm S c0 c) (h0 : 0 ≤ q) (h1 : q ≤ r) (h2 : 0 ≤ d5) (h3 : d5 ≤ q) (hd : r - q < (d : Int)), am_E ac_X2_rank (19, [vR o, vI t, vI v, vI p, vI r, vI d5, vI q, v7], [], aq_h m s F c) (aq_Z m s F S c0 (fun r _ => aq_vi r))
  | 0, d5, q, v7, c, hs, h0, h1, h2, h3, hd => by exfalso; omega
  | d + 1, d5, q, v7, c, hs, h0, h1, h2, h3, hd => by
    obtain ⟨hm, hn1, hn4, hz6, hFo, hFl, hFg, hFt, hFp, hFq, hFd, hFs, hht⟩ := hH
    refine am_E.go (t2 := (21, [vR o, vI t, vI v, vI p, vI r, vI d5, vI q, v7], [vI q], aq_h m s F c)) rfl rfl ?_
    refine am_E.go (t2 := (23, [vR o, vI t, vI v, vI p, vI r, vI d5, vI q, v7], [vI r, vI q], aq_h m s F c)) rfl rfl ?_
    refine ae_icmp rfl (fun (q_1 : r ≤ q) => ?_) (fun (q_1 : q < r) => ?_)
    · refine am_E.go (t2 := (95, [vR o, vI t, vI v, vI p, vI r, vI d5, vI q, v7], [vI d5], aq_h m s F c)) rfl rfl ?_
      refine am_E.ret rfl rfl ?_
      exact ⟨_, rfl, hs, _, rfl⟩
    · refine am_E.go (t2 := (28, [vR o, vI t, vI v, vI p, vI r, vI d5, vI q, v7], [vI d5], aq_h m s F c)) rfl rfl ?_
      refine am_E.go (t2 := (30, [vR o, vI t, vI v, vI p, vI r, vI d5, vI q, vI d5], [], aq_h m s F c)) rfl rfl ?_
      refine qn_rank_in ⟨hm, hn1, hn4, hz6, hFo, hFl, hFg, hFt, hFp, hFq, hFd, hFs, hht⟩ hSs hSt hp hr0 hr6 8 d5 q d5 c hs (by omega) (by omega) (by omega) (by omega) (by omega) (by omega) ?_
      · intro w2_30 c_2 sc_2 f1_30 f2_30
        refine am_E.go (t2 := (58, [vR o, vI t, vI v, vI p, vI r, vI d5, vI q, vI w2_30], [vI w2_30], aq_h m s F c_2)) rfl rfl ?_
        refine am_E.go (t2 := (60, [vR o, vI t, vI v, vI p, vI r, vI d5, vI q, vI w2_30], [vI r, vI w2_30], aq_h m s F c_2)) rfl rfl ?_
        refine ae_icmp rfl (fun (q_3 : r ≤ w2_30) => ?_) (fun (q_3 : w2_30 < r) => ?_)
        · refine ae_iinc rfl rfl (am_ri (by omega) (by omega)) ?_
          show am_E _ (90, [vR o, vI t, vI v, vI p, vI r, vI d5, vI (q + 1), vI w2_30], [], aq_h m s F c_2) _
          refine am_E.go (t2 := (19, [vR o, vI t, vI v, vI p, vI r, vI d5, vI (q + 1), vI w2_30], [], aq_h m s F c_2)) rfl rfl ?_
          exact qn_rank_out ⟨hm, hn1, hn4, hz6, hFo, hFl, hFg, hFt, hFp, hFq, hFd, hFs, hht⟩ hSs hSt hp hr0 hr6 d d5 (q + 1) (vI w2_30) c_2 sc_2 (by omega) (by omega) (by omega) (by omega) (by omega)
        · refine am_E.go (t2 := (64, [vR o, vI t, vI v, vI p, vI r, vI d5, vI q, vI w2_30], [vR o], aq_h m s F c_2)) rfl rfl ?_
          refine am_E.go (t2 := (66, [vR o, vI t, vI v, vI p, vI r, vI d5, vI q, vI w2_30], [vI w2_30, vR o], aq_h m s F c_2)) rfl rfl ?_
          refine am_E.go (t2 := (68, [vR o, vI t, vI v, vI p, vI r, vI d5, vI q, vI w2_30], [vI d5, vI w2_30, vR o], aq_h m s F c_2)) rfl rfl ?_
          refine am_E.go (t2 := (70, [vR o, vI t, vI v, vI p, vI r, vI d5, vI q, vI w2_30], [vI r, vI d5, vI w2_30, vR o], aq_h m s F c_2)) rfl rfl ?_
          refine aq_callv (y := 4) (as2 := [vI w2_30, vI d5, vI r]) (rest := []) rfl rfl (by decide) (Nat.le_of_ble_eq_true rfl) rfl rfl (Nat.le_of_ble_eq_true rfl) (by omega) hFo rfl (Nat.le_of_ble_eq_true rfl) (qn_X2_swapRows ⟨hm, hn1, hn4, hz6, hFo, hFl, hFg, hFt, hFp, hFq, hFd, hFs, hht⟩ hSs hSt (by omega) (by omega) (by omega) (by omega) (by omega)) ?_
          rintro r5 h5 ⟨c_4, rfl, sc_4, rfl⟩
          show am_E _ (73, [vR o, vI t, vI v, vI p, vI r, vI d5, vI q, vI w2_30], [], aq_h m s F c_4) _
          refine am_E.go (t2 := (74, [vR o, vI t, vI v, vI p, vI r, vI d5, vI q, vI w2_30], [vR o], aq_h m s F c_4)) rfl rfl ?_
          refine am_E.go (t2 := (76, [vR o, vI t, vI v, vI p, vI r, vI d5, vI q, vI w2_30], [vI d5, vR o], aq_h m s F c_4)) rfl rfl ?_
          refine am_E.go (t2 := (78, [vR o, vI t, vI v, vI p, vI r, vI d5, vI q, vI w2_30], [vI q, vI d5, vR o], aq_h m s F c_4)) rfl rfl ?_
          refine am_E.go (t2 := (80, [vR o, vI t, vI v, vI p, vI r, vI d5, vI q, vI w2_30], [vI r, vI q, vI d5, vR o], aq_h m s F c_4)) rfl rfl ?_
          refine am_E.go (t2 := (81, [vR o, vI t, vI v, vI p, vI r, vI d5, vI q, vI w2_30], [vI p, vI r, vI q, vI d5, vR o], aq_h m s F c_4)) rfl rfl ?_
          refine aq_callv (y := 5) (as2 := [vI d5, vI q, vI r, vI p]) (rest := []) rfl rfl (by decide) (Nat.le_of_ble_eq_true rfl) rfl rfl (Nat.le_of_ble_eq_true rfl) (by omega) hFo rfl (Nat.le_of_ble_eq_true rfl) (qn_X2_clearBelow ⟨hm, hn1, hn4, hz6, hFo, hFl, hFg, hFt, hFp, hFq, hFd, hFs, hht⟩ hSs hSt (by omega) (by omega) (by omega) (by omega) (by omega) (by omega)) ?_
          rintro r5 h5 ⟨c_6, rfl, sc_6, rfl⟩
          show am_E _ (84, [vR o, vI t, vI v, vI p, vI r, vI d5, vI q, vI w2_30], [], aq_h m s F c_6) _
          refine ae_iinc rfl rfl (am_ri (by omega) (by omega)) ?_
          show am_E _ (87, [vR o, vI t, vI v, vI p, vI r, vI (d5 + 1), vI q, vI w2_30], [], aq_h m s F c_6) _
          refine ae_iinc rfl rfl (am_ri (by omega) (by omega)) ?_
          show am_E _ (90, [vR o, vI t, vI v, vI p, vI r, vI (d5 + 1), vI (q + 1), vI w2_30], [], aq_h m s F c_6) _
          refine am_E.go (t2 := (19, [vR o, vI t, vI v, vI p, vI r, vI (d5 + 1), vI (q + 1), vI w2_30], [], aq_h m s F c_6)) rfl rfl ?_
          exact qn_rank_out ⟨hm, hn1, hn4, hz6, hFo, hFl, hFg, hFt, hFp, hFq, hFd, hFs, hht⟩ hSs hSt hp hr0 hr6 d (d5 + 1) (q + 1) (vI w2_30) c_6 (aq_smt (aq_smt sc_2 sc_4) sc_6) (by omega) (by omega) (by omega) (by omega) (by omega)

theorem qn_X2_rank {m s : Nat} {F : aq_F} {c : aq_C} {S : Nat → Prop} {o n z : Nat} {tl : Int → Int} {th : Int → Int → Int} (hH : hv_0 m F o n z tl th) (hSs : S (o + 17)) (hSt : ∀ j, j < 6 → S (o + 3 + j)) {t v p : Int} (hp : p ≠ 0) : am_E ac_X2_rank (0, [vR o, vI t, vI v, vI p, vU, vU, vU, vU], [], aq_h m s F c) (aq_Z m s F S c (fun r _ => aq_vi r)) := by
  obtain ⟨hm, hn1, hn4, hz6, hFo, hFl, hFg, hFt, hFp, hFq, hFd, hFs, hht⟩ := hH
  refine am_E.go (t2 := (1, [vR o, vI t, vI v, vI p, vU, vU, vU, vU], [vR o], aq_h m s F c)) rfl rfl ?_
  refine am_E.go (t2 := (2, [vR o, vI t, vI v, vI p, vU, vU, vU, vU], [vI t, vR o], aq_h m s F c)) rfl rfl ?_
  refine am_E.go (t2 := (3, [vR o, vI t, vI v, vI p, vU, vU, vU, vU], [vI v, vI t, vR o], aq_h m s F c)) rfl rfl ?_
  refine am_E.go (t2 := (4, [vR o, vI t, vI v, vI p, vU, vU, vU, vU], [vI p, vI v, vI t, vR o], aq_h m s F c)) rfl rfl ?_
  refine am_E.call rfl rfl rfl (Nat.le_of_ble_eq_true rfl) (rn_J9_floorMod (by omega) _) ?_
  rintro r5 h5 ⟨rfl, v_1, rfl⟩
  show am_E _ (7, [vR o, vI t, vI v, vI p, vU, vU, vU, vU], [vI v_1, vI t, vR o], aq_h m s F c) _
  refine am_E.go (t2 := (8, [vR o, vI t, vI v, vI p, vU, vU, vU, vU], [vI p, vI v_1, vI t, vR o], aq_h m s F c)) rfl rfl ?_
  refine aq_callv (y := 4) (as2 := [vI t, vI v_1, vI p]) (rest := []) rfl rfl (by decide) (Nat.le_of_ble_eq_true rfl) rfl rfl (Nat.le_of_ble_eq_true rfl) (by omega) hFo rfl (Nat.le_of_ble_eq_true rfl) (qn_X2_fillTable ⟨hm, hn1, hn4, hz6, hFo, hFl, hFg, hFt, hFp, hFq, hFd, hFs, hht⟩ hSs hSt (by omega)) ?_
  rintro r5 h5 ⟨c_2, rfl, sc_2, v_3, rfl, hv_3⟩
  show am_E _ (11, [vR o, vI t, vI v, vI p, vU, vU, vU, vU], [vI v_3], aq_h m s F c_2) _
  refine am_E.go (t2 := (13, [vR o, vI t, vI v, vI p, vI v_3, vU, vU, vU], [], aq_h m s F c_2)) rfl rfl ?_
  refine am_E.go (t2 := (14, [vR o, vI t, vI v, vI p, vI v_3, vU, vU, vU], [vI 0], aq_h m s F c_2)) rfl rfl ?_
  refine am_E.go (t2 := (16, [vR o, vI t, vI v, vI p, vI v_3, vI 0, vU, vU], [], aq_h m s F c_2)) rfl rfl ?_
  refine am_E.go (t2 := (17, [vR o, vI t, vI v, vI p, vI v_3, vI 0, vU, vU], [vI 0], aq_h m s F c_2)) rfl rfl ?_
  refine am_E.go (t2 := (19, [vR o, vI t, vI v, vI p, vI v_3, vI 0, vI 0, vU], [], aq_h m s F c_2)) rfl rfl ?_
  exact qn_rank_out ⟨hm, hn1, hn4, hz6, hFo, hFl, hFg, hFt, hFp, hFq, hFd, hFs, hht⟩ hSs hSt hp (by omega) (by omega) 8 0 0 (vU) c_2 (aq_smt aq_sm0 sc_2) (by omega) (by omega) (by omega) (by omega) (by omega)
def aq_cp (c : aq_C) (a sp b dp n : Nat) : aq_C := fun x j => if x = b ∧ (dp : Int) ≤ j ∧ j < (dp : Int) + (n : Int) then c a ((sp : Int) + (j - (dp : Int))) else c x j
theorem aq_cph {m s : Nat} {F : aq_F} {c : aq_C} {a sp b dp n ka na nb t : Nat} (hF : F a = (ka, na, fun _ => .inl t)) (hG : F b = (ka, nb, fun _ => .inl t)) : am_cp (aq_h m s F c) a sp b dp n = aq_h m s F (aq_cp c a sp b dp n) := by
  have e : (fun x => if x = b then (((aq_h m s F c).2.2 b).1, ((aq_h m s F c).2.2 b).2.1, am_cpy ((aq_h m s F c).2.2 a).2.2 ((aq_h m s F c).2.2 b).2.2 sp dp n) else (aq_h m s F c).2.2 x) = (aq_h m s F (aq_cp c a sp b dp n)).2.2 := by
    funext x
    by_cases hx : x = b
    · subst hx
      rw [if_pos rfl, aq_hc hF, aq_hc hG, aq_hc hG]
      refine congrArg (fun f => (ka, nb, f)) ?_
      funext j
      unfold am_cpy aq_cp
      simp only [true_and]
      by_cases h : dp ≤ j ∧ j < dp + n
      · rw [if_pos h, if_pos (by omega)]
        congr 2
        omega
      · rw [if_neg h, if_neg (by omega)]
    · rw [if_neg hx]
      show ((F x).1, (F x).2.1, fun i => aq_w ((F x).2.2 i) (c x (i : Int))) = ((F x).1, (F x).2.1, fun i => aq_w ((F x).2.2 i) (aq_cp c a sp b dp n x (i : Int)))
      refine congrArg (fun f => ((F x).1, (F x).2.1, f)) ?_
      funext j
      unfold aq_cp
      rw [if_neg (fun h => hx h.1)]
  show (m, s, fun x => if x = b then (((aq_h m s F c).2.2 b).1, ((aq_h m s F c).2.2 b).2.1, am_cpy ((aq_h m s F c).2.2 a).2.2 ((aq_h m s F c).2.2 b).2.2 sp dp n) else (aq_h m s F c).2.2 x) = (m, s, (aq_h m s F (aq_cp c a sp b dp n)).2.2)
  rw [e]
theorem aq_cpy {C : am_C} {pc : Nat} {ls : List am_V} {Z : Option am_V → am_H → Prop} {m s : Nat} {F : aq_F} {c : aq_C} {j y a b ka na nb sp dp n t : Nat} {i1 i2 i3 : Int} (hrow : am_row C pc = some (.invokestatic j, 3, 901, y)) (ha : a < m) (hb : b < m) (hF : F a = (ka, na, fun _ => .inl t)) (hG : F b = (ka, nb, fun _ => .inl t)) (hk : ka = 0 ∨ ka = 2) (h1 : i1 = (sp : Int)) (h2 : i2 = (dp : Int)) (h3 : i3 = (n : Int)) (h4 : sp + n ≤ na) (h5 : dp + n ≤ nb) (k : am_E C (pc + 3, ls, [], aq_h m s F (aq_cp c a sp b dp n)) Z) : am_E C (pc, ls, [vI i3, vI i2, vR b, vI i1, vR a], aq_h m s F c) Z :=
  ae_copy (h := aq_h m s F c) hrow ha hb (aq_hc hF) (aq_hc hG) hk h1 h2 h3 h4 h5 (by rw [aq_cph hF hG]; exact k)
theorem aq_smc {S : Nat → Prop} {c d e : aq_C} {a sp b dp n : Nat} (h1 : aq_sm S c d) (he : aq_cp d a sp b dp n = e) (hb : S b) : aq_sm S c e := fun x hx j => by
  have hne : x ≠ b := fun q => hx (by rw [q]; exact hb)
  rw [← he]
  unfold aq_cp
  rw [if_neg (fun h => hne h.1), h1 x hx j]
def cr_t (x : Nat) : Nat → aq_T := fun y => match y with
  | 2 => .inr (vR (x + 1))
  | 3 => .inr (vR (x + 2))
  | _ => .inl 0
def cr_0 (m : Nat) (F : aq_F) (x : Nat) : Prop := x + 3 ≤ m ∧ F x = (11, 5, cr_t x) ∧ F (x + 1) = (0, 8, fun _ => .inl 0) ∧ F (x + 2) = (0, 81, fun _ => .inl 0)
/-- the row of crossings is well made -/
def cr_l (x : Nat) (c : aq_C) : Prop := 2 ≤ c x 0 ∧ c x 0 ≤ 4 ∧ 0 ≤ c x 1 ∧ c x 1 ≤ 8 ∧ ∀ i, 0 ≤ i → i < c x 1 → c (x + 1) i ≠ 0 ∧ -(c x 0) < c (x + 1) i ∧ c (x + 1) i < c x 0
def su_t (a : Nat) : Nat → aq_T := fun y => match y with
  | 2 => .inr (vR (a + 1))
  | 3 => .inr (vR (a + 2))
  | 4 => .inr (vR (a + 3))
  | _ => .inl 0
def su_0 (m : Nat) (F : aq_F) (a : Nat) : Prop := a + 4 ≤ m ∧ F a = (13, 5, su_t a) ∧ F (a + 1) = (0, 40, fun _ => .inl 0) ∧ F (a + 2) = (0, 40, fun _ => .inl 0) ∧ F (a + 3) = (2, 40, fun _ => .inl 2)
/-- how many boxes -/
def bx_K (n : Int) : Int := if n = 1 then 1 else if n = 2 then 3 else if n = 3 then 15 else 105
/-- a sum's size, and its boxes' numbers, are in range -/
def su_k (a : Nat) (k : Int) (c : aq_C) : Prop := 0 ≤ c a 1 ∧ c a 1 ≤ 40 ∧ ∀ i, 0 ≤ i → i < c a 1 → 0 ≤ c (a + 1) i ∧ c (a + 1) i < k ∧ -1000000000000 ≤ c (a + 3) i ∧ c (a + 3) i ≤ 1000000000000
theorem nu_pc {f g : Int → Int} {N p : Int} (h : ∀ i, 0 ≤ i → i < N → f i = g i) (hp : 0 ≤ p) (hpN : p < N) (hf : f p ≤ N) : ∀ (d : Nat) (q a : Int), 0 ≤ q → nu_p f p d q a = nu_p g p d q a
  | 0, q, a, hq => rfl
  | d + 1, q, a, hq => by
    rw [nu_p, nu_p, ← h p hp hpN]
    by_cases e : q < f p
    · rw [if_pos e, if_pos e, h q hq (by omega)]
      exact nu_pc h hp hpN hf d (q + 1) _ (by omega)
    · rw [if_neg e, if_neg e]
theorem nu_oc {f g : Int → Int} {N : Int} (h : ∀ i, 0 ≤ i → i < N → f i = g i) (hf : ∀ i, 0 ≤ i → i < N → f i ≤ N) : ∀ (d : Nat) (p x ch : Int), 0 ≤ p → nu_o f N d p x ch = nu_o g N d p x ch
  | 0, p, x, ch, hp => rfl
  | d + 1, p, x, ch, hp => by
    rw [nu_o, nu_o]
    by_cases e : p < N
    · rw [if_pos e, if_pos e, ← h p hp e, nu_pc h hp e (hf p hp e) 9 (p + 1) 0 (by omega)]
      by_cases e2 : p < f p
      · rw [if_pos e2, if_pos e2]
        exact nu_oc h hf d (p + 1) _ _ (by omega)
      · rw [if_neg e2, if_neg e2]
        exact nu_oc h hf d (p + 1) _ _ (by omega)
    · rw [if_neg e, if_neg e]
theorem am_shi1 {k : Int} (h0 : 0 ≤ k) (h8 : k ≤ 8) : 1 ≤ am_shi 1 k ∧ am_shi 1 k ≤ 256 := by
  have h : k = 0 ∨ k = 1 ∨ k = 2 ∨ k = 3 ∨ k = 4 ∨ k = 5 ∨ k = 6 ∨ k = 7 ∨ k = 8 := by omega
  rcases h with h | h | h | h | h | h | h | h | h <;> subst h <;> decide
theorem ae_neg {C : am_C} {pc : Nat} {ls st : List am_V} {h : am_H} {Z : Option am_V → am_H → Prop} {x y : Nat} {a : Int} (hrow : am_row C pc = some (.ineg, 1, x, y)) (hr : am_r32 (-a)) (k : am_E C (pc + 1, ls, vI (-a) :: st, h) Z) : am_E C (pc, ls, vI a :: st, h) Z := by
  refine am_E.go hrow ?_ k
  show some (Sum.inl (pc + 1, ls, vI (am_w (-a)) :: st, h)) = _
  rw [am_w_id hr]
theorem rn_J9_abs {a : Int} (h1 : -2147483648 < a) (h2 : a < 2147483648) (h : am_H) : am_E ac_J9_abs_0f7a4 (0, [vI a], [], h) (fun r h2 => h2 = h ∧ ∃ v, r = some (vI v) ∧ ((0 ≤ a ∧ v = a) ∨ (a < 0 ∧ v = -a))) := by
  refine am_E.go (t2 := (1, [vI a], [vI a], h)) rfl rfl ?_
  refine ae_if0 rfl (fun (q : 0 ≤ a) => ?_) (fun (q : a < 0) => ?_)
  · refine am_E.go (t2 := (10, [vI a], [vI a], h)) rfl rfl ?_
    exact am_E.ret rfl rfl ⟨rfl, _, rfl, by omega⟩
  · refine am_E.go (t2 := (5, [vI a], [vI a], h)) rfl rfl ?_
    refine ae_neg rfl (am_ri (by omega) (by omega)) ?_
    refine am_E.go (t2 := (10, [vI a], [vI (-a)], h)) rfl rfl ?_
    exact am_E.ret rfl rfl ⟨rfl, _, rfl, by omega⟩
theorem rn_J9_absl {a : Int} (h : am_H) : am_E ac_J9_abs_067f4 (0, [vL a, vU], [], h) (fun r h2 => h2 = h ∧ ∃ v, r = some (vL v) ∧ ((0 ≤ a ∧ v = a) ∨ (a < 0 ∧ v = am_wl (-a)))) := by
  refine am_E.go (t2 := (1, [vL a, vU], [vL a], h)) rfl rfl ?_
  refine am_E.go (t2 := (2, [vL a, vU], [vL 0, vL a], h)) rfl rfl ?_
  refine am_E.go (t2 := (3, [vL a, vU], [vI (if a < 0 then -1 else if a = 0 then 0 else 1)], h)) rfl rfl ?_
  refine ae_if0 rfl (fun (q : 0 ≤ (if a < 0 then (-1 : Int) else if a = 0 then 0 else 1)) => ?_) (fun (q : (if a < 0 then (-1 : Int) else if a = 0 then 0 else 1) < 0) => ?_)
  · refine am_E.go (t2 := (12, [vL a, vU], [vL a], h)) rfl rfl ?_
    refine am_E.ret rfl rfl ⟨rfl, _, rfl, Or.inl ⟨?_, rfl⟩⟩
    split at q <;> omega
  · refine am_E.go (t2 := (7, [vL a, vU], [vL a], h)) rfl rfl ?_
    refine am_E.go (t2 := (8, [vL a, vU], [vL (am_wl (-a))], h)) rfl rfl ?_
    refine am_E.go (t2 := (12, [vL a, vU], [vL (am_wl (-a))], h)) rfl rfl ?_
    refine am_E.ret rfl rfl ⟨rfl, _, rfl, Or.inr ⟨?_, rfl⟩⟩
    by_cases e : a < 0
    · exact e
    · rw [if_neg e] at q
      split at q <;> omega
