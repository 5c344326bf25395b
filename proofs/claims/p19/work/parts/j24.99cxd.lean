
theorem ly_e {n z : Nat} {tl : Int → Int} {th : Int → Int → Int} {x y : Int} (hve : hx_e n z tl th) (hz6 : z ≤ 6) (hht : ∀ h p : Int, 0 ≤ h → h < 6 → 0 ≤ p → p < (n : Int) → 0 ≤ th h p ∧ th h p ≤ (n : Int)) (x0 : 0 ≤ x) (x1 : x < (z : Int)) (y0 : 0 ≤ y) (y1 : y < (z : Int)) : l2_ (n : Int) (th ((x.toNat : Nat) : Int)) (th ((y.toNat : Nat) : Int)) 7 0 (fun _ => 0) = ly_ (n : Int) x y := by
  have ev : ∀ h : Int, 0 ≤ h → h < (z : Int) → ∀ p, 0 ≤ p → p < (n : Int) → th h p = hx_d (n : Int) h p := fun h h0 h1 p p0 p1 => (hve.2 h h0 (by rw [← hve.1]; exact h1)).2 p p0 p1
  have er : ∀ h : Int, 0 ≤ h → h < (z : Int) → ∀ p, 0 ≤ p → p < (n : Int) → 0 ≤ hx_d (n : Int) h p ∧ hx_d (n : Int) h p ≤ (n : Int) := fun h h0 h1 p p0 p1 => by rw [← ev h h0 h1 p p0 p1]; exact hht h p h0 (by omega) p0 p1
  rw [Int.toNat_of_nonneg x0, Int.toNat_of_nonneg y0]
  unfold ly_
  exact l2_c (ev x x0 x1) (ev y y0 y1) (er x x0 x1) (er y y0 y1) 7 0 _ (by omega)
theorem cn_s {n t : Int} {y : Int} (y0 : 0 ≤ y) : cn_ n t (y + 1).toNat = cn_ n t y.toNat + (if hx_l n y = t then 1 else 0) := by
  rw [show (y + 1).toNat = y.toNat + 1 by omega, cn_, Int.toNat_of_nonneg y0]

theorem qx_raise_l {m s : Nat} {F : aq_F} {c : aq_C} {v e p : Int} (hp0 : 2 ≤ p) (hp1 : p ≤ 997) (hv0 : 0 ≤ v) (hv1 : v < p) (he : e ≤ 4) {R : Int} : ∀ (d : Nat) (x : Int) (i : Int) (h0 : 0 ≤ i) (h1 : i ≤ 4) (h2 : 0 ≤ x) (h3 : x < p) (hT : rs_ v p e d i x = R) (hd : max 0 (e - i) < (d : Int)), am_E ac_X2_raise (7, [vI v, vI e, vI p, vI x, vI i], [], aq_h m s F c) (aq_P m s F c (fun r => r = some (vI R)))
  | 0, x, i, h0, h1, h2, h3, hT, hd => by exfalso; omega
  | d + 1, x, i, h0, h1, h2, h3, hT, hd => by
    refine am_E.go (t2 := (9, [vI v, vI e, vI p, vI x, vI i], [vI i], aq_h m s F c)) rfl rfl ?_
    refine am_E.go (t2 := (10, [vI v, vI e, vI p, vI x, vI i], [vI e, vI i], aq_h m s F c)) rfl rfl ?_
    refine ae_icmp rfl (fun (q_1 : e ≤ i) => ?_) (fun (q_1 : i < e) => ?_)
    · refine am_E.go (t2 := (26, [vI v, vI e, vI p, vI x, vI i], [vI x], aq_h m s F c)) rfl rfl ?_
      refine am_E.ret rfl rfl ?_
      refine ⟨rfl, ?_⟩
      rw [← hT, rs_, if_neg (show ¬ i < e by omega)]
    · refine am_E.go (t2 := (14, [vI v, vI e, vI p, vI x, vI i], [vI x], aq_h m s F c)) rfl rfl ?_
      refine am_E.go (t2 := (15, [vI v, vI e, vI p, vI x, vI i], [vI v, vI x], aq_h m s F c)) rfl rfl ?_
      have hmu := nm_mul (a := x) (b := v) (by omega) (by omega) (by omega) (by omega)
      refine ae_mul rfl (am_ri (by omega) (by omega)) ?_
      show am_E _ (16, [vI v, vI e, vI p, vI x, vI i], [vI (x * v)], aq_h m s F c) _
      refine am_E.go (t2 := (17, [vI v, vI e, vI p, vI x, vI i], [vI p, vI (x * v)], aq_h m s F c)) rfl rfl ?_
      refine ae_bin (z := (x * v) % p) rfl rfl (am_rem_e (by omega) (by omega)) ?_
      show am_E _ (18, [vI v, vI e, vI p, vI x, vI i], [vI ((x * v) % p)], aq_h m s F c) _
      refine am_E.go (t2 := (19, [vI v, vI e, vI p, vI ((x * v) % p), vI i], [], aq_h m s F c)) rfl rfl ?_
      refine ae_iinc rfl rfl (am_ri (by omega) (by omega)) ?_
      show am_E _ (22, [vI v, vI e, vI p, vI ((x * v) % p), vI (i + 1)], [], aq_h m s F c) _
      refine am_E.go (t2 := (7, [vI v, vI e, vI p, vI ((x * v) % p), vI (i + 1)], [], aq_h m s F c)) rfl rfl ?_
      exact qx_raise_l hp0 hp1 hv0 hv1 he d ((x * v) % p) (i + 1) (by omega) (by omega) (nm_em (by omega)).1 (nm_em (by omega)).2 (by rw [← hT, rs_, if_pos (show i < e by omega)]) (by omega)

theorem qx_raise {m s : Nat} {F : aq_F} {c : aq_C} {v e p : Int} (hp0 : 2 ≤ p) (hp1 : p ≤ 997) (hv0 : 0 ≤ v) (hv1 : v < p) (he : e ≤ 4) : am_E ac_X2_raise (0, [vI v, vI e, vI p, vU, vU], [], aq_h m s F c) (aq_P m s F c (fun r => r = some (vI (rs_ v p e 6 0 (1 % p))))) := by
  refine am_E.go (t2 := (1, [vI v, vI e, vI p, vU, vU], [vI 1], aq_h m s F c)) rfl rfl ?_
  refine am_E.go (t2 := (2, [vI v, vI e, vI p, vU, vU], [vI p, vI 1], aq_h m s F c)) rfl rfl ?_
  refine ae_bin (z := ((1 : Int)) % p) rfl rfl (am_rem_e (by omega) (by omega)) ?_
  show am_E _ (3, [vI v, vI e, vI p, vU, vU], [vI (((1 : Int)) % p)], aq_h m s F c) _
  refine am_E.go (t2 := (4, [vI v, vI e, vI p, vI (((1 : Int)) % p), vU], [], aq_h m s F c)) rfl rfl ?_
  refine am_E.go (t2 := (5, [vI v, vI e, vI p, vI (((1 : Int)) % p), vU], [vI 0], aq_h m s F c)) rfl rfl ?_
  refine am_E.go (t2 := (7, [vI v, vI e, vI p, vI (((1 : Int)) % p), vI 0], [], aq_h m s F c)) rfl rfl ?_
  exact qx_raise_l hp0 hp1 hv0 hv1 he 6 (((1 : Int)) % p) 0 (by omega) (by omega) (nm_em (by omega)).1 (nm_em (by omega)).2 rfl (by omega)

theorem fo_lb1 : ∀ x : Nat, x < 1 → ∀ y : Nat, y < 1 → -4 ≤ ly_ 1 (x : Int) (y : Int) ∧ ly_ 1 (x : Int) (y : Int) ≤ 4 := by decide +kernel
theorem fo_lb2 : ∀ x : Nat, x < 2 → ∀ y : Nat, y < 2 → -4 ≤ ly_ 2 (x : Int) (y : Int) ∧ ly_ 2 (x : Int) (y : Int) ≤ 4 := by decide +kernel
theorem fo_lb3 : ∀ x : Nat, x < 3 → ∀ y : Nat, y < 3 → -4 ≤ ly_ 3 (x : Int) (y : Int) ∧ ly_ 3 (x : Int) (y : Int) ≤ 4 := by decide +kernel
theorem fo_lb4 : ∀ x : Nat, x < 6 → ∀ y : Nat, y < 6 → -4 ≤ ly_ 4 (x : Int) (y : Int) ∧ ly_ 4 (x : Int) (y : Int) ≤ 4 := by decide +kernel
theorem fo_lb {n x y : Int} (h1 : 1 ≤ n) (h4 : n ≤ 4) (x0 : 0 ≤ x) (x1 : x < hx_z n) (y0 : 0 ≤ y) (y1 : y < hx_z n) : -4 ≤ ly_ n x y ∧ ly_ n x y ≤ 4 := by
  have h : n = 1 ∨ n = 2 ∨ n = 3 ∨ n = 4 := by omega
  have ex : ((x.toNat : Nat) : Int) = x := Int.toNat_of_nonneg x0
  have ey : ((y.toNat : Nat) : Int) = y := Int.toNat_of_nonneg y0
  rcases h with h | h | h | h <;> subst h
  · have g : hx_z 1 = 1 := by decide
    have := fo_lb1 x.toNat (by omega) y.toNat (by omega)
    rw [ex, ey] at this
    exact this
  · have g : hx_z 2 = 2 := by decide
    have := fo_lb2 x.toNat (by omega) y.toNat (by omega)
    rw [ex, ey] at this
    exact this
  · have g : hx_z 3 = 3 := by decide
    have := fo_lb3 x.toNat (by omega) y.toNat (by omega)
    rw [ex, ey] at this
    exact this
  · have g : hx_z 4 = 6 := by decide
    have := fo_lb4 x.toNat (by omega) y.toNat (by omega)
    rw [ex, ey] at this
    exact this

theorem qx_fillRow_l {m s : Nat} {F : aq_F} {c0 : aq_C} {o n z : Nat} {tl : Int → Int} {th : Int → Int → Int} (hH : hv_0 m F o n z tl th) (hve : hx_e n z tl th) {k x v p t : Int} (hk0 : 0 ≤ k) (hk6 : k < 6) (hx0 : 0 ≤ x) (hxz : x < (z : Int)) (hp0 : 2 ≤ p) (hp1 : p ≤ 997) (hv0 : 0 ≤ v) (hv1 : v < p) (hxt : hx_l (n : Int) x = t) : ∀ (d : Nat) (q : Int) (y : Int) (v7 : am_V) (c : aq_C) (hs : aq_sm (fun a => a = o + 17 ∨ a = o + 3 + k.toNat) c0 c) (h0 : 0 ≤ y) (h2 : y ≤ (z : Int)) (hq : q = cn_ (n : Int) t y.toNat) (hV : ∀ y2 : Int, 0 ≤ y2 → y2 < y → hx_l (n : Int) y2 = t → c (o + 3 + k.toNat) (cn_ (n : Int) t y2.toNat) = en_ v p (ly_ (n : Int) x y2)) (hd : (z : Int) - y < (d : Int)), am_E ac_X2_fillRow (6, [vR o, vR (o + 3 + k.toNat), vI x, vI v, vI p, vI q, vI y, v7], [], aq_h m s F c) (aq_Z m s F (fun a => a = o + 17 ∨ a = o + 3 + k.toNat) c0 (fun r d => r = none ∧ ∀ y2 : Int, 0 ≤ y2 → y2 < (z : Int) → hx_l (n : Int) y2 = t → d (o + 3 + k.toNat) (cn_ (n : Int) t y2.toNat) = en_ v p (ly_ (n : Int) x y2)))
  | 0, q, y, v7, c, hs, h0, h2, hq, hV, hd => by exfalso; omega
  | d + 1, q, y, v7, c, hs, h0, h2, hq, hV, hd => by
    obtain ⟨hm, hn1, hn4, hz6, hFo, hFl, hFg, hFt, hFp, hFq, hFd, hFs, hht⟩ := hH
    have hcn := cn_0 (n : Int) t y.toNat
    refine am_E.go (t2 := (8, [vR o, vR (o + 3 + k.toNat), vI x, vI v, vI p, vI q, vI y, v7], [vI y], aq_h m s F c)) rfl rfl ?_
    refine am_E.go (t2 := (9, [vR o, vR (o + 3 + k.toNat), vI x, vI v, vI p, vI q, vI y, v7], [vR o, vI y], aq_h m s F c)) rfl rfl ?_
    refine aq_gf (v := vI (z : Int)) rfl (by omega) hFo (by decide) rfl ?_
    show am_E _ (12, [vR o, vR (o + 3 + k.toNat), vI x, vI v, vI p, vI q, vI y, v7], [vI (z : Int), vI y], aq_h m s F c) _
    refine ae_icmp rfl (fun (q_1 : (z : Int) ≤ y) => ?_) (fun (q_1 : y < (z : Int)) => ?_)
    · refine am_E.ret rfl rfl ?_
      exact ⟨_, rfl, hs, rfl, fun y2 a0 a1 a2 => hV y2 a0 (by omega) a2⟩
    · refine am_E.go (t2 := (16, [vR o, vR (o + 3 + k.toNat), vI x, vI v, vI p, vI q, vI y, v7], [vR o], aq_h m s F c)) rfl rfl ?_
      refine aq_gf (v := vR (o + 1)) rfl (by omega) hFo (by decide) rfl ?_
      show am_E _ (19, [vR o, vR (o + 3 + k.toNat), vI x, vI v, vI p, vI q, vI y, v7], [vR (o + 1)], aq_h m s F c) _
      refine am_E.go (t2 := (21, [vR o, vR (o + 3 + k.toNat), vI x, vI v, vI p, vI q, vI y, v7], [vI y, vR (o + 1)], aq_h m s F c)) rfl rfl ?_
      refine aq_alt (ok := fun k => k == 0) rfl rfl (by omega) hFl rfl (by omega) (by omega) ?_
      show am_E _ (22, [vR o, vR (o + 3 + k.toNat), vI x, vI v, vI p, vI q, vI y, v7], [vI (tl y)], aq_h m s F c) _
      have f_2 := (hve.2 y (by omega) (by rw [← hve.1]; omega)).1
      refine am_E.go (t2 := (23, [vR o, vR (o + 3 + k.toNat), vI x, vI v, vI p, vI q, vI y, v7], [vR o, vI (tl y)], aq_h m s F c)) rfl rfl ?_
      refine aq_gf (v := vR (o + 1)) rfl (by omega) hFo (by decide) rfl ?_
      show am_E _ (26, [vR o, vR (o + 3 + k.toNat), vI x, vI v, vI p, vI q, vI y, v7], [vR (o + 1), vI (tl y)], aq_h m s F c) _
      refine am_E.go (t2 := (27, [vR o, vR (o + 3 + k.toNat), vI x, vI v, vI p, vI q, vI y, v7], [vI x, vR (o + 1), vI (tl y)], aq_h m s F c)) rfl rfl ?_
      refine aq_alt (ok := fun k => k == 0) rfl rfl (by omega) hFl rfl (by omega) (by omega) ?_
      show am_E _ (28, [vR o, vR (o + 3 + k.toNat), vI x, vI v, vI p, vI q, vI y, v7], [vI (tl x), vI (tl y)], aq_h m s F c) _
      have f_3 := (hve.2 x (by omega) (by rw [← hve.1]; omega)).1
      refine ae_icmp rfl (fun (q_4 : (tl y) ≠ (tl x)) => ?_) (fun (q_4 : (tl y) = (tl x)) => ?_)
      · refine ae_iinc rfl rfl (am_ri (by omega) (by omega)) ?_
        show am_E _ (69, [vR o, vR (o + 3 + k.toNat), vI x, vI v, vI p, vI q, vI (y + 1), v7], [], aq_h m s F c) _
        refine am_E.go (t2 := (6, [vR o, vR (o + 3 + k.toNat), vI x, vI v, vI p, vI q, vI (y + 1), v7], [], aq_h m s F c)) rfl rfl ?_
        exact qx_fillRow_l ⟨hm, hn1, hn4, hz6, hFo, hFl, hFg, hFt, hFp, hFq, hFd, hFs, hht⟩ hve hk0 hk6 hx0 hxz hp0 hp1 hv0 hv1 hxt d q (y + 1) (v7) c hs (by omega) (by omega) (by rw [cn_s (by omega)]; first | (rw [if_pos (by omega)]; omega) | (rw [if_neg (by omega)]; omega)) (fun y2 a0 a1 a2 => by
        by_cases e : y2 = y
        · rw [e] at a2
          exfalso
          omega
        · exact hV y2 a0 (by omega) a2) (by omega)
      · refine am_E.go (t2 := (32, [vR o, vR (o + 3 + k.toNat), vI x, vI v, vI p, vI q, vI y, v7], [vR o], aq_h m s F c)) rfl rfl ?_
        refine am_E.go (t2 := (33, [vR o, vR (o + 3 + k.toNat), vI x, vI v, vI p, vI q, vI y, v7], [vI x, vR o], aq_h m s F c)) rfl rfl ?_
        refine am_E.go (t2 := (35, [vR o, vR (o + 3 + k.toNat), vI x, vI v, vI p, vI q, vI y, v7], [vI y, vI x, vR o], aq_h m s F c)) rfl rfl ?_
        refine aq_callv (y := 3) (as2 := [vI x, vI y]) (rest := []) rfl rfl (by decide) (Nat.le_of_ble_eq_true rfl) rfl rfl (Nat.le_of_ble_eq_true rfl) (by omega) hFo rfl (Nat.le_of_ble_eq_true rfl) (qy_lay ⟨hm, hn1, hn4, hz6, hFo, hFl, hFg, hFt, hFp, hFq, hFd, hFs, hht⟩ (x := x) (y := y) (by omega) (by omega) (by omega) (by omega)) ?_
        rintro r5 h5 ⟨c_l, rfl, s_l, rfl⟩
        show am_E _ (38, [vR o, vR (o + 3 + k.toNat), vI x, vI v, vI p, vI q, vI y, v7], [vI (l2_ (n : Int) (th ((x.toNat : Nat) : Int)) (th ((y.toNat : Nat) : Int)) 7 0 (fun _ => 0))], aq_h m s F c_l) _
        have e_l := ly_e hve hz6 hht hx0 hxz (y := y) (by omega) (by omega)
        have e_f := fo_lb (n := (n : Int)) (x := x) (y := y) (by omega) (by omega) hx0 (by rw [← hve.1]; exact hxz) (by omega) (by rw [← hve.1]; omega)
        rw [e_l]
        refine am_E.go (t2 := (40, [vR o, vR (o + 3 + k.toNat), vI x, vI v, vI p, vI q, vI y, vI (ly_ (n : Int) x y)], [], aq_h m s F c_l)) rfl rfl ?_
        refine am_E.go (t2 := (41, [vR o, vR (o + 3 + k.toNat), vI x, vI v, vI p, vI q, vI y, vI (ly_ (n : Int) x y)], [vR (o + 3 + k.toNat)], aq_h m s F c_l)) rfl rfl ?_
        refine am_E.go (t2 := (43, [vR o, vR (o + 3 + k.toNat), vI x, vI v, vI p, vI q, vI y, vI (ly_ (n : Int) x y)], [vI q, vR (o + 3 + k.toNat)], aq_h m s F c_l)) rfl rfl ?_
        refine am_E.go (t2 := (45, [vR o, vR (o + 3 + k.toNat), vI x, vI v, vI p, vI q, vI y, vI (ly_ (n : Int) x y)], [vI (ly_ (n : Int) x y), vI q, vR (o + 3 + k.toNat)], aq_h m s F c_l)) rfl rfl ?_
        refine am_E.go (t2 := (47, [vR o, vR (o + 3 + k.toNat), vI x, vI v, vI p, vI q, vI y, vI (ly_ (n : Int) x y)], [vI (-4), vI (ly_ (n : Int) x y), vI q, vR (o + 3 + k.toNat)], aq_h m s F c_l)) rfl rfl ?_
        refine ae_icmp rfl (fun (q_5 : (ly_ (n : Int) x y) ≠ (-4)) => ?_) (fun (q_5 : (ly_ (n : Int) x y) = (-4)) => ?_)
        · refine am_E.go (t2 := (55, [vR o, vR (o + 3 + k.toNat), vI x, vI v, vI p, vI q, vI y, vI (ly_ (n : Int) x y)], [vI v, vI q, vR (o + 3 + k.toNat)], aq_h m s F c_l)) rfl rfl ?_
          refine am_E.go (t2 := (57, [vR o, vR (o + 3 + k.toNat), vI x, vI v, vI p, vI q, vI y, vI (ly_ (n : Int) x y)], [vI (ly_ (n : Int) x y), vI v, vI q, vR (o + 3 + k.toNat)], aq_h m s F c_l)) rfl rfl ?_
          refine am_E.go (t2 := (59, [vR o, vR (o + 3 + k.toNat), vI x, vI v, vI p, vI q, vI y, vI (ly_ (n : Int) x y)], [vI p, vI (ly_ (n : Int) x y), vI v, vI q, vR (o + 3 + k.toNat)], aq_h m s F c_l)) rfl rfl ?_
          refine am_E.call rfl rfl rfl (Nat.le_of_ble_eq_true rfl) (qx_raise (by omega) (by omega) (by omega) (by omega) (by omega)) ?_
          rintro r5 h5 ⟨rfl, rfl⟩
          show am_E _ (62, [vR o, vR (o + 3 + k.toNat), vI x, vI v, vI p, vI q, vI y, vI (ly_ (n : Int) x y)], [vI (rs_ v p (ly_ (n : Int) x y) 6 0 (1 % p)), vI q, vR (o + 3 + k.toNat)], aq_h m s F c_l) _
          refine aq_as (kd := 0) rfl rfl (by omega) (hFt _ (by omega)) (by omega) (by omega) rfl rfl ?_
          show am_E _ (63, [vR o, vR (o + 3 + k.toNat), vI x, vI v, vI p, vI q, vI y, vI (ly_ (n : Int) x y)], [], aq_h m s F (aq_u c_l (o + 3 + k.toNat) q (rs_ v p (ly_ (n : Int) x y) 6 0 (1 % p)))) _
          generalize hdc_6 : aq_u c_l (o + 3 + k.toNat) q (rs_ v p (ly_ (n : Int) x y) 6 0 (1 % p)) = c_6
          have sc_6 := aq_smu (aq_smt hs (aq_smi s_l (fun a h => Or.inl h))) hdc_6 (Or.inr rfl)
          refine ae_iinc rfl rfl (am_ri (by omega) (by omega)) ?_
          show am_E _ (66, [vR o, vR (o + 3 + k.toNat), vI x, vI v, vI p, vI (q + 1), vI y, vI (ly_ (n : Int) x y)], [], aq_h m s F c_6) _
          refine ae_iinc rfl rfl (am_ri (by omega) (by omega)) ?_
          show am_E _ (69, [vR o, vR (o + 3 + k.toNat), vI x, vI v, vI p, vI (q + 1), vI (y + 1), vI (ly_ (n : Int) x y)], [], aq_h m s F c_6) _
          refine am_E.go (t2 := (6, [vR o, vR (o + 3 + k.toNat), vI x, vI v, vI p, vI (q + 1), vI (y + 1), vI (ly_ (n : Int) x y)], [], aq_h m s F c_6)) rfl rfl ?_
          exact qx_fillRow_l ⟨hm, hn1, hn4, hz6, hFo, hFl, hFg, hFt, hFp, hFq, hFd, hFs, hht⟩ hve hk0 hk6 hx0 hxz hp0 hp1 hv0 hv1 hxt d (q + 1) (y + 1) (vI (ly_ (n : Int) x y)) c_6 sc_6 (by omega) (by omega) (by rw [cn_s (by omega)]; first | (rw [if_pos (by omega)]; omega) | (rw [if_neg (by omega)]; omega)) (fun y2 a0 a1 a2 => by
        by_cases e : y2 = y
        · rw [e, ← hq, ← hdc_6, aq_us]
          unfold en_
          rw [if_neg (by omega)]
        · have lt := cn_lt (n := (n : Int)) (t := t) (a := y2.toNat) (b := y.toNat) (by omega) (by rw [Int.toNat_of_nonneg a0]; exact a2)
          rw [← hdc_6, aq_un (Or.inr (by omega)), s_l _ (by omega)]
          exact hV y2 a0 (by omega) a2) (by omega)
        · refine am_E.go (t2 := (51, [vR o, vR (o + 3 + k.toNat), vI x, vI v, vI p, vI q, vI y, vI (ly_ (n : Int) x y)], [vI 0, vI q, vR (o + 3 + k.toNat)], aq_h m s F c_l)) rfl rfl ?_
          refine am_E.go (t2 := (62, [vR o, vR (o + 3 + k.toNat), vI x, vI v, vI p, vI q, vI y, vI (ly_ (n : Int) x y)], [vI 0, vI q, vR (o + 3 + k.toNat)], aq_h m s F c_l)) rfl rfl ?_
          refine aq_as (kd := 0) rfl rfl (by omega) (hFt _ (by omega)) (by omega) (by omega) rfl rfl ?_
          show am_E _ (63, [vR o, vR (o + 3 + k.toNat), vI x, vI v, vI p, vI q, vI y, vI (ly_ (n : Int) x y)], [], aq_h m s F (aq_u c_l (o + 3 + k.toNat) q 0)) _
          generalize hdc_7 : aq_u c_l (o + 3 + k.toNat) q 0 = c_7
          have sc_7 := aq_smu (aq_smt hs (aq_smi s_l (fun a h => Or.inl h))) hdc_7 (Or.inr rfl)
          refine ae_iinc rfl rfl (am_ri (by omega) (by omega)) ?_
          show am_E _ (66, [vR o, vR (o + 3 + k.toNat), vI x, vI v, vI p, vI (q + 1), vI y, vI (ly_ (n : Int) x y)], [], aq_h m s F c_7) _
          refine ae_iinc rfl rfl (am_ri (by omega) (by omega)) ?_
          show am_E _ (69, [vR o, vR (o + 3 + k.toNat), vI x, vI v, vI p, vI (q + 1), vI (y + 1), vI (ly_ (n : Int) x y)], [], aq_h m s F c_7) _
          refine am_E.go (t2 := (6, [vR o, vR (o + 3 + k.toNat), vI x, vI v, vI p, vI (q + 1), vI (y + 1), vI (ly_ (n : Int) x y)], [], aq_h m s F c_7)) rfl rfl ?_
          exact qx_fillRow_l ⟨hm, hn1, hn4, hz6, hFo, hFl, hFg, hFt, hFp, hFq, hFd, hFs, hht⟩ hve hk0 hk6 hx0 hxz hp0 hp1 hv0 hv1 hxt d (q + 1) (y + 1) (vI (ly_ (n : Int) x y)) c_7 sc_7 (by omega) (by omega) (by rw [cn_s (by omega)]; first | (rw [if_pos (by omega)]; omega) | (rw [if_neg (by omega)]; omega)) (fun y2 a0 a1 a2 => by
        by_cases e : y2 = y
        · rw [e, ← hq, ← hdc_7, aq_us]
          unfold en_
          rw [if_pos (by omega)]
        · have lt := cn_lt (n := (n : Int)) (t := t) (a := y2.toNat) (b := y.toNat) (by omega) (by rw [Int.toNat_of_nonneg a0]; exact a2)
          rw [← hdc_7, aq_un (Or.inr (by omega)), s_l _ (by omega)]
          exact hV y2 a0 (by omega) a2) (by omega)

theorem qx_fillRow {m s : Nat} {F : aq_F} {c : aq_C} {o n z : Nat} {tl : Int → Int} {th : Int → Int → Int} (hH : hv_0 m F o n z tl th) (hve : hx_e n z tl th) {k x v p t : Int} (hk0 : 0 ≤ k) (hk6 : k < 6) (hx0 : 0 ≤ x) (hxz : x < (z : Int)) (hp0 : 2 ≤ p) (hp1 : p ≤ 997) (hv0 : 0 ≤ v) (hv1 : v < p) (hxt : hx_l (n : Int) x = t) : am_E ac_X2_fillRow (0, [vR o, vR (o + 3 + k.toNat), vI x, vI v, vI p, vU, vU, vU], [], aq_h m s F c) (aq_Z m s F (fun a => a = o + 17 ∨ a = o + 3 + k.toNat) c (fun r d => r = none ∧ ∀ y2 : Int, 0 ≤ y2 → y2 < (z : Int) → hx_l (n : Int) y2 = t → d (o + 3 + k.toNat) (cn_ (n : Int) t y2.toNat) = en_ v p (ly_ (n : Int) x y2))) := by
  obtain ⟨hm, hn1, hn4, hz6, hFo, hFl, hFg, hFt, hFp, hFq, hFd, hFs, hht⟩ := hH
  refine am_E.go (t2 := (1, [vR o, vR (o + 3 + k.toNat), vI x, vI v, vI p, vU, vU, vU], [vI 0], aq_h m s F c)) rfl rfl ?_
  refine am_E.go (t2 := (3, [vR o, vR (o + 3 + k.toNat), vI x, vI v, vI p, vI 0, vU, vU], [], aq_h m s F c)) rfl rfl ?_
  refine am_E.go (t2 := (4, [vR o, vR (o + 3 + k.toNat), vI x, vI v, vI p, vI 0, vU, vU], [vI 0], aq_h m s F c)) rfl rfl ?_
  refine am_E.go (t2 := (6, [vR o, vR (o + 3 + k.toNat), vI x, vI v, vI p, vI 0, vI 0, vU], [], aq_h m s F c)) rfl rfl ?_
  exact qx_fillRow_l ⟨hm, hn1, hn4, hz6, hFo, hFl, hFg, hFt, hFp, hFq, hFd, hFs, hht⟩ hve hk0 hk6 hx0 hxz hp0 hp1 hv0 hv1 hxt 7 0 0 (vU) c (aq_sm0 (c := c) (S := (fun a => a = o + 17 ∨ a = o + 3 + k.toNat))) (by omega) (by omega) (by rfl) (fun y2 a0 a1 => absurd a1 (by omega)) (by omega)
