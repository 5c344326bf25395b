
theorem qx_fillTable_l {m s : Nat} {F : aq_F} {c0 : aq_C} {o n z : Nat} {tl : Int → Int} {th : Int → Int → Int} (hH : hv_0 m F o n z tl th) (hve : hx_e n z tl th) {t v p : Int} (hp0 : 2 ≤ p) (hp1 : p ≤ 997) (hv0 : 0 ≤ v) (hv1 : v < p) : ∀ (d : Nat) (r : Int) (x : Int) (c : aq_C) (hs : aq_sm (fun a => a = o + 17 ∨ (o + 3 ≤ a ∧ a < o + 9)) c0 c) (h0 : 0 ≤ x) (h2 : x ≤ (z : Int)) (hr : r = cn_ (n : Int) t x.toNat) (hV : ∀ x2 y2 : Int, 0 ≤ x2 → x2 < x → 0 ≤ y2 → y2 < (z : Int) → hx_l (n : Int) x2 = t → hx_l (n : Int) y2 = t → c (o + 3 + (cn_ (n : Int) t x2.toNat).toNat) (cn_ (n : Int) t y2.toNat) = en_ v p (ly_ (n : Int) x2 y2)) (hd : (z : Int) - x < (d : Int)), am_E ac_X2_fillTable (6, [vR o, vI t, vI v, vI p, vI r, vI x], [], aq_h m s F c) (aq_Z m s F (fun a => a = o + 17 ∨ (o + 3 ≤ a ∧ a < o + 9)) c0 (fun r d => r = some (vI (cn_ (n : Int) t z)) ∧ ∀ x2 y2 : Int, 0 ≤ x2 → x2 < (z : Int) → 0 ≤ y2 → y2 < (z : Int) → hx_l (n : Int) x2 = t → hx_l (n : Int) y2 = t → d (o + 3 + (cn_ (n : Int) t x2.toNat).toNat) (cn_ (n : Int) t y2.toNat) = en_ v p (ly_ (n : Int) x2 y2)))
  | 0, r, x, c, hs, h0, h2, hr, hV, hd => by exfalso; omega
  | d + 1, r, x, c, hs, h0, h2, hr, hV, hd => by
    obtain ⟨hm, hn1, hn4, hz6, hFo, hFl, hFg, hFt, hFp, hFq, hFd, hFs, hht⟩ := hH
    have hcn := cn_0 (n : Int) t x.toNat
    refine am_E.go (t2 := (8, [vR o, vI t, vI v, vI p, vI r, vI x], [vI x], aq_h m s F c)) rfl rfl ?_
    refine am_E.go (t2 := (9, [vR o, vI t, vI v, vI p, vI r, vI x], [vR o, vI x], aq_h m s F c)) rfl rfl ?_
    refine aq_gf (v := vI (z : Int)) rfl (by omega) hFo (by decide) rfl ?_
    show am_E _ (12, [vR o, vI t, vI v, vI p, vI r, vI x], [vI (z : Int), vI x], aq_h m s F c) _
    refine ae_icmp rfl (fun (q_1 : (z : Int) ≤ x) => ?_) (fun (q_1 : x < (z : Int)) => ?_)
    · refine am_E.go (t2 := (52, [vR o, vI t, vI v, vI p, vI r, vI x], [vI r], aq_h m s F c)) rfl rfl ?_
      refine am_E.ret rfl rfl ?_
      have ex : x = (z : Int) := by omega
      rw [ex] at hr
      rw [show ((z : Int)).toNat = z by omega] at hr
      refine ⟨_, rfl, hs, by rw [hr], fun x2 y2 a0 a1 a2 a3 a4 a5 => hV x2 y2 a0 (by omega) a2 a3 a4 a5⟩
    · refine am_E.go (t2 := (16, [vR o, vI t, vI v, vI p, vI r, vI x], [vR o], aq_h m s F c)) rfl rfl ?_
      refine aq_gf (v := vR (o + 1)) rfl (by omega) hFo (by decide) rfl ?_
      show am_E _ (19, [vR o, vI t, vI v, vI p, vI r, vI x], [vR (o + 1)], aq_h m s F c) _
      refine am_E.go (t2 := (21, [vR o, vI t, vI v, vI p, vI r, vI x], [vI x, vR (o + 1)], aq_h m s F c)) rfl rfl ?_
      refine aq_alt (ok := fun k => k == 0) rfl rfl (by omega) hFl rfl (by omega) (by omega) ?_
      show am_E _ (22, [vR o, vI t, vI v, vI p, vI r, vI x], [vI (tl x)], aq_h m s F c) _
      have f_2 := (hve.2 x (by omega) (by rw [← hve.1]; omega)).1
      refine am_E.go (t2 := (23, [vR o, vI t, vI v, vI p, vI r, vI x], [vI t, vI (tl x)], aq_h m s F c)) rfl rfl ?_
      refine ae_icmp rfl (fun (q_3 : (tl x) ≠ t) => ?_) (fun (q_3 : (tl x) = t) => ?_)
      · refine ae_iinc rfl rfl (am_ri (by omega) (by omega)) ?_
        show am_E _ (47, [vR o, vI t, vI v, vI p, vI r, vI (x + 1)], [], aq_h m s F c) _
        refine am_E.go (t2 := (6, [vR o, vI t, vI v, vI p, vI r, vI (x + 1)], [], aq_h m s F c)) rfl rfl ?_
        exact qx_fillTable_l ⟨hm, hn1, hn4, hz6, hFo, hFl, hFg, hFt, hFp, hFq, hFd, hFs, hht⟩ hve hp0 hp1 hv0 hv1 d r (x + 1) c hs (by omega) (by omega) (by rw [cn_s (by omega)]; first | (rw [if_pos (by omega)]; omega) | (rw [if_neg (by omega)]; omega)) (fun x2 y2 a0 a1 a2 a3 a4 a5 => by
        by_cases e : x2 = x
        · rw [e] at a4
          exfalso
          omega
        · exact hV x2 y2 a0 (by omega) a2 a3 a4 a5) (by omega)
      · refine am_E.go (t2 := (27, [vR o, vI t, vI v, vI p, vI r, vI x], [vR o], aq_h m s F c)) rfl rfl ?_
        refine am_E.go (t2 := (28, [vR o, vI t, vI v, vI p, vI r, vI x], [vR o, vR o], aq_h m s F c)) rfl rfl ?_
        refine aq_gf (v := vR (o + 2)) rfl (by omega) hFo (by decide) rfl ?_
        show am_E _ (31, [vR o, vI t, vI v, vI p, vI r, vI x], [vR (o + 2), vR o], aq_h m s F c) _
        refine am_E.go (t2 := (33, [vR o, vI t, vI v, vI p, vI r, vI x], [vI r, vR (o + 2), vR o], aq_h m s F c)) rfl rfl ?_
        refine aq_al (ok := fun k => decide (3 ≤ k) && decide (k < 7)) (v := vR (o + 3 + r.toNat)) rfl rfl (by omega) hFg rfl (by omega) (by omega) (aq_gi (by omega)) ?_
        show am_E _ (34, [vR o, vI t, vI v, vI p, vI r, vI x], [vR (o + 3 + r.toNat), vR o], aq_h m s F c) _
        refine am_E.go (t2 := (36, [vR o, vI t, vI v, vI p, vI r, vI x], [vI x, vR (o + 3 + r.toNat), vR o], aq_h m s F c)) rfl rfl ?_
        refine am_E.go (t2 := (37, [vR o, vI t, vI v, vI p, vI r, vI x], [vI v, vI x, vR (o + 3 + r.toNat), vR o], aq_h m s F c)) rfl rfl ?_
        refine am_E.go (t2 := (38, [vR o, vI t, vI v, vI p, vI r, vI x], [vI p, vI v, vI x, vR (o + 3 + r.toNat), vR o], aq_h m s F c)) rfl rfl ?_
        refine aq_callv (y := 5) (as2 := [vR (o + 3 + r.toNat), vI x, vI v, vI p]) (rest := []) rfl rfl (by decide) (Nat.le_of_ble_eq_true rfl) rfl rfl (Nat.le_of_ble_eq_true rfl) (by omega) hFo rfl (Nat.le_of_ble_eq_true rfl) (qx_fillRow ⟨hm, hn1, hn4, hz6, hFo, hFl, hFg, hFt, hFp, hFq, hFd, hFs, hht⟩ hve (k := r) (t := t) (by omega) (by omega) (by omega) (by omega) (by omega) (by omega) (by omega) (by omega) (by omega)) ?_
        rintro r5 h5 ⟨c_w, rfl, s_w, rfl, v_w⟩
        show am_E _ (41, [vR o, vI t, vI v, vI p, vI r, vI x], [], aq_h m s F c_w) _
        refine ae_iinc rfl rfl (am_ri (by omega) (by omega)) ?_
        show am_E _ (44, [vR o, vI t, vI v, vI p, vI (r + 1), vI x], [], aq_h m s F c_w) _
        refine ae_iinc rfl rfl (am_ri (by omega) (by omega)) ?_
        show am_E _ (47, [vR o, vI t, vI v, vI p, vI (r + 1), vI (x + 1)], [], aq_h m s F c_w) _
        refine am_E.go (t2 := (6, [vR o, vI t, vI v, vI p, vI (r + 1), vI (x + 1)], [], aq_h m s F c_w)) rfl rfl ?_
        exact qx_fillTable_l ⟨hm, hn1, hn4, hz6, hFo, hFl, hFg, hFt, hFp, hFq, hFd, hFs, hht⟩ hve hp0 hp1 hv0 hv1 d (r + 1) (x + 1) c_w (aq_smt hs (aq_smi s_w (fun a h => by omega))) (by omega) (by omega) (by rw [cn_s (by omega)]; first | (rw [if_pos (by omega)]; omega) | (rw [if_neg (by omega)]; omega)) (fun x2 y2 a0 a1 a2 a3 a4 a5 => by
        by_cases e : x2 = x
        · rw [e, ← hr]
          exact v_w y2 a2 a3 a5
        · have lt := cn_lt (n := (n : Int)) (t := t) (a := x2.toNat) (b := x.toNat) (by omega) (by rw [Int.toNat_of_nonneg a0]; exact a4)
          have l0 := cn_0 (n : Int) t x2.toNat
          rw [s_w _ (by omega)]
          exact hV x2 y2 a0 (by omega) a2 a3 a4 a5) (by omega)

theorem qx_fillTable {m s : Nat} {F : aq_F} {c : aq_C} {o n z : Nat} {tl : Int → Int} {th : Int → Int → Int} (hH : hv_0 m F o n z tl th) (hve : hx_e n z tl th) {t v p : Int} (hp0 : 2 ≤ p) (hp1 : p ≤ 997) (hv0 : 0 ≤ v) (hv1 : v < p) : am_E ac_X2_fillTable (0, [vR o, vI t, vI v, vI p, vU, vU], [], aq_h m s F c) (aq_Z m s F (fun a => a = o + 17 ∨ (o + 3 ≤ a ∧ a < o + 9)) c (fun r d => r = some (vI (cn_ (n : Int) t z)) ∧ ∀ x2 y2 : Int, 0 ≤ x2 → x2 < (z : Int) → 0 ≤ y2 → y2 < (z : Int) → hx_l (n : Int) x2 = t → hx_l (n : Int) y2 = t → d (o + 3 + (cn_ (n : Int) t x2.toNat).toNat) (cn_ (n : Int) t y2.toNat) = en_ v p (ly_ (n : Int) x2 y2))) := by
  obtain ⟨hm, hn1, hn4, hz6, hFo, hFl, hFg, hFt, hFp, hFq, hFd, hFs, hht⟩ := hH
  refine am_E.go (t2 := (1, [vR o, vI t, vI v, vI p, vU, vU], [vI 0], aq_h m s F c)) rfl rfl ?_
  refine am_E.go (t2 := (3, [vR o, vI t, vI v, vI p, vI 0, vU], [], aq_h m s F c)) rfl rfl ?_
  refine am_E.go (t2 := (4, [vR o, vI t, vI v, vI p, vI 0, vU], [vI 0], aq_h m s F c)) rfl rfl ?_
  refine am_E.go (t2 := (6, [vR o, vI t, vI v, vI p, vI 0, vI 0], [], aq_h m s F c)) rfl rfl ?_
  exact qx_fillTable_l ⟨hm, hn1, hn4, hz6, hFo, hFl, hFg, hFt, hFp, hFq, hFd, hFs, hht⟩ hve hp0 hp1 hv0 hv1 7 0 0 c (aq_sm0 (c := c) (S := (fun a => a = o + 17 ∨ (o + 3 ≤ a ∧ a < o + 9)))) (by omega) (by omega) (by rfl) (fun x2 y2 a0 a1 => absurd a1 (by omega)) (by omega)

theorem qx_swapRows_l {m s : Nat} {F : aq_F} {c0 : aq_C} {o n z : Nat} {tl : Int → Int} {th : Int → Int → Int} (hH : hv_0 m F o n z tl th) {i j r : Int} (hi0 : 0 ≤ i) (hi6 : i < 6) (hj0 : 0 ≤ j) (hj6 : j < 6) (hr6 : r ≤ 6) : ∀ (d : Nat) (q : Int) (v5 : am_V) (c : aq_C) (hs : aq_sm (fun a => a = o + 17 ∨ (o + 3 ≤ a ∧ a < o + 9)) c0 c) (h0 : 0 ≤ q) (h1 : q ≤ max 0 r) (hV : ∀ a b : Int, 0 ≤ a → a < 6 → 0 ≤ b → b < 6 → c (o + 3 + a.toNat) b = if b < q then (if a = i then c0 (o + 3 + j.toNat) b else if a = j then c0 (o + 3 + i.toNat) b else c0 (o + 3 + a.toNat) b) else c0 (o + 3 + a.toNat) b) (hd : max 0 (r - q) < (d : Int)), am_E ac_X2_swapRows (3, [vR o, vI i, vI j, vI r, vI q, v5], [], aq_h m s F c) (aq_Z m s F (fun a => a = o + 17 ∨ (o + 3 ≤ a ∧ a < o + 9)) c0 (fun x5 d => x5 = none ∧ ∀ a b : Int, 0 ≤ a → a < 6 → 0 ≤ b → b < 6 → d (o + 3 + a.toNat) b = mx_s (fun a b => c0 (o + 3 + a.toNat) b) r i j a b))
  | 0, q, v5, c, hs, h0, h1, hV, hd => by exfalso; omega
  | d + 1, q, v5, c, hs, h0, h1, hV, hd => by
    obtain ⟨hm, hn1, hn4, hz6, hFo, hFl, hFg, hFt, hFp, hFq, hFd, hFs, hht⟩ := hH
    refine am_E.go (t2 := (5, [vR o, vI i, vI j, vI r, vI q, v5], [vI q], aq_h m s F c)) rfl rfl ?_
    refine am_E.go (t2 := (6, [vR o, vI i, vI j, vI r, vI q, v5], [vI r, vI q], aq_h m s F c)) rfl rfl ?_
    refine ae_icmp rfl (fun (q_1 : r ≤ q) => ?_) (fun (q_1 : q < r) => ?_)
    · refine am_E.ret rfl rfl ?_
      refine ⟨_, rfl, hs, rfl, fun a b a0 a1 b0 b1 => ?_⟩
      rw [hV a b a0 a1 b0 b1]
      unfold mx_s
      by_cases e : b < r
      · rw [if_pos (show b < q by omega), if_pos (show 0 ≤ b ∧ b < r from ⟨b0, e⟩)]
      · rw [if_neg (show ¬ (0 ≤ b ∧ b < r) by omega)]
        by_cases e2 : b < q
        · exfalso; omega
        · rw [if_neg e2]
    · refine am_E.go (t2 := (10, [vR o, vI i, vI j, vI r, vI q, v5], [vR o], aq_h m s F c)) rfl rfl ?_
      refine aq_gf (v := vR (o + 2)) rfl (by omega) hFo (by decide) rfl ?_
      show am_E _ (13, [vR o, vI i, vI j, vI r, vI q, v5], [vR (o + 2)], aq_h m s F c) _
      refine am_E.go (t2 := (14, [vR o, vI i, vI j, vI r, vI q, v5], [vI i, vR (o + 2)], aq_h m s F c)) rfl rfl ?_
      refine aq_al (ok := fun k => decide (3 ≤ k) && decide (k < 7)) (v := vR (o + 3 + i.toNat)) rfl rfl (by omega) hFg rfl (by omega) (by omega) (aq_gi (by omega)) ?_
      show am_E _ (15, [vR o, vI i, vI j, vI r, vI q, v5], [vR (o + 3 + i.toNat)], aq_h m s F c) _
      refine am_E.go (t2 := (17, [vR o, vI i, vI j, vI r, vI q, v5], [vI q, vR (o + 3 + i.toNat)], aq_h m s F c)) rfl rfl ?_
      refine aq_al (ok := fun k => k == 0) (v := vI (c (o + 3 + i.toNat) q)) rfl rfl (by omega) (hFt _ (by omega)) rfl (by omega) (by omega) rfl ?_
      show am_E _ (18, [vR o, vI i, vI j, vI r, vI q, v5], [vI (c (o + 3 + i.toNat) q)], aq_h m s F c) _
      refine am_E.go (t2 := (20, [vR o, vI i, vI j, vI r, vI q, vI (c (o + 3 + i.toNat) q)], [], aq_h m s F c)) rfl rfl ?_
      refine am_E.go (t2 := (21, [vR o, vI i, vI j, vI r, vI q, vI (c (o + 3 + i.toNat) q)], [vR o], aq_h m s F c)) rfl rfl ?_
      refine aq_gf (v := vR (o + 2)) rfl (by omega) hFo (by decide) rfl ?_
      show am_E _ (24, [vR o, vI i, vI j, vI r, vI q, vI (c (o + 3 + i.toNat) q)], [vR (o + 2)], aq_h m s F c) _
      refine am_E.go (t2 := (25, [vR o, vI i, vI j, vI r, vI q, vI (c (o + 3 + i.toNat) q)], [vI i, vR (o + 2)], aq_h m s F c)) rfl rfl ?_
      refine aq_al (ok := fun k => decide (3 ≤ k) && decide (k < 7)) (v := vR (o + 3 + i.toNat)) rfl rfl (by omega) hFg rfl (by omega) (by omega) (aq_gi (by omega)) ?_
      show am_E _ (26, [vR o, vI i, vI j, vI r, vI q, vI (c (o + 3 + i.toNat) q)], [vR (o + 3 + i.toNat)], aq_h m s F c) _
      refine am_E.go (t2 := (28, [vR o, vI i, vI j, vI r, vI q, vI (c (o + 3 + i.toNat) q)], [vI q, vR (o + 3 + i.toNat)], aq_h m s F c)) rfl rfl ?_
      refine am_E.go (t2 := (29, [vR o, vI i, vI j, vI r, vI q, vI (c (o + 3 + i.toNat) q)], [vR o, vI q, vR (o + 3 + i.toNat)], aq_h m s F c)) rfl rfl ?_
      refine aq_gf (v := vR (o + 2)) rfl (by omega) hFo (by decide) rfl ?_
      show am_E _ (32, [vR o, vI i, vI j, vI r, vI q, vI (c (o + 3 + i.toNat) q)], [vR (o + 2), vI q, vR (o + 3 + i.toNat)], aq_h m s F c) _
      refine am_E.go (t2 := (33, [vR o, vI i, vI j, vI r, vI q, vI (c (o + 3 + i.toNat) q)], [vI j, vR (o + 2), vI q, vR (o + 3 + i.toNat)], aq_h m s F c)) rfl rfl ?_
      refine aq_al (ok := fun k => decide (3 ≤ k) && decide (k < 7)) (v := vR (o + 3 + j.toNat)) rfl rfl (by omega) hFg rfl (by omega) (by omega) (aq_gi (by omega)) ?_
      show am_E _ (34, [vR o, vI i, vI j, vI r, vI q, vI (c (o + 3 + i.toNat) q)], [vR (o + 3 + j.toNat), vI q, vR (o + 3 + i.toNat)], aq_h m s F c) _
      refine am_E.go (t2 := (36, [vR o, vI i, vI j, vI r, vI q, vI (c (o + 3 + i.toNat) q)], [vI q, vR (o + 3 + j.toNat), vI q, vR (o + 3 + i.toNat)], aq_h m s F c)) rfl rfl ?_
      refine aq_al (ok := fun k => k == 0) (v := vI (c (o + 3 + j.toNat) q)) rfl rfl (by omega) (hFt _ (by omega)) rfl (by omega) (by omega) rfl ?_
      show am_E _ (37, [vR o, vI i, vI j, vI r, vI q, vI (c (o + 3 + i.toNat) q)], [vI (c (o + 3 + j.toNat) q), vI q, vR (o + 3 + i.toNat)], aq_h m s F c) _
      refine aq_as (kd := 0) rfl rfl (by omega) (hFt _ (by omega)) (by omega) (by omega) rfl rfl ?_
      show am_E _ (38, [vR o, vI i, vI j, vI r, vI q, vI (c (o + 3 + i.toNat) q)], [], aq_h m s F (aq_u c (o + 3 + i.toNat) q (c (o + 3 + j.toNat) q))) _
      generalize hdc_2 : aq_u c (o + 3 + i.toNat) q (c (o + 3 + j.toNat) q) = c_2
      have sc_2 := aq_smu hs hdc_2 (Or.inr (by omega))
      refine am_E.go (t2 := (39, [vR o, vI i, vI j, vI r, vI q, vI (c (o + 3 + i.toNat) q)], [vR o], aq_h m s F c_2)) rfl rfl ?_
      refine aq_gf (v := vR (o + 2)) rfl (by omega) hFo (by decide) rfl ?_
      show am_E _ (42, [vR o, vI i, vI j, vI r, vI q, vI (c (o + 3 + i.toNat) q)], [vR (o + 2)], aq_h m s F c_2) _
      refine am_E.go (t2 := (43, [vR o, vI i, vI j, vI r, vI q, vI (c (o + 3 + i.toNat) q)], [vI j, vR (o + 2)], aq_h m s F c_2)) rfl rfl ?_
      refine aq_al (ok := fun k => decide (3 ≤ k) && decide (k < 7)) (v := vR (o + 3 + j.toNat)) rfl rfl (by omega) hFg rfl (by omega) (by omega) (aq_gi (by omega)) ?_
      show am_E _ (44, [vR o, vI i, vI j, vI r, vI q, vI (c (o + 3 + i.toNat) q)], [vR (o + 3 + j.toNat)], aq_h m s F c_2) _
      refine am_E.go (t2 := (46, [vR o, vI i, vI j, vI r, vI q, vI (c (o + 3 + i.toNat) q)], [vI q, vR (o + 3 + j.toNat)], aq_h m s F c_2)) rfl rfl ?_
      refine am_E.go (t2 := (48, [vR o, vI i, vI j, vI r, vI q, vI (c (o + 3 + i.toNat) q)], [vI (c (o + 3 + i.toNat) q), vI q, vR (o + 3 + j.toNat)], aq_h m s F c_2)) rfl rfl ?_
      refine aq_as (kd := 0) rfl rfl (by omega) (hFt _ (by omega)) (by omega) (by omega) rfl rfl ?_
      show am_E _ (49, [vR o, vI i, vI j, vI r, vI q, vI (c (o + 3 + i.toNat) q)], [], aq_h m s F (aq_u c_2 (o + 3 + j.toNat) q (c (o + 3 + i.toNat) q))) _
      generalize hdc_3 : aq_u c_2 (o + 3 + j.toNat) q (c (o + 3 + i.toNat) q) = c_3
      have sc_3 := aq_smu sc_2 hdc_3 (Or.inr (by omega))
      refine ae_iinc rfl rfl (am_ri (by omega) (by omega)) ?_
      show am_E _ (52, [vR o, vI i, vI j, vI r, vI (q + 1), vI (c (o + 3 + i.toNat) q)], [], aq_h m s F c_3) _
      refine am_E.go (t2 := (3, [vR o, vI i, vI j, vI r, vI (q + 1), vI (c (o + 3 + i.toNat) q)], [], aq_h m s F c_3)) rfl rfl ?_
      exact qx_swapRows_l ⟨hm, hn1, hn4, hz6, hFo, hFl, hFg, hFt, hFp, hFq, hFd, hFs, hht⟩ hi0 hi6 hj0 hj6 hr6 d (q + 1) (vI (c (o + 3 + i.toNat) q)) c_3 sc_3 (by omega) (by omega) (fun a b a0 a1 b0 b1 => by
      have g1 := hV a b a0 a1 b0 b1
      have g2 := hV j q hj0 hj6 (by omega) (by omega)
      have g3 := hV i q hi0 hi6 (by omega) (by omega)
      rw [if_neg (by omega)] at g2 g3
      by_cases eb : b = q
      · rw [eb, if_pos (show q < q + 1 by omega)]
        by_cases ei : a = i
        · rw [if_pos ei, ei]
          by_cases ij : i = j
          · rw [ij, ← hdc_3, aq_us, ← ij, g3]
          · rw [← hdc_3, aq_un (Or.inl (by omega)), ← hdc_2, aq_us, g2]
        · rw [if_neg ei]
          by_cases ej : a = j
          · rw [if_pos ej, ej, ← hdc_3, aq_us, g3]
          · rw [if_neg ej, ← hdc_3, aq_un (Or.inl (by omega)), ← hdc_2, aq_un (Or.inl (by omega)), ← eb, g1, if_neg (show ¬ b < q by omega)]
      · rw [← hdc_3, aq_un (Or.inr eb), ← hdc_2, aq_un (Or.inr eb), g1]
        by_cases e2 : b < q
        · rw [if_pos e2, if_pos (show b < q + 1 by omega)]
        · rw [if_neg e2, if_neg (show ¬ b < q + 1 by omega)]) (by omega)

theorem qx_swapRows {m s : Nat} {F : aq_F} {c : aq_C} {o n z : Nat} {tl : Int → Int} {th : Int → Int → Int} (hH : hv_0 m F o n z tl th) {i j r : Int} (hi0 : 0 ≤ i) (hi6 : i < 6) (hj0 : 0 ≤ j) (hj6 : j < 6) (hr6 : r ≤ 6) : am_E ac_X2_swapRows (0, [vR o, vI i, vI j, vI r, vU, vU], [], aq_h m s F c) (aq_Z m s F (fun a => a = o + 17 ∨ (o + 3 ≤ a ∧ a < o + 9)) c (fun x5 d => x5 = none ∧ ∀ a b : Int, 0 ≤ a → a < 6 → 0 ≤ b → b < 6 → d (o + 3 + a.toNat) b = mx_s (fun a b => c (o + 3 + a.toNat) b) r i j a b)) := by
  obtain ⟨hm, hn1, hn4, hz6, hFo, hFl, hFg, hFt, hFp, hFq, hFd, hFs, hht⟩ := hH
  refine am_E.go (t2 := (1, [vR o, vI i, vI j, vI r, vU, vU], [vI 0], aq_h m s F c)) rfl rfl ?_
  refine am_E.go (t2 := (3, [vR o, vI i, vI j, vI r, vI 0, vU], [], aq_h m s F c)) rfl rfl ?_
  exact qx_swapRows_l ⟨hm, hn1, hn4, hz6, hFo, hFl, hFg, hFt, hFp, hFq, hFd, hFs, hht⟩ hi0 hi6 hj0 hj6 hr6 8 0 (vU) c (aq_sm0 (c := c) (S := (fun a => a = o + 17 ∨ (o + 3 ≤ a ∧ a < o + 9)))) (by omega) (by omega) (fun a b a0 a1 b0 b1 => by rw [if_neg (by omega)]) (by omega)
