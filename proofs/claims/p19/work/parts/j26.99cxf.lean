
theorem qx_clearBelow_in {m s : Nat} {F : aq_F} {c0 : aq_C} {o n z : Nat} {tl : Int → Int} {th : Int → Int → Int} (hH : hv_0 m F o n z tl th) {h q r p : Int} (hh0 : 0 ≤ h) (hh6 : h < r) (hq0 : 0 ≤ q) (hq6 : q < r) (hr6 : r ≤ 6) (hp0 : 2 ≤ p) (hp1 : p ≤ 997) {top i w : Int} {B : Int → Int → Int} (hi0 : h < i) (hi6 : i < r) (ht0 : 0 ≤ top) (ht1 : top < p) (hw0 : 0 ≤ w) (hw1 : w < p) (hBr : ∀ b, 0 ≤ b → b < r → (0 ≤ B i b ∧ B i b < p) ∧ 0 ≤ B h b ∧ B h b < p) {Z : Option am_V → am_H → Prop} : ∀ (d : Nat) (j : Int) (c : aq_C) (hs : aq_sm (fun a => a = o + 17 ∨ (o + 3 ≤ a ∧ a < o + 9)) c0 c) (h2 : 0 ≤ j) (h3 : j ≤ r) (hV : ∀ a b : Int, 0 ≤ a → a < 6 → 0 ≤ b → b < 6 → c (o + 3 + a.toNat) b = if a = i ∧ b < j then (B i b * top - B h b * w) % p else B a b) (hd : r - j < (d : Int)) (K0 : ∀ (j2 : Int) (c2 : aq_C) (hs2 : aq_sm (fun a => a = o + 17 ∨ (o + 3 ≤ a ∧ a < o + 9)) c0 c2) (hV2 : ∀ a b : Int, 0 ≤ a → a < 6 → 0 ≤ b → b < 6 → c2 (o + 3 + a.toNat) b = if a = i ∧ b < r then (B i b * top - B h b * w) % p else B a b), am_E ac_X2_clearBelow (88, [vR o, vI h, vI q, vI r, vI p, vI top, vI i, vI w, vI j2], [], aq_h m s F c2) Z), am_E ac_X2_clearBelow (35, [vR o, vI h, vI q, vI r, vI p, vI top, vI i, vI w, vI j], [], aq_h m s F c) Z
  | 0, j, c, hs, h2, h3, hV, hd, K0 => by exfalso; omega
  | d + 1, j, c, hs, h2, h3, hV, hd, K0 => by
    obtain ⟨hm, hn1, hn4, hz6, hFo, hFl, hFg, hFt, hFp, hFq, hFd, hFs, hht⟩ := hH
    refine am_E.go (t2 := (37, [vR o, vI h, vI q, vI r, vI p, vI top, vI i, vI w, vI j], [vI j], aq_h m s F c)) rfl rfl ?_
    refine am_E.go (t2 := (38, [vR o, vI h, vI q, vI r, vI p, vI top, vI i, vI w, vI j], [vI r, vI j], aq_h m s F c)) rfl rfl ?_
    refine ae_icmp rfl (fun (q_1 : r ≤ j) => ?_) (fun (q_1 : j < r) => ?_)
    · exact K0 j c hs (fun a b a0 a1 b0 b1 => by rw [hV a b a0 a1 b0 b1, show j = r by omega])
    · refine am_E.go (t2 := (42, [vR o, vI h, vI q, vI r, vI p, vI top, vI i, vI w, vI j], [vR o], aq_h m s F c)) rfl rfl ?_
      refine aq_gf (v := vR (o + 2)) rfl (by omega) hFo (by decide) rfl ?_
      show am_E _ (45, [vR o, vI h, vI q, vI r, vI p, vI top, vI i, vI w, vI j], [vR (o + 2)], aq_h m s F c) _
      refine am_E.go (t2 := (47, [vR o, vI h, vI q, vI r, vI p, vI top, vI i, vI w, vI j], [vI i, vR (o + 2)], aq_h m s F c)) rfl rfl ?_
      refine aq_al (ok := fun k => decide (3 ≤ k) && decide (k < 7)) (v := vR (o + 3 + i.toNat)) rfl rfl (by omega) hFg rfl (by omega) (by omega) (aq_gi (by omega)) ?_
      show am_E _ (48, [vR o, vI h, vI q, vI r, vI p, vI top, vI i, vI w, vI j], [vR (o + 3 + i.toNat)], aq_h m s F c) _
      refine am_E.go (t2 := (50, [vR o, vI h, vI q, vI r, vI p, vI top, vI i, vI w, vI j], [vI j, vR (o + 3 + i.toNat)], aq_h m s F c)) rfl rfl ?_
      refine am_E.go (t2 := (51, [vR o, vI h, vI q, vI r, vI p, vI top, vI i, vI w, vI j], [vR o, vI j, vR (o + 3 + i.toNat)], aq_h m s F c)) rfl rfl ?_
      refine aq_gf (v := vR (o + 2)) rfl (by omega) hFo (by decide) rfl ?_
      show am_E _ (54, [vR o, vI h, vI q, vI r, vI p, vI top, vI i, vI w, vI j], [vR (o + 2), vI j, vR (o + 3 + i.toNat)], aq_h m s F c) _
      refine am_E.go (t2 := (56, [vR o, vI h, vI q, vI r, vI p, vI top, vI i, vI w, vI j], [vI i, vR (o + 2), vI j, vR (o + 3 + i.toNat)], aq_h m s F c)) rfl rfl ?_
      refine aq_al (ok := fun k => decide (3 ≤ k) && decide (k < 7)) (v := vR (o + 3 + i.toNat)) rfl rfl (by omega) hFg rfl (by omega) (by omega) (aq_gi (by omega)) ?_
      show am_E _ (57, [vR o, vI h, vI q, vI r, vI p, vI top, vI i, vI w, vI j], [vR (o + 3 + i.toNat), vI j, vR (o + 3 + i.toNat)], aq_h m s F c) _
      refine am_E.go (t2 := (59, [vR o, vI h, vI q, vI r, vI p, vI top, vI i, vI w, vI j], [vI j, vR (o + 3 + i.toNat), vI j, vR (o + 3 + i.toNat)], aq_h m s F c)) rfl rfl ?_
      refine aq_al (ok := fun k => k == 0) (v := vI (c (o + 3 + i.toNat) j)) rfl rfl (by omega) (hFt _ (by omega)) rfl (by omega) (by omega) rfl ?_
      show am_E _ (60, [vR o, vI h, vI q, vI r, vI p, vI top, vI i, vI w, vI j], [vI (c (o + 3 + i.toNat) j), vI j, vR (o + 3 + i.toNat)], aq_h m s F c) _
      have f_2 := hV i j (by omega) (by omega) (by omega) (by omega)
      rw [if_neg (by omega)] at f_2
      rw [show c (o + 3 + i.toNat) j = B i j from by assumption]
      refine am_E.go (t2 := (62, [vR o, vI h, vI q, vI r, vI p, vI top, vI i, vI w, vI j], [vI top, vI (B i j), vI j, vR (o + 3 + i.toNat)], aq_h m s F c)) rfl rfl ?_
      have k1 := hBr j (by omega) (by omega)
      have k2 := nm_mul (a := B i j) (b := top) (by omega) (by omega) (by omega) (by omega)
      have k3 := nm_mul (a := B h j) (b := w) (by omega) (by omega) (by omega) (by omega)
      refine ae_mul rfl (am_ri (by omega) (by omega)) ?_
      show am_E _ (63, [vR o, vI h, vI q, vI r, vI p, vI top, vI i, vI w, vI j], [vI ((B i j) * top), vI j, vR (o + 3 + i.toNat)], aq_h m s F c) _
      refine am_E.go (t2 := (64, [vR o, vI h, vI q, vI r, vI p, vI top, vI i, vI w, vI j], [vR o, vI ((B i j) * top), vI j, vR (o + 3 + i.toNat)], aq_h m s F c)) rfl rfl ?_
      refine aq_gf (v := vR (o + 2)) rfl (by omega) hFo (by decide) rfl ?_
      show am_E _ (67, [vR o, vI h, vI q, vI r, vI p, vI top, vI i, vI w, vI j], [vR (o + 2), vI ((B i j) * top), vI j, vR (o + 3 + i.toNat)], aq_h m s F c) _
      refine am_E.go (t2 := (68, [vR o, vI h, vI q, vI r, vI p, vI top, vI i, vI w, vI j], [vI h, vR (o + 2), vI ((B i j) * top), vI j, vR (o + 3 + i.toNat)], aq_h m s F c)) rfl rfl ?_
      refine aq_al (ok := fun k => decide (3 ≤ k) && decide (k < 7)) (v := vR (o + 3 + h.toNat)) rfl rfl (by omega) hFg rfl (by omega) (by omega) (aq_gi (by omega)) ?_
      show am_E _ (69, [vR o, vI h, vI q, vI r, vI p, vI top, vI i, vI w, vI j], [vR (o + 3 + h.toNat), vI ((B i j) * top), vI j, vR (o + 3 + i.toNat)], aq_h m s F c) _
      refine am_E.go (t2 := (71, [vR o, vI h, vI q, vI r, vI p, vI top, vI i, vI w, vI j], [vI j, vR (o + 3 + h.toNat), vI ((B i j) * top), vI j, vR (o + 3 + i.toNat)], aq_h m s F c)) rfl rfl ?_
      refine aq_al (ok := fun k => k == 0) (v := vI (c (o + 3 + h.toNat) j)) rfl rfl (by omega) (hFt _ (by omega)) rfl (by omega) (by omega) rfl ?_
      show am_E _ (72, [vR o, vI h, vI q, vI r, vI p, vI top, vI i, vI w, vI j], [vI (c (o + 3 + h.toNat) j), vI ((B i j) * top), vI j, vR (o + 3 + i.toNat)], aq_h m s F c) _
      have f_3 := hV h j (by omega) (by omega) (by omega) (by omega)
      rw [if_neg (by omega)] at f_3
      rw [show c (o + 3 + h.toNat) j = B h j from by assumption]
      refine am_E.go (t2 := (74, [vR o, vI h, vI q, vI r, vI p, vI top, vI i, vI w, vI j], [vI w, vI (B h j), vI ((B i j) * top), vI j, vR (o + 3 + i.toNat)], aq_h m s F c)) rfl rfl ?_
      refine ae_mul rfl (am_ri (by omega) (by omega)) ?_
      show am_E _ (75, [vR o, vI h, vI q, vI r, vI p, vI top, vI i, vI w, vI j], [vI ((B h j) * w), vI ((B i j) * top), vI j, vR (o + 3 + i.toNat)], aq_h m s F c) _
      refine ae_sub rfl (am_ri (by omega) (by omega)) ?_
      show am_E _ (76, [vR o, vI h, vI q, vI r, vI p, vI top, vI i, vI w, vI j], [vI (((B i j) * top) - ((B h j) * w)), vI j, vR (o + 3 + i.toNat)], aq_h m s F c) _
      refine am_E.go (t2 := (78, [vR o, vI h, vI q, vI r, vI p, vI top, vI i, vI w, vI j], [vI p, vI (((B i j) * top) - ((B h j) * w)), vI j, vR (o + 3 + i.toNat)], aq_h m s F c)) rfl rfl ?_
      refine am_E.call rfl rfl rfl (Nat.le_of_ble_eq_true rfl) (qx_floorMod (am_ri (by omega) (by omega)) (by omega) (by omega) _) ?_
      rintro r5 h5 ⟨rfl, rfl⟩
      show am_E _ (81, [vR o, vI h, vI q, vI r, vI p, vI top, vI i, vI w, vI j], [vI ((((B i j) * top) - ((B h j) * w)) % p), vI j, vR (o + 3 + i.toNat)], aq_h m s F c) _
      refine aq_as (kd := 0) rfl rfl (by omega) (hFt _ (by omega)) (by omega) (by omega) rfl rfl ?_
      show am_E _ (82, [vR o, vI h, vI q, vI r, vI p, vI top, vI i, vI w, vI j], [], aq_h m s F (aq_u c (o + 3 + i.toNat) j ((((B i j) * top) - ((B h j) * w)) % p))) _
      generalize hdc_4 : aq_u c (o + 3 + i.toNat) j ((((B i j) * top) - ((B h j) * w)) % p) = c_4
      have sc_4 := aq_smu hs hdc_4 (Or.inr (by omega))
      refine ae_iinc rfl rfl (am_ri (by omega) (by omega)) ?_
      show am_E _ (85, [vR o, vI h, vI q, vI r, vI p, vI top, vI i, vI w, vI (j + 1)], [], aq_h m s F c_4) _
      refine am_E.go (t2 := (35, [vR o, vI h, vI q, vI r, vI p, vI top, vI i, vI w, vI (j + 1)], [], aq_h m s F c_4)) rfl rfl ?_
      exact qx_clearBelow_in ⟨hm, hn1, hn4, hz6, hFo, hFl, hFg, hFt, hFp, hFq, hFd, hFs, hht⟩ hh0 hh6 hq0 hq6 hr6 hp0 hp1 hi0 hi6 ht0 ht1 hw0 hw1 hBr d (j + 1) c_4 sc_4 (by omega) (by omega) (fun a b a0 a1 b0 b1 => by
      by_cases e : a = i ∧ b = j
      · rw [e.1, e.2, ← hdc_4, aq_us, if_pos ⟨rfl, by omega⟩]
      · rw [← hdc_4, aq_un (by omega), hV a b a0 a1 b0 b1]
        by_cases e2 : a = i ∧ b < j
        · rw [if_pos e2, if_pos (by omega)]
        · rw [if_neg e2, if_neg (by omega)]) (by omega) K0

theorem qx_clearBelow_out {m s : Nat} {F : aq_F} {c0 : aq_C} {o n z : Nat} {tl : Int → Int} {th : Int → Int → Int} (hH : hv_0 m F o n z tl th) {h q r p : Int} (hh0 : 0 ≤ h) (hh6 : h < r) (hq0 : 0 ≤ q) (hq6 : q < r) (hr6 : r ≤ 6) (hp0 : 2 ≤ p) (hp1 : p ≤ 997) {top : Int} {A : Int → Int → Int} (ht_ : top = A h q) (hA : ∀ a b, 0 ≤ a → a < r → 0 ≤ b → b < r → 0 ≤ A a b ∧ A a b < p) : ∀ (d : Nat) (i : Int) (v7 : am_V) (v8 : am_V) (c : aq_C) (hs : aq_sm (fun a => a = o + 17 ∨ (o + 3 ≤ a ∧ a < o + 9)) c0 c) (h0 : h < i) (h1 : i ≤ r) (hV : ∀ a b : Int, 0 ≤ a → a < 6 → 0 ≤ b → b < 6 → c (o + 3 + a.toNat) b = if (h < a ∧ a < i) ∧ b < r then (A a b * A h q - A h b * A a q) % p else A a b) (hd : r - i < (d : Int)), am_E ac_X2_clearBelow (15, [vR o, vI h, vI q, vI r, vI p, vI top, vI i, v7, v8], [], aq_h m s F c) (aq_Z m s F (fun a => a = o + 17 ∨ (o + 3 ≤ a ∧ a < o + 9)) c0 (fun x5 d => x5 = none ∧ ∀ a b : Int, 0 ≤ a → a < 6 → 0 ≤ b → b < 6 → d (o + 3 + a.toNat) b = mx_c A r p h q a b))
  | 0, i, v7, v8, c, hs, h0, h1, hV, hd => by exfalso; omega
  | d + 1, i, v7, v8, c, hs, h0, h1, hV, hd => by
    obtain ⟨hm, hn1, hn4, hz6, hFo, hFl, hFg, hFt, hFp, hFq, hFd, hFs, hht⟩ := hH
    refine am_E.go (t2 := (17, [vR o, vI h, vI q, vI r, vI p, vI top, vI i, v7, v8], [vI i], aq_h m s F c)) rfl rfl ?_
    refine am_E.go (t2 := (18, [vR o, vI h, vI q, vI r, vI p, vI top, vI i, v7, v8], [vI r, vI i], aq_h m s F c)) rfl rfl ?_
    refine ae_icmp rfl (fun (q_1 : r ≤ i) => ?_) (fun (q_1 : i < r) => ?_)
    · refine am_E.ret rfl rfl ?_
      refine ⟨_, rfl, hs, rfl, fun a b a0 a1 b0 b1 => ?_⟩
      rw [hV a b a0 a1 b0 b1]
      unfold mx_c
      by_cases e : (h < a ∧ a < r) ∧ 0 ≤ b ∧ b < r
      · rw [if_pos e, if_pos (by omega)]
      · rw [if_neg e, if_neg (by omega)]
    · refine am_E.go (t2 := (22, [vR o, vI h, vI q, vI r, vI p, vI top, vI i, v7, v8], [vR o], aq_h m s F c)) rfl rfl ?_
      refine aq_gf (v := vR (o + 2)) rfl (by omega) hFo (by decide) rfl ?_
      show am_E _ (25, [vR o, vI h, vI q, vI r, vI p, vI top, vI i, v7, v8], [vR (o + 2)], aq_h m s F c) _
      refine am_E.go (t2 := (27, [vR o, vI h, vI q, vI r, vI p, vI top, vI i, v7, v8], [vI i, vR (o + 2)], aq_h m s F c)) rfl rfl ?_
      refine aq_al (ok := fun k => decide (3 ≤ k) && decide (k < 7)) (v := vR (o + 3 + i.toNat)) rfl rfl (by omega) hFg rfl (by omega) (by omega) (aq_gi (by omega)) ?_
      show am_E _ (28, [vR o, vI h, vI q, vI r, vI p, vI top, vI i, v7, v8], [vR (o + 3 + i.toNat)], aq_h m s F c) _
      refine am_E.go (t2 := (29, [vR o, vI h, vI q, vI r, vI p, vI top, vI i, v7, v8], [vI q, vR (o + 3 + i.toNat)], aq_h m s F c)) rfl rfl ?_
      refine aq_al (ok := fun k => k == 0) (v := vI (c (o + 3 + i.toNat) q)) rfl rfl (by omega) (hFt _ (by omega)) rfl (by omega) (by omega) rfl ?_
      show am_E _ (30, [vR o, vI h, vI q, vI r, vI p, vI top, vI i, v7, v8], [vI (c (o + 3 + i.toNat) q)], aq_h m s F c) _
      have f_2 := hV i q (by omega) (by omega) (by omega) (by omega)
      rw [if_neg (by omega)] at f_2
      have hw_ : (c (o + 3 + i.toNat) q) = A i q := by assumption
      have kq := hA i q (by omega) (by omega) (by omega) (by omega)
      have kt := hA h q (by omega) (by omega) (by omega) (by omega)
      refine am_E.go (t2 := (32, [vR o, vI h, vI q, vI r, vI p, vI top, vI i, vI (c (o + 3 + i.toNat) q), v8], [], aq_h m s F c)) rfl rfl ?_
      refine am_E.go (t2 := (33, [vR o, vI h, vI q, vI r, vI p, vI top, vI i, vI (c (o + 3 + i.toNat) q), v8], [vI 0], aq_h m s F c)) rfl rfl ?_
      refine am_E.go (t2 := (35, [vR o, vI h, vI q, vI r, vI p, vI top, vI i, vI (c (o + 3 + i.toNat) q), vI 0], [], aq_h m s F c)) rfl rfl ?_
      refine qx_clearBelow_in ⟨hm, hn1, hn4, hz6, hFo, hFl, hFg, hFt, hFp, hFq, hFd, hFs, hht⟩ hh0 hh6 hq0 hq6 hr6 hp0 hp1 (B := (fun a b => if (h < a ∧ a < i) ∧ b < r then (A a b * A h q - A h b * A a q) % p else A a b)) (by omega) (by omega) (by omega) (by omega) (by omega) (by omega) (fun b b0 b1 => by rw [if_neg (by omega), if_neg (by omega)]; exact ⟨hA i b (by omega) (by omega) b0 b1, hA h b (by omega) (by omega) b0 b1⟩) 8 0 c hs (by omega) (by omega) (fun a b a0 a1 b0 b1 => by rw [if_neg (by omega)]; exact hV a b a0 a1 b0 b1) (by omega) ?_
      · intro j2_35 c_3 sc_3 hV2_35
        refine ae_iinc rfl rfl (am_ri (by omega) (by omega)) ?_
        show am_E _ (91, [vR o, vI h, vI q, vI r, vI p, vI top, vI (i + 1), vI (c (o + 3 + i.toNat) q), vI j2_35], [], aq_h m s F c_3) _
        refine am_E.go (t2 := (15, [vR o, vI h, vI q, vI r, vI p, vI top, vI (i + 1), vI (c (o + 3 + i.toNat) q), vI j2_35], [], aq_h m s F c_3)) rfl rfl ?_
        exact qx_clearBelow_out ⟨hm, hn1, hn4, hz6, hFo, hFl, hFg, hFt, hFp, hFq, hFd, hFs, hht⟩ hh0 hh6 hq0 hq6 hr6 hp0 hp1 ht_ hA d (i + 1) (vI (c (o + 3 + i.toNat) q)) (vI j2_35) c_3 sc_3 (by omega) (by omega) (fun a b a0 a1 b0 b1 => by
      rw [hV2_35 a b a0 a1 b0 b1]
      by_cases e : a = i ∧ b < r
      · rw [if_pos e, if_pos (show (h < a ∧ a < i + 1) ∧ b < r by omega), e.1]
        rw [if_neg (show ¬ ((h < i ∧ i < i) ∧ b < r) by omega), if_neg (show ¬ ((h < h ∧ h < i) ∧ b < r) by omega), hw_, ht_]
      · rw [if_neg e]
        by_cases e2 : (h < a ∧ a < i) ∧ b < r
        · rw [if_pos e2, if_pos (show (h < a ∧ a < i + 1) ∧ b < r by omega)]
        · rw [if_neg e2, if_neg (show ¬ ((h < a ∧ a < i + 1) ∧ b < r) by omega)]) (by omega)

theorem qx_clearBelow {m s : Nat} {F : aq_F} {c : aq_C} {o n z : Nat} {tl : Int → Int} {th : Int → Int → Int} (hH : hv_0 m F o n z tl th) {h q r p : Int} (hh0 : 0 ≤ h) (hh6 : h < r) (hq0 : 0 ≤ q) (hq6 : q < r) (hr6 : r ≤ 6) (hp0 : 2 ≤ p) (hp1 : p ≤ 997) {A : Int → Int → Int} (hV : ∀ a b : Int, 0 ≤ a → a < 6 → 0 ≤ b → b < 6 → c (o + 3 + a.toNat) b = A a b) (hA : ∀ a b, 0 ≤ a → a < r → 0 ≤ b → b < r → 0 ≤ A a b ∧ A a b < p) : am_E ac_X2_clearBelow (0, [vR o, vI h, vI q, vI r, vI p, vU, vU, vU, vU], [], aq_h m s F c) (aq_Z m s F (fun a => a = o + 17 ∨ (o + 3 ≤ a ∧ a < o + 9)) c (fun x5 d => x5 = none ∧ ∀ a b : Int, 0 ≤ a → a < 6 → 0 ≤ b → b < 6 → d (o + 3 + a.toNat) b = mx_c A r p h q a b)) := by
  obtain ⟨hm, hn1, hn4, hz6, hFo, hFl, hFg, hFt, hFp, hFq, hFd, hFs, hht⟩ := hH
  refine am_E.go (t2 := (1, [vR o, vI h, vI q, vI r, vI p, vU, vU, vU, vU], [vR o], aq_h m s F c)) rfl rfl ?_
  refine aq_gf (v := vR (o + 2)) rfl (by omega) hFo (by decide) rfl ?_
  show am_E _ (4, [vR o, vI h, vI q, vI r, vI p, vU, vU, vU, vU], [vR (o + 2)], aq_h m s F c) _
  refine am_E.go (t2 := (5, [vR o, vI h, vI q, vI r, vI p, vU, vU, vU, vU], [vI h, vR (o + 2)], aq_h m s F c)) rfl rfl ?_
  refine aq_al (ok := fun k => decide (3 ≤ k) && decide (k < 7)) (v := vR (o + 3 + h.toNat)) rfl rfl (by omega) hFg rfl (by omega) (by omega) (aq_gi (by omega)) ?_
  show am_E _ (6, [vR o, vI h, vI q, vI r, vI p, vU, vU, vU, vU], [vR (o + 3 + h.toNat)], aq_h m s F c) _
  refine am_E.go (t2 := (7, [vR o, vI h, vI q, vI r, vI p, vU, vU, vU, vU], [vI q, vR (o + 3 + h.toNat)], aq_h m s F c)) rfl rfl ?_
  refine aq_al (ok := fun k => k == 0) (v := vI (c (o + 3 + h.toNat) q)) rfl rfl (by omega) (hFt _ (by omega)) rfl (by omega) (by omega) rfl ?_
  show am_E _ (8, [vR o, vI h, vI q, vI r, vI p, vU, vU, vU, vU], [vI (c (o + 3 + h.toNat) q)], aq_h m s F c) _
  refine am_E.go (t2 := (10, [vR o, vI h, vI q, vI r, vI p, vI (c (o + 3 + h.toNat) q), vU, vU, vU], [], aq_h m s F c)) rfl rfl ?_
  refine am_E.go (t2 := (11, [vR o, vI h, vI q, vI r, vI p, vI (c (o + 3 + h.toNat) q), vU, vU, vU], [vI h], aq_h m s F c)) rfl rfl ?_
  refine am_E.go (t2 := (12, [vR o, vI h, vI q, vI r, vI p, vI (c (o + 3 + h.toNat) q), vU, vU, vU], [vI 1, vI h], aq_h m s F c)) rfl rfl ?_
  refine ae_add rfl (am_ri (by omega) (by omega)) ?_
  show am_E _ (13, [vR o, vI h, vI q, vI r, vI p, vI (c (o + 3 + h.toNat) q), vU, vU, vU], [vI (h + 1)], aq_h m s F c) _
  refine am_E.go (t2 := (15, [vR o, vI h, vI q, vI r, vI p, vI (c (o + 3 + h.toNat) q), vI (h + 1), vU, vU], [], aq_h m s F c)) rfl rfl ?_
  exact qx_clearBelow_out ⟨hm, hn1, hn4, hz6, hFo, hFl, hFg, hFt, hFp, hFq, hFd, hFs, hht⟩ hh0 hh6 hq0 hq6 hr6 hp0 hp1 (A := A) (hV h q (by omega) (by omega) (by omega) (by omega)) hA 8 (h + 1) (vU) (vU) c (aq_sm0 (c := c) (S := (fun a => a = o + 17 ∨ (o + 3 ≤ a ∧ a < o + 9)))) (by omega) (by omega) (fun a b a0 a1 b0 b1 => by rw [if_neg (by omega)]; exact hV a b a0 a1 b0 b1) (by omega)
