
theorem qx_addStates_in {m s : Nat} {F : aq_F} {c : aq_C} {x : Nat} (hX : cr_0 m F x) (hl : cr_l x c) {o n K : Nat} (hB : bx_0 m F o n K) (hxn : c x 0 = (n : Int)) (hKn : (K : Int) = bx_K (n : Int)) {tL : Int → Int} {tG tN : Int → Int → Int} (hT : bx_w F o n K tL tG tN) {tR : Int → Int} (hRr : bx_r F o K tR) (hex : bx_e n K tG tN tR tL) {b st : Int} {Q : Int × Int × Int} {Z : Option am_V → am_H → Prop} : ∀ (d : Nat) (t : Int) (r : Int) (w : Int) (i : Int) (v8 : am_V) (v9 : am_V) (h0 : 0 ≤ i) (h1 : i ≤ c x 1) (h2 : 0 ≤ t) (h3 : t < (K : Int)) (h4 : 0 ≤ r) (h5 : r ≤ i) (h6 : -i ≤ w) (h7 : w ≤ i) (hq : sw_ (c (x + 1)) (n : Int) (c x 1) st d i t r w = Q) (hd : c x 1 - i < (d : Int)) (K0 : ∀ (t2 : Int) (r2 : Int) (w2 : Int) (i2 : Int) (v82 : am_V) (v92 : am_V) (f1 : 0 ≤ t2) (f2 : t2 < (K : Int)) (f3 : 0 ≤ r2) (f4 : r2 ≤ 8) (f5 : -8 ≤ w2) (f6 : w2 ≤ 8) (fq : Q = (t2, r2, w2)), am_E ac_X1_addStates (162, [vR x, vR o, vI b, vI st, vI t2, vI r2, vI w2, vI i2, v82, v92], [], aq_h m s F c) Z), am_E ac_X1_addStates (54, [vR x, vR o, vI b, vI st, vI t, vI r, vI w, vI i, v8, v9], [], aq_h m s F c) Z
  | 0, t, r, w, i, v8, v9, h0, h1, h2, h3, h4, h5, h6, h7, hq, hd, K0 => by exfalso; omega
  | d + 1, t, r, w, i, v8, v9, h0, h1, h2, h3, h4, h5, h6, h7, hq, hd, K0 => by
    obtain ⟨hmx, hFx, hFl, hFw⟩ := hX
    obtain ⟨hm, hn1, hn4, hK, hFo, hFd, hFs⟩ := hB
    obtain ⟨hL, hGg, hGr, hNg, hNr, hLt, hGt, hNt⟩ := hT
    obtain ⟨hR, hRt⟩ := hRr
    obtain ⟨hl0, hl1, hl2, hl3, hl4⟩ := hl
    refine am_E.go (t2 := (56, [vR x, vR o, vI b, vI st, vI t, vI r, vI w, vI i, v8, v9], [vI i], aq_h m s F c)) rfl rfl ?_
    refine am_E.go (t2 := (57, [vR x, vR o, vI b, vI st, vI t, vI r, vI w, vI i, v8, v9], [vR x, vI i], aq_h m s F c)) rfl rfl ?_
    refine aq_gf (v := vI (c x 1)) rfl (by omega) hFx (by decide) rfl ?_
    show am_E _ (60, [vR x, vR o, vI b, vI st, vI t, vI r, vI w, vI i, v8, v9], [vI (c x 1), vI i], aq_h m s F c) _
    skip
    refine ae_icmp rfl (fun (q_2 : (c x 1) ≤ i) => ?_) (fun (q_2 : i < (c x 1)) => ?_)
    · exact K0 t r w i (v8) (v9) (by omega) (by omega) (by omega) (by omega) (by omega) (by omega) (by rw [← hq, sw_, if_neg (show ¬ i < c x 1 by omega)])
    · refine am_E.go (t2 := (64, [vR x, vR o, vI b, vI st, vI t, vI r, vI w, vI i, v8, v9], [vI st], aq_h m s F c)) rfl rfl ?_
      refine am_E.go (t2 := (66, [vR x, vR o, vI b, vI st, vI t, vI r, vI w, vI i, v8, v9], [vI i, vI st], aq_h m s F c)) rfl rfl ?_
      refine am_E.go (t2 := (67, [vR x, vR o, vI b, vI st, vI t, vI r, vI w, vI i, v8, v9], [vI (am_shri st i)], aq_h m s F c)) rfl rfl ?_
      refine am_E.go (t2 := (68, [vR x, vR o, vI b, vI st, vI t, vI r, vI w, vI i, v8, v9], [vI 1, vI (am_shri st i)], aq_h m s F c)) rfl rfl ?_
      refine am_E.go (t2 := (69, [vR x, vR o, vI b, vI st, vI t, vI r, vI w, vI i, v8, v9], [vI (am_and (am_shri st i) 1)], aq_h m s F c)) rfl rfl ?_
      refine am_E.go (t2 := (70, [vR x, vR o, vI b, vI st, vI t, vI r, vI w, vI i, v8, v9], [vI 1, vI (am_and (am_shri st i) 1)], aq_h m s F c)) rfl rfl ?_
      refine ae_icmp rfl (fun (q_3 : (am_and (am_shri st i) 1) ≠ 1) => ?_) (fun (q_3 : (am_and (am_shri st i) 1) = 1) => ?_)
      · refine am_E.go (t2 := (78, [vR x, vR o, vI b, vI st, vI t, vI r, vI w, vI i, v8, v9], [vI 0], aq_h m s F c)) rfl rfl ?_
        refine am_E.go (t2 := (80, [vR x, vR o, vI b, vI st, vI t, vI r, vI w, vI i, vI 0, v9], [], aq_h m s F c)) rfl rfl ?_
        refine am_E.go (t2 := (82, [vR x, vR o, vI b, vI st, vI t, vI r, vI w, vI i, vI 0, v9], [vI w], aq_h m s F c)) rfl rfl ?_
        refine am_E.go (t2 := (84, [vR x, vR o, vI b, vI st, vI t, vI r, vI w, vI i, vI 0, v9], [vI 0, vI w], aq_h m s F c)) rfl rfl ?_
        refine am_E.go (t2 := (85, [vR x, vR o, vI b, vI st, vI t, vI r, vI w, vI i, vI 0, v9], [vR x, vI 0, vI w], aq_h m s F c)) rfl rfl ?_
        refine aq_gf (v := vR (x + 1)) rfl (by omega) hFx (by decide) rfl ?_
        show am_E _ (88, [vR x, vR o, vI b, vI st, vI t, vI r, vI w, vI i, vI 0, v9], [vR (x + 1), vI 0, vI w], aq_h m s F c) _
        refine am_E.go (t2 := (90, [vR x, vR o, vI b, vI st, vI t, vI r, vI w, vI i, vI 0, v9], [vI i, vR (x + 1), vI 0, vI w], aq_h m s F c)) rfl rfl ?_
        refine aq_al (ok := fun k => k == 0) (v := vI (c (x + 1) i)) rfl rfl (by omega) hFl rfl (by omega) (by omega) rfl ?_
        show am_E _ (91, [vR x, vR o, vI b, vI st, vI t, vI r, vI w, vI i, vI 0, v9], [vI (c (x + 1) i), vI 0, vI w], aq_h m s F c) _
        have f_4 := hl4 i (by omega) (by omega)
        refine ae_if0 rfl (fun (q_5 : 0 ≤ (c (x + 1) i)) => ?_) (fun (q_5 : (c (x + 1) i) < 0) => ?_)
        · refine am_E.go (t2 := (99, [vR x, vR o, vI b, vI st, vI t, vI r, vI w, vI i, vI 0, v9], [vI 0, vI 0, vI w], aq_h m s F c)) rfl rfl ?_
          refine am_E.go (t2 := (102, [vR x, vR o, vI b, vI st, vI t, vI r, vI w, vI i, vI 0, v9], [vI w], aq_h m s F c)) rfl rfl ?_
          refine am_E.go (t2 := (103, [vR x, vR o, vI b, vI st, vI t, vI r, vI w, vI i, vI 0, v9], [vI 1, vI w], aq_h m s F c)) rfl rfl ?_
          refine am_E.go (t2 := (107, [vR x, vR o, vI b, vI st, vI t, vI r, vI w, vI i, vI 0, v9], [vI 1, vI w], aq_h m s F c)) rfl rfl ?_
          refine ae_add rfl (am_ri (by omega) (by omega)) ?_
          show am_E _ (108, [vR x, vR o, vI b, vI st, vI t, vI r, vI w, vI i, vI 0, v9], [vI (w + 1)], aq_h m s F c) _
          refine am_E.go (t2 := (110, [vR x, vR o, vI b, vI st, vI t, vI r, vI (w + 1), vI i, vI 0, v9], [], aq_h m s F c)) rfl rfl ?_
          refine am_E.go (t2 := (112, [vR x, vR o, vI b, vI st, vI t, vI r, vI (w + 1), vI i, vI 0, v9], [vI 0], aq_h m s F c)) rfl rfl ?_
          refine am_E.go (t2 := (156, [vR x, vR o, vI b, vI st, vI t, vI r, vI (w + 1), vI i, vI 0, v9], [], aq_h m s F c)) rfl rfl ?_
          refine ae_iinc rfl rfl (am_ri (by omega) (by omega)) ?_
          show am_E _ (159, [vR x, vR o, vI b, vI st, vI t, vI r, vI (w + 1), vI (i + 1), vI 0, v9], [], aq_h m s F c) _
          refine am_E.go (t2 := (54, [vR x, vR o, vI b, vI st, vI t, vI r, vI (w + 1), vI (i + 1), vI 0, v9], [], aq_h m s F c)) rfl rfl ?_
          exact qx_addStates_in ⟨hmx, hFx, hFl, hFw⟩ ⟨hl0, hl1, hl2, hl3, hl4⟩ ⟨hm, hn1, hn4, hK, hFo, hFd, hFs⟩ hxn hKn ⟨hL, hGg, hGr, hNg, hNr, hLt, hGt, hNt⟩ ⟨hR, hRt⟩ hex d t r (w + 1) (i + 1) (vI 0) (v9) (by omega) (by omega) (by omega) (by omega) (by omega) (by omega) (by omega) (by omega) (by rw [← hq, sw_, if_pos (show i < c x 1 by omega), if_neg (show ¬ am_and (am_shri st i) 1 = 1 by omega), if_neg (show ¬ c (x + 1) i < 0 by omega)]) (by omega) K0
        · refine am_E.go (t2 := (95, [vR x, vR o, vI b, vI st, vI t, vI r, vI w, vI i, vI 0, v9], [vI 1, vI 0, vI w], aq_h m s F c)) rfl rfl ?_
          refine am_E.go (t2 := (99, [vR x, vR o, vI b, vI st, vI t, vI r, vI w, vI i, vI 0, v9], [vI 1, vI 0, vI w], aq_h m s F c)) rfl rfl ?_
          refine am_E.go (t2 := (106, [vR x, vR o, vI b, vI st, vI t, vI r, vI w, vI i, vI 0, v9], [vI w], aq_h m s F c)) rfl rfl ?_
          refine am_E.go (t2 := (107, [vR x, vR o, vI b, vI st, vI t, vI r, vI w, vI i, vI 0, v9], [vI (-1), vI w], aq_h m s F c)) rfl rfl ?_
          refine ae_add rfl (am_ri (by omega) (by omega)) ?_
          show am_E _ (108, [vR x, vR o, vI b, vI st, vI t, vI r, vI w, vI i, vI 0, v9], [vI (w + (-1))], aq_h m s F c) _
          refine am_E.go (t2 := (110, [vR x, vR o, vI b, vI st, vI t, vI r, vI (w + (-1)), vI i, vI 0, v9], [], aq_h m s F c)) rfl rfl ?_
          refine am_E.go (t2 := (112, [vR x, vR o, vI b, vI st, vI t, vI r, vI (w + (-1)), vI i, vI 0, v9], [vI 0], aq_h m s F c)) rfl rfl ?_
          refine am_E.go (t2 := (156, [vR x, vR o, vI b, vI st, vI t, vI r, vI (w + (-1)), vI i, vI 0, v9], [], aq_h m s F c)) rfl rfl ?_
          refine ae_iinc rfl rfl (am_ri (by omega) (by omega)) ?_
          show am_E _ (159, [vR x, vR o, vI b, vI st, vI t, vI r, vI (w + (-1)), vI (i + 1), vI 0, v9], [], aq_h m s F c) _
          refine am_E.go (t2 := (54, [vR x, vR o, vI b, vI st, vI t, vI r, vI (w + (-1)), vI (i + 1), vI 0, v9], [], aq_h m s F c)) rfl rfl ?_
          exact qx_addStates_in ⟨hmx, hFx, hFl, hFw⟩ ⟨hl0, hl1, hl2, hl3, hl4⟩ ⟨hm, hn1, hn4, hK, hFo, hFd, hFs⟩ hxn hKn ⟨hL, hGg, hGr, hNg, hNr, hLt, hGt, hNt⟩ ⟨hR, hRt⟩ hex d t r (w + (-1)) (i + 1) (vI 0) (v9) (by omega) (by omega) (by omega) (by omega) (by omega) (by omega) (by omega) (by omega) (by rw [← hq, sw_, if_pos (show i < c x 1 by omega), if_neg (show ¬ am_and (am_shri st i) 1 = 1 by omega), if_pos (show c (x + 1) i < 0 by omega)]) (by omega) K0
      · refine am_E.go (t2 := (74, [vR x, vR o, vI b, vI st, vI t, vI r, vI w, vI i, v8, v9], [vI 1], aq_h m s F c)) rfl rfl ?_
        refine am_E.go (t2 := (78, [vR x, vR o, vI b, vI st, vI t, vI r, vI w, vI i, v8, v9], [vI 1], aq_h m s F c)) rfl rfl ?_
        refine am_E.go (t2 := (80, [vR x, vR o, vI b, vI st, vI t, vI r, vI w, vI i, vI 1, v9], [], aq_h m s F c)) rfl rfl ?_
        refine am_E.go (t2 := (82, [vR x, vR o, vI b, vI st, vI t, vI r, vI w, vI i, vI 1, v9], [vI w], aq_h m s F c)) rfl rfl ?_
        refine am_E.go (t2 := (84, [vR x, vR o, vI b, vI st, vI t, vI r, vI w, vI i, vI 1, v9], [vI 1, vI w], aq_h m s F c)) rfl rfl ?_
        refine am_E.go (t2 := (85, [vR x, vR o, vI b, vI st, vI t, vI r, vI w, vI i, vI 1, v9], [vR x, vI 1, vI w], aq_h m s F c)) rfl rfl ?_
        refine aq_gf (v := vR (x + 1)) rfl (by omega) hFx (by decide) rfl ?_
        show am_E _ (88, [vR x, vR o, vI b, vI st, vI t, vI r, vI w, vI i, vI 1, v9], [vR (x + 1), vI 1, vI w], aq_h m s F c) _
        refine am_E.go (t2 := (90, [vR x, vR o, vI b, vI st, vI t, vI r, vI w, vI i, vI 1, v9], [vI i, vR (x + 1), vI 1, vI w], aq_h m s F c)) rfl rfl ?_
        refine aq_al (ok := fun k => k == 0) (v := vI (c (x + 1) i)) rfl rfl (by omega) hFl rfl (by omega) (by omega) rfl ?_
        show am_E _ (91, [vR x, vR o, vI b, vI st, vI t, vI r, vI w, vI i, vI 1, v9], [vI (c (x + 1) i), vI 1, vI w], aq_h m s F c) _
        have f_6 := hl4 i (by omega) (by omega)
        refine ae_if0 rfl (fun (q_7 : 0 ≤ (c (x + 1) i)) => ?_) (fun (q_7 : (c (x + 1) i) < 0) => ?_)
        · refine am_E.go (t2 := (99, [vR x, vR o, vI b, vI st, vI t, vI r, vI w, vI i, vI 1, v9], [vI 0, vI 1, vI w], aq_h m s F c)) rfl rfl ?_
          refine am_E.go (t2 := (106, [vR x, vR o, vI b, vI st, vI t, vI r, vI w, vI i, vI 1, v9], [vI w], aq_h m s F c)) rfl rfl ?_
          refine am_E.go (t2 := (107, [vR x, vR o, vI b, vI st, vI t, vI r, vI w, vI i, vI 1, v9], [vI (-1), vI w], aq_h m s F c)) rfl rfl ?_
          refine ae_add rfl (am_ri (by omega) (by omega)) ?_
          show am_E _ (108, [vR x, vR o, vI b, vI st, vI t, vI r, vI w, vI i, vI 1, v9], [vI (w + (-1))], aq_h m s F c) _
          refine am_E.go (t2 := (110, [vR x, vR o, vI b, vI st, vI t, vI r, vI (w + (-1)), vI i, vI 1, v9], [], aq_h m s F c)) rfl rfl ?_
          refine am_E.go (t2 := (112, [vR x, vR o, vI b, vI st, vI t, vI r, vI (w + (-1)), vI i, vI 1, v9], [vI 1], aq_h m s F c)) rfl rfl ?_
          refine am_E.go (t2 := (115, [vR x, vR o, vI b, vI st, vI t, vI r, vI (w + (-1)), vI i, vI 1, v9], [], aq_h m s F c)) rfl rfl ?_
          refine am_E.go (t2 := (116, [vR x, vR o, vI b, vI st, vI t, vI r, vI (w + (-1)), vI i, vI 1, v9], [vR o], aq_h m s F c)) rfl rfl ?_
          refine aq_gf (v := vR (o + 5 + 2 * K)) rfl (by omega) hFo (by decide) rfl ?_
          show am_E _ (119, [vR x, vR o, vI b, vI st, vI t, vI r, vI (w + (-1)), vI i, vI 1, v9], [vR (o + 5 + 2 * K)], aq_h m s F c) _
          refine am_E.go (t2 := (121, [vR x, vR o, vI b, vI st, vI t, vI r, vI (w + (-1)), vI i, vI 1, v9], [vI t, vR (o + 5 + 2 * K)], aq_h m s F c)) rfl rfl ?_
          refine aq_al (ok := fun k => decide (3 ≤ k) && decide (k < 7)) (v := vR (o + 6 + 2 * K + t.toNat)) rfl rfl (by omega) hNg rfl (by omega) (by omega) (aq_gi (by omega)) ?_
          show am_E _ (122, [vR x, vR o, vI b, vI st, vI t, vI r, vI (w + (-1)), vI i, vI 1, v9], [vR (o + 6 + 2 * K + t.toNat)], aq_h m s F c) _
          refine am_E.go (t2 := (123, [vR x, vR o, vI b, vI st, vI t, vI r, vI (w + (-1)), vI i, vI 1, v9], [vR x, vR (o + 6 + 2 * K + t.toNat)], aq_h m s F c)) rfl rfl ?_
          refine aq_gf (v := vR (x + 1)) rfl (by omega) hFx (by decide) rfl ?_
          show am_E _ (126, [vR x, vR o, vI b, vI st, vI t, vI r, vI (w + (-1)), vI i, vI 1, v9], [vR (x + 1), vR (o + 6 + 2 * K + t.toNat)], aq_h m s F c) _
          refine am_E.go (t2 := (128, [vR x, vR o, vI b, vI st, vI t, vI r, vI (w + (-1)), vI i, vI 1, v9], [vI i, vR (x + 1), vR (o + 6 + 2 * K + t.toNat)], aq_h m s F c)) rfl rfl ?_
          refine aq_al (ok := fun k => k == 0) (v := vI (c (x + 1) i)) rfl rfl (by omega) hFl rfl (by omega) (by omega) rfl ?_
          show am_E _ (129, [vR x, vR o, vI b, vI st, vI t, vI r, vI (w + (-1)), vI i, vI 1, v9], [vI (c (x + 1) i), vR (o + 6 + 2 * K + t.toNat)], aq_h m s F c) _
          have f_8 := hl4 i (by omega) (by omega)
          refine am_E.call rfl rfl rfl (Nat.le_of_ble_eq_true rfl) (rn_J9_abs (by omega) (by omega) _) ?_
          rintro r5 h5 ⟨rfl, v_a, rfl, h_a⟩
          show am_E _ (132, [vR x, vR o, vI b, vI st, vI t, vI r, vI (w + (-1)), vI i, vI 1, v9], [vI v_a, vR (o + 6 + 2 * K + t.toNat)], aq_h m s F c) _
          have e_a : (if c (x + 1) i < 0 then -(c (x + 1) i) else c (x + 1) i) = v_a := by split <;> omega
          refine am_E.go (t2 := (133, [vR x, vR o, vI b, vI st, vI t, vI r, vI (w + (-1)), vI i, vI 1, v9], [vI 1, vI v_a, vR (o + 6 + 2 * K + t.toNat)], aq_h m s F c)) rfl rfl ?_
          refine ae_sub rfl (am_ri (by omega) (by omega)) ?_
          show am_E _ (134, [vR x, vR o, vI b, vI st, vI t, vI r, vI (w + (-1)), vI i, vI 1, v9], [vI (v_a - 1), vR (o + 6 + 2 * K + t.toNat)], aq_h m s F c) _
          refine aq_alt (ok := fun k => k == 0) rfl rfl (by omega) (hNr _ (by omega)) rfl (by omega) (by omega) ?_
          show am_E _ (135, [vR x, vR o, vI b, vI st, vI t, vI r, vI (w + (-1)), vI i, vI 1, v9], [vI (tN ((t.toNat : Nat) : Int) (v_a - 1))], aq_h m s F c) _
          have f_9 := hNt ((t.toNat : Nat) : Int) (v_a - 1) (by omega) (by omega) (by omega) (by omega)
          have e_b : tN ((t.toNat : Nat) : Int) (v_a - 1) = bn_ (n : Int) t (v_a - 1) := by rw [hex.2.2 _ _ (by omega) (by omega) (by omega) (by omega), Int.toNat_of_nonneg h2]
          have e_u := tb_U_a (n := (n : Int)) (x := t) (k := v_a - 1) (by omega) (by omega) h2 (by omega) (by omega) (by omega)
          have e_v := tb_N_a (n := (n : Int)) (x := t) (k := v_a - 1) (by omega) (by omega) h2 (by omega) (by omega) (by omega) (by omega)
          rw [e_b]
          refine am_E.go (t2 := (137, [vR x, vR o, vI b, vI st, vI t, vI r, vI (w + (-1)), vI i, vI 1, vI (bn_ (n : Int) t (v_a - 1))], [], aq_h m s F c)) rfl rfl ?_
          refine am_E.go (t2 := (139, [vR x, vR o, vI b, vI st, vI t, vI r, vI (w + (-1)), vI i, vI 1, vI (bn_ (n : Int) t (v_a - 1))], [vI (bn_ (n : Int) t (v_a - 1))], aq_h m s F c)) rfl rfl ?_
          refine am_E.go (t2 := (142, [vR x, vR o, vI b, vI st, vI t, vI r, vI (w + (-1)), vI i, vI 1, vI (bn_ (n : Int) t (v_a - 1))], [vI 1000, vI (bn_ (n : Int) t (v_a - 1))], aq_h m s F c)) rfl rfl ?_
          refine ae_bin (z := (bn_ (n : Int) t (v_a - 1)) % 1000) rfl rfl (am_rem_e (by omega) (by decide)) ?_
          show am_E _ (143, [vR x, vR o, vI b, vI st, vI t, vI r, vI (w + (-1)), vI i, vI 1, vI (bn_ (n : Int) t (v_a - 1))], [vI ((bn_ (n : Int) t (v_a - 1)) % 1000)], aq_h m s F c) _
          refine am_E.go (t2 := (145, [vR x, vR o, vI b, vI st, vI ((bn_ (n : Int) t (v_a - 1)) % 1000), vI r, vI (w + (-1)), vI i, vI 1, vI (bn_ (n : Int) t (v_a - 1))], [], aq_h m s F c)) rfl rfl ?_
          refine am_E.go (t2 := (147, [vR x, vR o, vI b, vI st, vI ((bn_ (n : Int) t (v_a - 1)) % 1000), vI r, vI (w + (-1)), vI i, vI 1, vI (bn_ (n : Int) t (v_a - 1))], [vI r], aq_h m s F c)) rfl rfl ?_
          refine am_E.go (t2 := (149, [vR x, vR o, vI b, vI st, vI ((bn_ (n : Int) t (v_a - 1)) % 1000), vI r, vI (w + (-1)), vI i, vI 1, vI (bn_ (n : Int) t (v_a - 1))], [vI (bn_ (n : Int) t (v_a - 1)), vI r], aq_h m s F c)) rfl rfl ?_
          refine am_E.go (t2 := (152, [vR x, vR o, vI b, vI st, vI ((bn_ (n : Int) t (v_a - 1)) % 1000), vI r, vI (w + (-1)), vI i, vI 1, vI (bn_ (n : Int) t (v_a - 1))], [vI 1000, vI (bn_ (n : Int) t (v_a - 1)), vI r], aq_h m s F c)) rfl rfl ?_
          refine ae_bin (z := (bn_ (n : Int) t (v_a - 1)) / 1000) rfl rfl (am_div_e (by omega) (by omega) (by decide)) ?_
          show am_E _ (153, [vR x, vR o, vI b, vI st, vI ((bn_ (n : Int) t (v_a - 1)) % 1000), vI r, vI (w + (-1)), vI i, vI 1, vI (bn_ (n : Int) t (v_a - 1))], [vI ((bn_ (n : Int) t (v_a - 1)) / 1000), vI r], aq_h m s F c) _
          refine ae_add rfl (am_ri (by omega) (by omega)) ?_
          show am_E _ (154, [vR x, vR o, vI b, vI st, vI ((bn_ (n : Int) t (v_a - 1)) % 1000), vI r, vI (w + (-1)), vI i, vI 1, vI (bn_ (n : Int) t (v_a - 1))], [vI (r + ((bn_ (n : Int) t (v_a - 1)) / 1000))], aq_h m s F c) _
          refine am_E.go (t2 := (156, [vR x, vR o, vI b, vI st, vI ((bn_ (n : Int) t (v_a - 1)) % 1000), vI (r + ((bn_ (n : Int) t (v_a - 1)) / 1000)), vI (w + (-1)), vI i, vI 1, vI (bn_ (n : Int) t (v_a - 1))], [], aq_h m s F c)) rfl rfl ?_
          refine ae_iinc rfl rfl (am_ri (by omega) (by omega)) ?_
          show am_E _ (159, [vR x, vR o, vI b, vI st, vI ((bn_ (n : Int) t (v_a - 1)) % 1000), vI (r + ((bn_ (n : Int) t (v_a - 1)) / 1000)), vI (w + (-1)), vI (i + 1), vI 1, vI (bn_ (n : Int) t (v_a - 1))], [], aq_h m s F c) _
          refine am_E.go (t2 := (54, [vR x, vR o, vI b, vI st, vI ((bn_ (n : Int) t (v_a - 1)) % 1000), vI (r + ((bn_ (n : Int) t (v_a - 1)) / 1000)), vI (w + (-1)), vI (i + 1), vI 1, vI (bn_ (n : Int) t (v_a - 1))], [], aq_h m s F c)) rfl rfl ?_
          exact qx_addStates_in ⟨hmx, hFx, hFl, hFw⟩ ⟨hl0, hl1, hl2, hl3, hl4⟩ ⟨hm, hn1, hn4, hK, hFo, hFd, hFs⟩ hxn hKn ⟨hL, hGg, hGr, hNg, hNr, hLt, hGt, hNt⟩ ⟨hR, hRt⟩ hex d ((bn_ (n : Int) t (v_a - 1)) % 1000) (r + ((bn_ (n : Int) t (v_a - 1)) / 1000)) (w + (-1)) (i + 1) (vI 1) (vI (bn_ (n : Int) t (v_a - 1))) (by omega) (by omega) (by omega) (by omega) (by omega) (by omega) (by omega) (by omega) (by rw [← hq, sw_, if_pos (show i < c x 1 by omega), if_pos (show am_and (am_shri st i) 1 = 1 by omega), e_a, if_neg (show ¬ c (x + 1) i < 0 by omega)]) (by omega) K0
        · refine am_E.go (t2 := (95, [vR x, vR o, vI b, vI st, vI t, vI r, vI w, vI i, vI 1, v9], [vI 1, vI 1, vI w], aq_h m s F c)) rfl rfl ?_
          refine am_E.go (t2 := (99, [vR x, vR o, vI b, vI st, vI t, vI r, vI w, vI i, vI 1, v9], [vI 1, vI 1, vI w], aq_h m s F c)) rfl rfl ?_
          refine am_E.go (t2 := (102, [vR x, vR o, vI b, vI st, vI t, vI r, vI w, vI i, vI 1, v9], [vI w], aq_h m s F c)) rfl rfl ?_
          refine am_E.go (t2 := (103, [vR x, vR o, vI b, vI st, vI t, vI r, vI w, vI i, vI 1, v9], [vI 1, vI w], aq_h m s F c)) rfl rfl ?_
          refine am_E.go (t2 := (107, [vR x, vR o, vI b, vI st, vI t, vI r, vI w, vI i, vI 1, v9], [vI 1, vI w], aq_h m s F c)) rfl rfl ?_
          refine ae_add rfl (am_ri (by omega) (by omega)) ?_
          show am_E _ (108, [vR x, vR o, vI b, vI st, vI t, vI r, vI w, vI i, vI 1, v9], [vI (w + 1)], aq_h m s F c) _
          refine am_E.go (t2 := (110, [vR x, vR o, vI b, vI st, vI t, vI r, vI (w + 1), vI i, vI 1, v9], [], aq_h m s F c)) rfl rfl ?_
          refine am_E.go (t2 := (112, [vR x, vR o, vI b, vI st, vI t, vI r, vI (w + 1), vI i, vI 1, v9], [vI 1], aq_h m s F c)) rfl rfl ?_
          refine am_E.go (t2 := (115, [vR x, vR o, vI b, vI st, vI t, vI r, vI (w + 1), vI i, vI 1, v9], [], aq_h m s F c)) rfl rfl ?_
          refine am_E.go (t2 := (116, [vR x, vR o, vI b, vI st, vI t, vI r, vI (w + 1), vI i, vI 1, v9], [vR o], aq_h m s F c)) rfl rfl ?_
          refine aq_gf (v := vR (o + 5 + 2 * K)) rfl (by omega) hFo (by decide) rfl ?_
          show am_E _ (119, [vR x, vR o, vI b, vI st, vI t, vI r, vI (w + 1), vI i, vI 1, v9], [vR (o + 5 + 2 * K)], aq_h m s F c) _
          refine am_E.go (t2 := (121, [vR x, vR o, vI b, vI st, vI t, vI r, vI (w + 1), vI i, vI 1, v9], [vI t, vR (o + 5 + 2 * K)], aq_h m s F c)) rfl rfl ?_
          refine aq_al (ok := fun k => decide (3 ≤ k) && decide (k < 7)) (v := vR (o + 6 + 2 * K + t.toNat)) rfl rfl (by omega) hNg rfl (by omega) (by omega) (aq_gi (by omega)) ?_
          show am_E _ (122, [vR x, vR o, vI b, vI st, vI t, vI r, vI (w + 1), vI i, vI 1, v9], [vR (o + 6 + 2 * K + t.toNat)], aq_h m s F c) _
          refine am_E.go (t2 := (123, [vR x, vR o, vI b, vI st, vI t, vI r, vI (w + 1), vI i, vI 1, v9], [vR x, vR (o + 6 + 2 * K + t.toNat)], aq_h m s F c)) rfl rfl ?_
          refine aq_gf (v := vR (x + 1)) rfl (by omega) hFx (by decide) rfl ?_
          show am_E _ (126, [vR x, vR o, vI b, vI st, vI t, vI r, vI (w + 1), vI i, vI 1, v9], [vR (x + 1), vR (o + 6 + 2 * K + t.toNat)], aq_h m s F c) _
          refine am_E.go (t2 := (128, [vR x, vR o, vI b, vI st, vI t, vI r, vI (w + 1), vI i, vI 1, v9], [vI i, vR (x + 1), vR (o + 6 + 2 * K + t.toNat)], aq_h m s F c)) rfl rfl ?_
          refine aq_al (ok := fun k => k == 0) (v := vI (c (x + 1) i)) rfl rfl (by omega) hFl rfl (by omega) (by omega) rfl ?_
          show am_E _ (129, [vR x, vR o, vI b, vI st, vI t, vI r, vI (w + 1), vI i, vI 1, v9], [vI (c (x + 1) i), vR (o + 6 + 2 * K + t.toNat)], aq_h m s F c) _
          have f_10 := hl4 i (by omega) (by omega)
          refine am_E.call rfl rfl rfl (Nat.le_of_ble_eq_true rfl) (rn_J9_abs (by omega) (by omega) _) ?_
          rintro r5 h5 ⟨rfl, v_a, rfl, h_a⟩
          show am_E _ (132, [vR x, vR o, vI b, vI st, vI t, vI r, vI (w + 1), vI i, vI 1, v9], [vI v_a, vR (o + 6 + 2 * K + t.toNat)], aq_h m s F c) _
          have e_a : (if c (x + 1) i < 0 then -(c (x + 1) i) else c (x + 1) i) = v_a := by split <;> omega
          refine am_E.go (t2 := (133, [vR x, vR o, vI b, vI st, vI t, vI r, vI (w + 1), vI i, vI 1, v9], [vI 1, vI v_a, vR (o + 6 + 2 * K + t.toNat)], aq_h m s F c)) rfl rfl ?_
          refine ae_sub rfl (am_ri (by omega) (by omega)) ?_
          show am_E _ (134, [vR x, vR o, vI b, vI st, vI t, vI r, vI (w + 1), vI i, vI 1, v9], [vI (v_a - 1), vR (o + 6 + 2 * K + t.toNat)], aq_h m s F c) _
          refine aq_alt (ok := fun k => k == 0) rfl rfl (by omega) (hNr _ (by omega)) rfl (by omega) (by omega) ?_
          show am_E _ (135, [vR x, vR o, vI b, vI st, vI t, vI r, vI (w + 1), vI i, vI 1, v9], [vI (tN ((t.toNat : Nat) : Int) (v_a - 1))], aq_h m s F c) _
          have f_11 := hNt ((t.toNat : Nat) : Int) (v_a - 1) (by omega) (by omega) (by omega) (by omega)
          have e_b : tN ((t.toNat : Nat) : Int) (v_a - 1) = bn_ (n : Int) t (v_a - 1) := by rw [hex.2.2 _ _ (by omega) (by omega) (by omega) (by omega), Int.toNat_of_nonneg h2]
          have e_u := tb_U_a (n := (n : Int)) (x := t) (k := v_a - 1) (by omega) (by omega) h2 (by omega) (by omega) (by omega)
          have e_v := tb_N_a (n := (n : Int)) (x := t) (k := v_a - 1) (by omega) (by omega) h2 (by omega) (by omega) (by omega) (by omega)
          rw [e_b]
          refine am_E.go (t2 := (137, [vR x, vR o, vI b, vI st, vI t, vI r, vI (w + 1), vI i, vI 1, vI (bn_ (n : Int) t (v_a - 1))], [], aq_h m s F c)) rfl rfl ?_
          refine am_E.go (t2 := (139, [vR x, vR o, vI b, vI st, vI t, vI r, vI (w + 1), vI i, vI 1, vI (bn_ (n : Int) t (v_a - 1))], [vI (bn_ (n : Int) t (v_a - 1))], aq_h m s F c)) rfl rfl ?_
          refine am_E.go (t2 := (142, [vR x, vR o, vI b, vI st, vI t, vI r, vI (w + 1), vI i, vI 1, vI (bn_ (n : Int) t (v_a - 1))], [vI 1000, vI (bn_ (n : Int) t (v_a - 1))], aq_h m s F c)) rfl rfl ?_
          refine ae_bin (z := (bn_ (n : Int) t (v_a - 1)) % 1000) rfl rfl (am_rem_e (by omega) (by decide)) ?_
          show am_E _ (143, [vR x, vR o, vI b, vI st, vI t, vI r, vI (w + 1), vI i, vI 1, vI (bn_ (n : Int) t (v_a - 1))], [vI ((bn_ (n : Int) t (v_a - 1)) % 1000)], aq_h m s F c) _
          refine am_E.go (t2 := (145, [vR x, vR o, vI b, vI st, vI ((bn_ (n : Int) t (v_a - 1)) % 1000), vI r, vI (w + 1), vI i, vI 1, vI (bn_ (n : Int) t (v_a - 1))], [], aq_h m s F c)) rfl rfl ?_
          refine am_E.go (t2 := (147, [vR x, vR o, vI b, vI st, vI ((bn_ (n : Int) t (v_a - 1)) % 1000), vI r, vI (w + 1), vI i, vI 1, vI (bn_ (n : Int) t (v_a - 1))], [vI r], aq_h m s F c)) rfl rfl ?_
          refine am_E.go (t2 := (149, [vR x, vR o, vI b, vI st, vI ((bn_ (n : Int) t (v_a - 1)) % 1000), vI r, vI (w + 1), vI i, vI 1, vI (bn_ (n : Int) t (v_a - 1))], [vI (bn_ (n : Int) t (v_a - 1)), vI r], aq_h m s F c)) rfl rfl ?_
          refine am_E.go (t2 := (152, [vR x, vR o, vI b, vI st, vI ((bn_ (n : Int) t (v_a - 1)) % 1000), vI r, vI (w + 1), vI i, vI 1, vI (bn_ (n : Int) t (v_a - 1))], [vI 1000, vI (bn_ (n : Int) t (v_a - 1)), vI r], aq_h m s F c)) rfl rfl ?_
          refine ae_bin (z := (bn_ (n : Int) t (v_a - 1)) / 1000) rfl rfl (am_div_e (by omega) (by omega) (by decide)) ?_
          show am_E _ (153, [vR x, vR o, vI b, vI st, vI ((bn_ (n : Int) t (v_a - 1)) % 1000), vI r, vI (w + 1), vI i, vI 1, vI (bn_ (n : Int) t (v_a - 1))], [vI ((bn_ (n : Int) t (v_a - 1)) / 1000), vI r], aq_h m s F c) _
          refine ae_add rfl (am_ri (by omega) (by omega)) ?_
          show am_E _ (154, [vR x, vR o, vI b, vI st, vI ((bn_ (n : Int) t (v_a - 1)) % 1000), vI r, vI (w + 1), vI i, vI 1, vI (bn_ (n : Int) t (v_a - 1))], [vI (r + ((bn_ (n : Int) t (v_a - 1)) / 1000))], aq_h m s F c) _
          refine am_E.go (t2 := (156, [vR x, vR o, vI b, vI st, vI ((bn_ (n : Int) t (v_a - 1)) % 1000), vI (r + ((bn_ (n : Int) t (v_a - 1)) / 1000)), vI (w + 1), vI i, vI 1, vI (bn_ (n : Int) t (v_a - 1))], [], aq_h m s F c)) rfl rfl ?_
          refine ae_iinc rfl rfl (am_ri (by omega) (by omega)) ?_
          show am_E _ (159, [vR x, vR o, vI b, vI st, vI ((bn_ (n : Int) t (v_a - 1)) % 1000), vI (r + ((bn_ (n : Int) t (v_a - 1)) / 1000)), vI (w + 1), vI (i + 1), vI 1, vI (bn_ (n : Int) t (v_a - 1))], [], aq_h m s F c) _
          refine am_E.go (t2 := (54, [vR x, vR o, vI b, vI st, vI ((bn_ (n : Int) t (v_a - 1)) % 1000), vI (r + ((bn_ (n : Int) t (v_a - 1)) / 1000)), vI (w + 1), vI (i + 1), vI 1, vI (bn_ (n : Int) t (v_a - 1))], [], aq_h m s F c)) rfl rfl ?_
          exact qx_addStates_in ⟨hmx, hFx, hFl, hFw⟩ ⟨hl0, hl1, hl2, hl3, hl4⟩ ⟨hm, hn1, hn4, hK, hFo, hFd, hFs⟩ hxn hKn ⟨hL, hGg, hGr, hNg, hNr, hLt, hGt, hNt⟩ ⟨hR, hRt⟩ hex d ((bn_ (n : Int) t (v_a - 1)) % 1000) (r + ((bn_ (n : Int) t (v_a - 1)) / 1000)) (w + 1) (i + 1) (vI 1) (vI (bn_ (n : Int) t (v_a - 1))) (by omega) (by omega) (by omega) (by omega) (by omega) (by omega) (by omega) (by omega) (by rw [← hq, sw_, if_pos (show i < c x 1 by omega), if_pos (show am_and (am_shri st i) 1 = 1 by omega), e_a, if_pos (show c (x + 1) i < 0 by omega)]) (by omega) K0

theorem qx_addStates_out {m s : Nat} {F : aq_F} {c0 : aq_C} {S : Nat → Prop} {x : Nat} (hX : cr_0 m F x) (hSw : S (x + 2)) (hnx : ¬ S x) (hny : ¬ S (x + 1)) (hl : cr_l x c0) {o n K : Nat} (hB : bx_0 m F o n K) (hSd : S (o + 6 + 3 * K)) (hSs : S (o + 7 + 3 * K)) (hxn : c0 x 0 = (n : Int)) (hdx : o + 6 + 3 * K ≠ x + 2) (hsx : o + 7 + 3 * K ≠ x + 2) (hKn : (K : Int) = bx_K (n : Int)) {tL : Int → Int} {tG tN : Int → Int → Int} (hT : bx_w F o n K tL tG tN) {tR : Int → Int} (hRr : bx_r F o K tR) (hex : bx_e n K tG tN tR tL) {b : Int} (hb : b = fd_ (n : Int) 0) (hb0 : 0 ≤ b) (hbK : b < (K : Int)) {V : Int → Int} : ∀ (d : Nat) (st : Int) (v4 : am_V) (v5 : am_V) (v6 : am_V) (v7 : am_V) (v8 : am_V) (v9 : am_V) (c : aq_C) (hs : aq_sm S c0 c) (h0 : 0 ≤ st) (h1 : st ≤ 256) (hr : aq_rg (o + 6 + 3 * K) (2 * (n : Int)) 0 (2 * (n : Int)) c) (hr81 : ∀ i, 0 ≤ i → i < 81 → am_r32 (c (x + 2) i)) (hV : ∀ k, -40 ≤ k → k ≤ 40 → pw_f (c0 (x + 1)) (n : Int) (c0 x 1) k d st (c (x + 2) (k + 40)) = V k) (hd : 256 - st < (d : Int)), am_E ac_X1_addStates (32, [vR x, vR o, vI b, vI st, v4, v5, v6, v7, v8, v9], [], aq_h m s F c) (aq_Z m s F S c0 (fun r d => r = none ∧ aq_rg (o + 6 + 3 * K) (2 * (n : Int)) 0 (2 * (n : Int)) d ∧ ∀ k, -40 ≤ k → k ≤ 40 → d (x + 2) (k + 40) = V k))
  | 0, st, v4, v5, v6, v7, v8, v9, c, hs, h0, h1, hr, hr81, hV, hd => by exfalso; omega
  | d + 1, st, v4, v5, v6, v7, v8, v9, c, hs, h0, h1, hr, hr81, hV, hd => by
    obtain ⟨hmx, hFx, hFl, hFw⟩ := hX
    obtain ⟨hm, hn1, hn4, hK, hFo, hFd, hFs⟩ := hB
    obtain ⟨hL, hGg, hGr, hNg, hNr, hLt, hGt, hNt⟩ := hT
    obtain ⟨hR, hRt⟩ := hRr
    obtain ⟨hl0, hl1, hl2, hl3, hl4⟩ := id hl
    refine am_E.go (t2 := (33, [vR x, vR o, vI b, vI st, v4, v5, v6, v7, v8, v9], [vI st], aq_h m s F c)) rfl rfl ?_
    refine am_E.go (t2 := (34, [vR x, vR o, vI b, vI st, v4, v5, v6, v7, v8, v9], [vI 1, vI st], aq_h m s F c)) rfl rfl ?_
    refine am_E.go (t2 := (35, [vR x, vR o, vI b, vI st, v4, v5, v6, v7, v8, v9], [vR x, vI 1, vI st], aq_h m s F c)) rfl rfl ?_
    refine aq_gf (v := vI (c x 1)) rfl (by omega) hFx (by decide) rfl ?_
    show am_E _ (38, [vR x, vR o, vI b, vI st, v4, v5, v6, v7, v8, v9], [vI (c x 1), vI 1, vI st], aq_h m s F c) _
    have f_1 := hs x hnx 1
    have eL : c (x + 1) = c0 (x + 1) := funext (hs _ hny)
    have ez : c x 1 = c0 x 1 := hs x hnx 1
    have en : c x 0 = c0 x 0 := hs x hnx 0
    have hlc : cr_l x c := cr_lc (hs _ hnx) (hs _ hny) hl
    have e9 := am_shi1 (k := (c x 1)) (by omega) (by omega)
    refine ae_bin (z := am_shi 1 (c x 1)) rfl rfl rfl ?_
    have e_sh : am_shi 1 (c x 1) = am_shi 1 (c0 x 1) := by rw [ez]
    refine ae_icmp rfl (fun (q_2 : (am_shi 1 (c x 1)) ≤ st) => ?_) (fun (q_2 : st < (am_shi 1 (c x 1))) => ?_)
    · refine am_E.ret rfl rfl ?_
      refine ⟨_, rfl, hs, rfl, hr, fun k k0 k1 => ?_⟩
      have e5 := hV k k0 k1
      rw [pw_f, if_neg (show ¬ st < am_shi 1 (c0 x 1) by omega)] at e5
      exact e5
    · refine am_E.go (t2 := (43, [vR x, vR o, vI b, vI st, v4, v5, v6, v7, v8, v9], [vI b], aq_h m s F c)) rfl rfl ?_
      refine am_E.go (t2 := (45, [vR x, vR o, vI b, vI st, vI b, v5, v6, v7, v8, v9], [], aq_h m s F c)) rfl rfl ?_
      refine am_E.go (t2 := (46, [vR x, vR o, vI b, vI st, vI b, v5, v6, v7, v8, v9], [vI 0], aq_h m s F c)) rfl rfl ?_
      refine am_E.go (t2 := (48, [vR x, vR o, vI b, vI st, vI b, vI 0, v6, v7, v8, v9], [], aq_h m s F c)) rfl rfl ?_
      refine am_E.go (t2 := (49, [vR x, vR o, vI b, vI st, vI b, vI 0, v6, v7, v8, v9], [vI 0], aq_h m s F c)) rfl rfl ?_
      refine am_E.go (t2 := (51, [vR x, vR o, vI b, vI st, vI b, vI 0, vI 0, v7, v8, v9], [], aq_h m s F c)) rfl rfl ?_
      refine am_E.go (t2 := (52, [vR x, vR o, vI b, vI st, vI b, vI 0, vI 0, v7, v8, v9], [vI 0], aq_h m s F c)) rfl rfl ?_
      refine am_E.go (t2 := (54, [vR x, vR o, vI b, vI st, vI b, vI 0, vI 0, vI 0, v8, v9], [], aq_h m s F c)) rfl rfl ?_
      refine qx_addStates_in ⟨hmx, hFx, hFl, hFw⟩ hlc ⟨hm, hn1, hn4, hK, hFo, hFd, hFs⟩ (by omega) hKn ⟨hL, hGg, hGr, hNg, hNr, hLt, hGt, hNt⟩ ⟨hR, hRt⟩ hex 9 b 0 0 0 (v8) (v9) (by omega) (by omega) (by omega) (by omega) (by omega) (by omega) (by omega) (by omega) rfl (by omega) ?_
      · intro t2_54 r2_54 w2_54 i2_54 v82_54 v92_54 f1_54 f2_54 f3_54 f4_54 f5_54 f6_54 fq_54
        have e_rg := (hex.1 t2_54 f1_54 f2_54).1
        have e_gb := tb_G_a (n := (n : Int)) (x := t2_54) (by omega) (by omega) f1_54 (by omega)
        have e_T : pB (st_t (n : Int) (st_ (c0 (x + 1)) (n : Int) (c0 x 1) st)).toNat = pB (r2_54 + tR t2_54 - 1).toNat ∧ (st_ (c0 (x + 1)) (n : Int) (c0 x 1) st).2.2 = w2_54 := by
          have e8 : st_ (c0 (x + 1)) (n : Int) (c0 x 1) st = (t2_54, r2_54, w2_54) := by unfold st_; rw [← eL, ← ez, ← hb]; exact fq_54
          rw [e8]
          exact ⟨by unfold st_t; rw [e_rg], rfl⟩
        refine am_E.go (t2 := (163, [vR x, vR o, vI b, vI st, vI t2_54, vI r2_54, vI w2_54, vI i2_54, v82_54, v92_54], [vR x], aq_h m s F c)) rfl rfl ?_
        refine am_E.go (t2 := (165, [vR x, vR o, vI b, vI st, vI t2_54, vI r2_54, vI w2_54, vI i2_54, v82_54, v92_54], [vI w2_54, vR x], aq_h m s F c)) rfl rfl ?_
        refine am_E.go (t2 := (167, [vR x, vR o, vI b, vI st, vI t2_54, vI r2_54, vI w2_54, vI i2_54, v82_54, v92_54], [vI r2_54, vI w2_54, vR x], aq_h m s F c)) rfl rfl ?_
        refine am_E.go (t2 := (168, [vR x, vR o, vI b, vI st, vI t2_54, vI r2_54, vI w2_54, vI i2_54, v82_54, v92_54], [vR o, vI r2_54, vI w2_54, vR x], aq_h m s F c)) rfl rfl ?_
        refine aq_gf (v := vR (o + 2 + K)) rfl (by omega) hFo (by decide) rfl ?_
        show am_E _ (171, [vR x, vR o, vI b, vI st, vI t2_54, vI r2_54, vI w2_54, vI i2_54, v82_54, v92_54], [vR (o + 2 + K), vI r2_54, vI w2_54, vR x], aq_h m s F c) _
        refine am_E.go (t2 := (173, [vR x, vR o, vI b, vI st, vI t2_54, vI r2_54, vI w2_54, vI i2_54, v82_54, v92_54], [vI t2_54, vR (o + 2 + K), vI r2_54, vI w2_54, vR x], aq_h m s F c)) rfl rfl ?_
        refine aq_alt (ok := fun k => k == 0) rfl rfl (by omega) hR rfl (by omega) (by omega) ?_
        show am_E _ (174, [vR x, vR o, vI b, vI st, vI t2_54, vI r2_54, vI w2_54, vI i2_54, v82_54, v92_54], [vI (tR t2_54), vI r2_54, vI w2_54, vR x], aq_h m s F c) _
        refine ae_add rfl (am_ri (by omega) (by omega)) ?_
        show am_E _ (175, [vR x, vR o, vI b, vI st, vI t2_54, vI r2_54, vI w2_54, vI i2_54, v82_54, v92_54], [vI (r2_54 + (tR t2_54)), vI w2_54, vR x], aq_h m s F c) _
        refine am_E.go (t2 := (176, [vR x, vR o, vI b, vI st, vI t2_54, vI r2_54, vI w2_54, vI i2_54, v82_54, v92_54], [vI 1, vI (r2_54 + (tR t2_54)), vI w2_54, vR x], aq_h m s F c)) rfl rfl ?_
        refine ae_sub rfl (am_ri (by omega) (by omega)) ?_
        show am_E _ (177, [vR x, vR o, vI b, vI st, vI t2_54, vI r2_54, vI w2_54, vI i2_54, v82_54, v92_54], [vI ((r2_54 + (tR t2_54)) - 1), vI w2_54, vR x], aq_h m s F c) _
        refine aq_callv (y := 3) (as2 := [vI w2_54, vI ((r2_54 + (tR t2_54)) - 1)]) (rest := []) rfl rfl (by decide) (Nat.le_of_ble_eq_true rfl) rfl rfl (Nat.le_of_ble_eq_true rfl) (by omega) hFx rfl (Nat.le_of_ble_eq_true rfl) (qx_addState ⟨hmx, hFx, hFl, hFw⟩ (by omega) (by omega) (by omega) (by omega) hr81) ?_
        rintro r5 h5 ⟨c_a, rfl, s_a, rfl, v_a⟩
        show am_E _ (180, [vR x, vR o, vI b, vI st, vI t2_54, vI r2_54, vI w2_54, vI i2_54, v82_54, v92_54], [], aq_h m s F c_a) _
        refine ae_iinc rfl rfl (am_ri (by omega) (by omega)) ?_
        show am_E _ (183, [vR x, vR o, vI b, vI (st + 1), vI t2_54, vI r2_54, vI w2_54, vI i2_54, v82_54, v92_54], [], aq_h m s F c_a) _
        refine am_E.go (t2 := (32, [vR x, vR o, vI b, vI (st + 1), vI t2_54, vI r2_54, vI w2_54, vI i2_54, v82_54, v92_54], [], aq_h m s F c_a)) rfl rfl ?_
        exact qx_addStates_out ⟨hmx, hFx, hFl, hFw⟩ hSw hnx hny hl ⟨hm, hn1, hn4, hK, hFo, hFd, hFs⟩ hSd hSs hxn hdx hsx hKn ⟨hL, hGg, hGr, hNg, hNr, hLt, hGt, hNt⟩ ⟨hR, hRt⟩ hex hb hb0 hbK d (st + 1) (vI t2_54) (vI r2_54) (vI w2_54) (vI i2_54) (v82_54) (v92_54) c_a (aq_smt hs (aq_smi s_a (fun a h => by rw [h]; exact hSw))) (by omega) (by omega) (aq_rgs hr s_a hdx) (fun i i0 i1 => by have e6 := v_a (i - 40) (by omega) (by omega); rw [show i - 40 + 40 = i by omega] at e6; rw [e6]; exact am_wr32 _) (fun k k0 k1 => by
      have e5 := hV k k0 k1
      rw [pw_f, if_pos (show st < am_shi 1 (c0 x 1) by omega)] at e5
      rw [v_a k k0 k1, ← e5, e_T.1, e_T.2]) (by omega)

/-- the sum that is kept is the row's -/
def cr_p (x : Nat) (c : aq_C) : Prop := c x 4 ≠ 0 → ∀ k, -40 ≤ k → k ≤ 40 → c (x + 2) (k + 40) = pw_v (c (x + 1)) (c x 0) (c x 1) k

theorem qx_addStates_z {m s : Nat} {F : aq_F} {c0 : aq_C} {S : Nat → Prop} {x : Nat} (hX : cr_0 m F x) (hSw : S (x + 2)) (hnx : ¬ S x) (hny : ¬ S (x + 1)) (hl : cr_l x c0) {o n K : Nat} (hB : bx_0 m F o n K) (hSd : S (o + 6 + 3 * K)) (hSs : S (o + 7 + 3 * K)) (hxn : c0 x 0 = (n : Int)) (hdx : o + 6 + 3 * K ≠ x + 2) (hsx : o + 7 + 3 * K ≠ x + 2) (hKn : (K : Int) = bx_K (n : Int)) {tL : Int → Int} {tG tN : Int → Int → Int} (hT : bx_w F o n K tL tG tN) {tR : Int → Int} (hRr : bx_r F o K tR) (hex : bx_e n K tG tN tR tL) {Z : Option am_V → am_H → Prop} : ∀ (d : Nat) (k : Int) (v3 : am_V) (v4 : am_V) (v5 : am_V) (v6 : am_V) (v7 : am_V) (v8 : am_V) (v9 : am_V) (c : aq_C) (hs : aq_sm S c0 c) (h0 : 0 ≤ k) (h1 : k ≤ 81) (hz : ∀ i, 0 ≤ i → i < k → c (x + 2) i = 0) (hr : aq_rg (o + 6 + 3 * K) (2 * (n : Int)) 0 (2 * (n : Int)) c) (hd : 81 - k < (d : Int)) (K0 : ∀ (k2 : Int) (c2 : aq_C) (hs2 : aq_sm S c0 c2) (hz2 : ∀ i, 0 ≤ i → i < 81 → c2 (x + 2) i = 0) (hr2 : aq_rg (o + 6 + 3 * K) (2 * (n : Int)) 0 (2 * (n : Int)) c2), am_E ac_X1_addStates (24, [vR x, vR o, vI k2, v3, v4, v5, v6, v7, v8, v9], [], aq_h m s F c2) Z), am_E ac_X1_addStates (2, [vR x, vR o, vI k, v3, v4, v5, v6, v7, v8, v9], [], aq_h m s F c) Z
  | 0, k, v3, v4, v5, v6, v7, v8, v9, c, hs, h0, h1, hz, hr, hd, K0 => by exfalso; omega
  | d + 1, k, v3, v4, v5, v6, v7, v8, v9, c, hs, h0, h1, hz, hr, hd, K0 => by
    obtain ⟨hmx, hFx, hFl, hFw⟩ := hX
    obtain ⟨hm, hn1, hn4, hK, hFo, hFd, hFs⟩ := hB
    obtain ⟨hL, hGg, hGr, hNg, hNr, hLt, hGt, hNt⟩ := hT
    obtain ⟨hR, hRt⟩ := hRr
    obtain ⟨hl0, hl1, hl2, hl3, hl4⟩ := id hl
    refine am_E.go (t2 := (3, [vR x, vR o, vI k, v3, v4, v5, v6, v7, v8, v9], [vI k], aq_h m s F c)) rfl rfl ?_
    refine am_E.go (t2 := (4, [vR x, vR o, vI k, v3, v4, v5, v6, v7, v8, v9], [vR x, vI k], aq_h m s F c)) rfl rfl ?_
    refine aq_gf (v := vR (x + 2)) rfl (by omega) hFx (by decide) rfl ?_
    show am_E _ (7, [vR x, vR o, vI k, v3, v4, v5, v6, v7, v8, v9], [vR (x + 2), vI k], aq_h m s F c) _
    refine aq_len rfl (by omega) hFw (by decide) ?_
    show am_E _ (8, [vR x, vR o, vI k, v3, v4, v5, v6, v7, v8, v9], [vI ((81 : Nat) : Int), vI k], aq_h m s F c) _
    refine ae_icmp rfl (fun (q_1 : ((81 : Nat) : Int) ≤ k) => ?_) (fun (q_1 : k < ((81 : Nat) : Int)) => ?_)
    · exact K0 k c hs (fun i i0 i1 => hz i i0 (by omega)) hr
    · refine am_E.go (t2 := (12, [vR x, vR o, vI k, v3, v4, v5, v6, v7, v8, v9], [vR x], aq_h m s F c)) rfl rfl ?_
      refine aq_gf (v := vR (x + 2)) rfl (by omega) hFx (by decide) rfl ?_
      show am_E _ (15, [vR x, vR o, vI k, v3, v4, v5, v6, v7, v8, v9], [vR (x + 2)], aq_h m s F c) _
      refine am_E.go (t2 := (16, [vR x, vR o, vI k, v3, v4, v5, v6, v7, v8, v9], [vI k, vR (x + 2)], aq_h m s F c)) rfl rfl ?_
      refine am_E.go (t2 := (17, [vR x, vR o, vI k, v3, v4, v5, v6, v7, v8, v9], [vI 0, vI k, vR (x + 2)], aq_h m s F c)) rfl rfl ?_
      refine aq_as (kd := 0) rfl rfl (by omega) hFw (by omega) (by omega) rfl rfl ?_
      show am_E _ (18, [vR x, vR o, vI k, v3, v4, v5, v6, v7, v8, v9], [], aq_h m s F (aq_u c (x + 2) k 0)) _
      generalize hdc_2 : aq_u c (x + 2) k 0 = c_2
      have sc_2 := aq_smu hs hdc_2 hSw
      have hdrc_2 := aq_rgn hr hdc_2 hdx
      refine ae_iinc rfl rfl (am_ri (by omega) (by omega)) ?_
      show am_E _ (21, [vR x, vR o, vI (k + 1), v3, v4, v5, v6, v7, v8, v9], [], aq_h m s F c_2) _
      refine am_E.go (t2 := (2, [vR x, vR o, vI (k + 1), v3, v4, v5, v6, v7, v8, v9], [], aq_h m s F c_2)) rfl rfl ?_
      exact qx_addStates_z ⟨hmx, hFx, hFl, hFw⟩ hSw hnx hny hl ⟨hm, hn1, hn4, hK, hFo, hFd, hFs⟩ hSd hSs hxn hdx hsx hKn ⟨hL, hGg, hGr, hNg, hNr, hLt, hGt, hNt⟩ ⟨hR, hRt⟩ hex d (k + 1) (v3) (v4) (v5) (v6) (v7) (v8) (v9) c_2 sc_2 (by omega) (by omega) (fun i i0 i1 => by by_cases e : i = k; (rw [e, ← hdc_2, aq_us]); rw [← hdc_2, aq_un (Or.inr e)]; exact hz i i0 (by omega)) hdrc_2 (by omega) K0

theorem qx_addStates {m s : Nat} {F : aq_F} {c : aq_C} {S : Nat → Prop} {x : Nat} (hX : cr_0 m F x) (hSw : S (x + 2)) (hnx : ¬ S x) (hny : ¬ S (x + 1)) (hl : cr_l x c) {o n K : Nat} (hB : bx_0 m F o n K) (hSd : S (o + 6 + 3 * K)) (hSs : S (o + 7 + 3 * K)) (hxn : c x 0 = (n : Int)) (hdx : o + 6 + 3 * K ≠ x + 2) (hsx : o + 7 + 3 * K ≠ x + 2) (hKn : (K : Int) = bx_K (n : Int)) {tL : Int → Int} {tG tN : Int → Int → Int} (hT : bx_w F o n K tL tG tN) {tR : Int → Int} (hRr : bx_r F o K tR) (hex : bx_e n K tG tN tR tL) (hst : 0 ≤ nu_o (bx_ol n 0) (2 * (n : Int)) 9 0 0 (2 * (n : Int) - 1) ∧ nu_o (bx_ol n 0) (2 * (n : Int)) 9 0 0 (2 * (n : Int) - 1) < (K : Int)) (hr : aq_rg (o + 6 + 3 * K) (2 * (n : Int)) 0 (2 * (n : Int)) c) : am_E ac_X1_addStates (0, [vR x, vR o, vU, vU, vU, vU, vU, vU, vU, vU], [], aq_h m s F c) (aq_Z m s F S c (fun r d => r = none ∧ aq_rg (o + 6 + 3 * K) (2 * (n : Int)) 0 (2 * (n : Int)) d ∧ ∀ k, -40 ≤ k → k ≤ 40 → d (x + 2) (k + 40) = pw_v (c (x + 1)) (n : Int) (c x 1) k)) := by
  obtain ⟨hmx, hFx, hFl, hFw⟩ := hX
  obtain ⟨hm, hn1, hn4, hK, hFo, hFd, hFs⟩ := hB
  obtain ⟨hL, hGg, hGr, hNg, hNr, hLt, hGt, hNt⟩ := hT
  obtain ⟨hR, hRt⟩ := hRr
  obtain ⟨hl0, hl1, hl2, hl3, hl4⟩ := id hl
  refine am_E.go (t2 := (1, [vR x, vR o, vU, vU, vU, vU, vU, vU, vU, vU], [vI 0], aq_h m s F c)) rfl rfl ?_
  refine am_E.go (t2 := (2, [vR x, vR o, vI 0, vU, vU, vU, vU, vU, vU, vU], [], aq_h m s F c)) rfl rfl ?_
  refine qx_addStates_z ⟨hmx, hFx, hFl, hFw⟩ hSw hnx hny hl ⟨hm, hn1, hn4, hK, hFo, hFd, hFs⟩ hSd hSs hxn hdx hsx hKn ⟨hL, hGg, hGr, hNg, hNr, hLt, hGt, hNt⟩ ⟨hR, hRt⟩ hex 83 0 (vU) (vU) (vU) (vU) (vU) (vU) (vU) c (aq_sm0 (c := c) (S := S)) (by omega) (by omega) (fun i i0 i1 => absurd i1 (by omega)) hr (by omega) ?_
  · intro k2_2 c_1 sc_1 hz2_2 hr2_2
    refine am_E.go (t2 := (25, [vR x, vR o, vI k2_2, (vU), (vU), (vU), (vU), (vU), (vU), (vU)], [vR o], aq_h m s F c_1)) rfl rfl ?_
    refine am_E.go (t2 := (26, [vR x, vR o, vI k2_2, (vU), (vU), (vU), (vU), (vU), (vU), (vU)], [vI 0, vR o], aq_h m s F c_1)) rfl rfl ?_
    refine aq_callv (y := 2) (as2 := [vI 0]) (rest := []) rfl rfl (by decide) (Nat.le_of_ble_eq_true rfl) rfl rfl (Nat.le_of_ble_eq_true rfl) (by omega) hFo rfl (Nat.le_of_ble_eq_true rfl) (qn_X0_ofLetter (S := fun a => a = o + 6 + 3 * K ∨ a = o + 7 + 3 * K) ⟨hm, hn1, hn4, hK, hFo, hFd, hFs⟩ (Or.inl rfl) (Or.inr rfl) hr2_2) ?_
    rintro r5 h5 ⟨c_o, rfl, s_o, hr_o, h_o⟩
    rcases h_o with ⟨hx, _⟩ | ⟨_, hy, rfl⟩
    · exact absurd (Or.inl rfl) hx
    have e7 := nu_oc hy (fun i h1 h2 => by have := hr_o i h1 h2; omega) 9 0 0 (2 * (n : Int) - 1) (by omega)
    have hz_o : ∀ i, 0 ≤ i → i < 81 → c_o (x + 2) i = 0 := fun i i0 i1 => by rw [s_o (x + 2) (by omega) i]; exact hz2_2 i i0 i1
    show am_E _ (29, [vR x, vR o, vI k2_2, (vU), (vU), (vU), (vU), (vU), (vU), (vU)], [vI (nu_o (c_o (o + 6 + 3 * K)) (2 * (n : Int)) 9 0 0 (2 * (n : Int) - 1))], aq_h m s F c_o) _
    refine am_E.go (t2 := (30, [vR x, vR o, vI (nu_o (c_o (o + 6 + 3 * K)) (2 * (n : Int)) 9 0 0 (2 * (n : Int) - 1)), (vU), (vU), (vU), (vU), (vU), (vU), (vU)], [], aq_h m s F c_o)) rfl rfl ?_
    refine am_E.go (t2 := (31, [vR x, vR o, vI (nu_o (c_o (o + 6 + 3 * K)) (2 * (n : Int)) 9 0 0 (2 * (n : Int) - 1)), (vU), (vU), (vU), (vU), (vU), (vU), (vU)], [vI 0], aq_h m s F c_o)) rfl rfl ?_
    refine am_E.go (t2 := (32, [vR x, vR o, vI (nu_o (c_o (o + 6 + 3 * K)) (2 * (n : Int)) 9 0 0 (2 * (n : Int) - 1)), vI 0, (vU), (vU), (vU), (vU), (vU), (vU)], [], aq_h m s F c_o)) rfl rfl ?_
    exact qx_addStates_out ⟨hmx, hFx, hFl, hFw⟩ hSw hnx hny hl ⟨hm, hn1, hn4, hK, hFo, hFd, hFs⟩ hSd hSs hxn hdx hsx hKn ⟨hL, hGg, hGr, hNg, hNr, hLt, hGt, hNt⟩ ⟨hR, hRt⟩ hex (by rw [e7]; exact (tb_0 n (by omega) (by omega)).1.symm) (by omega) (by omega) (V := fun k => pw_v (c (x + 1)) (n : Int) (c x 1) k) 258 0 ((vU)) ((vU)) ((vU)) ((vU)) ((vU)) ((vU)) c_o (aq_smt sc_1 (aq_smi s_o (fun a h => by rcases h with h | h <;> rw [h] <;> assumption))) (by omega) (by omega) hr_o (fun i i0 i1 => by rw [hz_o i i0 i1]; exact am_ri (by omega) (by omega)) (fun k k0 k1 => by rw [hz_o (k + 40) (by omega) (by omega)]; rfl) (by omega)

theorem qx_wholeAt {m s : Nat} {F : aq_F} {c : aq_C} {S : Nat → Prop} {x : Nat} (hX : cr_0 m F x) (hSw : S (x + 2)) (hnx : ¬ S x) (hny : ¬ S (x + 1)) (hl : cr_l x c) {o n K : Nat} (hB : bx_0 m F o n K) (hSd : S (o + 6 + 3 * K)) (hSs : S (o + 7 + 3 * K)) (hxn : c x 0 = (n : Int)) (hdx : o + 6 + 3 * K ≠ x + 2) (hsx : o + 7 + 3 * K ≠ x + 2) (hKn : (K : Int) = bx_K (n : Int)) {tL : Int → Int} {tG tN : Int → Int → Int} (hT : bx_w F o n K tL tG tN) {tR : Int → Int} (hRr : bx_r F o K tR) (hex : bx_e n K tG tN tR tL) (hst : 0 ≤ nu_o (bx_ol n 0) (2 * (n : Int)) 9 0 0 (2 * (n : Int) - 1) ∧ nu_o (bx_ol n 0) (2 * (n : Int)) 9 0 0 (2 * (n : Int) - 1) < (K : Int)) (hr : aq_rg (o + 6 + 3 * K) (2 * (n : Int)) 0 (2 * (n : Int)) c) (hc : cr_p x c) {k : Int} (hk0 : -40 ≤ k) (hk1 : k ≤ 40) : am_E ac_X1_wholeAt (0, [vR x, vI k, vR o], [], aq_h m s F c) (aq_Z m s F (fun a => S a ∨ a = x) c (fun r d => r = some (vI (pw_v (c (x + 1)) (c x 0) (c x 1) k)) ∧ aq_rg (o + 6 + 3 * K) (2 * (n : Int)) 0 (2 * (n : Int)) d ∧ d x 0 = c x 0 ∧ d x 1 = c x 1 ∧ (∀ i, d (x + 1) i = c (x + 1) i) ∧ cr_p x d)) := by
  obtain ⟨hmx, hFx, hFl, hFw⟩ := hX
  obtain ⟨hm, hn1, hn4, hK, hFo, hFd, hFs⟩ := hB
  obtain ⟨hL, hGg, hGr, hNg, hNr, hLt, hGt, hNt⟩ := hT
  obtain ⟨hR, hRt⟩ := hRr
  obtain ⟨hl0, hl1, hl2, hl3, hl4⟩ := id hl
  have hdo : o + 6 + 3 * K ≠ x := fun e => hnx (by rw [← e]; exact hSd)
  refine am_E.go (t2 := (1, [vR x, vI k, vR o], [vR x], aq_h m s F c)) rfl rfl ?_
  refine aq_gf (v := vI (c x 4)) rfl (by omega) hFx (by decide) rfl ?_
  show am_E _ (4, [vR x, vI k, vR o], [vI (c x 4)], aq_h m s F c) _
  skip
  refine ae_if0 rfl (fun (q_2 : (c x 4) ≠ 0) => ?_) (fun (q_2 : (c x 4) = 0) => ?_)
  · refine am_E.go (t2 := (18, [vR x, vI k, vR o], [vR x], aq_h m s F c)) rfl rfl ?_
    refine aq_gf (v := vR (x + 2)) rfl (by omega) hFx (by decide) rfl ?_
    show am_E _ (21, [vR x, vI k, vR o], [vR (x + 2)], aq_h m s F c) _
    refine am_E.go (t2 := (22, [vR x, vI k, vR o], [vI k, vR (x + 2)], aq_h m s F c)) rfl rfl ?_
    refine am_E.go (t2 := (24, [vR x, vI k, vR o], [vI 40, vI k, vR (x + 2)], aq_h m s F c)) rfl rfl ?_
    refine ae_add rfl (am_ri (by omega) (by omega)) ?_
    show am_E _ (25, [vR x, vI k, vR o], [vI (k + 40), vR (x + 2)], aq_h m s F c) _
    refine aq_al (ok := fun k => k == 0) (v := vI (c (x + 2) (k + 40))) rfl rfl (by omega) hFw rfl (by omega) (by omega) rfl ?_
    show am_E _ (26, [vR x, vI k, vR o], [vI (c (x + 2) (k + 40))], aq_h m s F c) _
    refine am_E.ret rfl rfl ?_
    have e1 := hc (by omega) k hk0 hk1
    refine ⟨_, rfl, aq_sm0, ?_, hr, rfl, rfl, fun _ => rfl, hc⟩
    rw [e1]
  · refine am_E.go (t2 := (8, [vR x, vI k, vR o], [vR x], aq_h m s F c)) rfl rfl ?_
    refine am_E.go (t2 := (9, [vR x, vI k, vR o], [vR o, vR x], aq_h m s F c)) rfl rfl ?_
    refine aq_callv (y := 2) (as2 := [vR o]) (rest := []) rfl rfl (by decide) (Nat.le_of_ble_eq_true rfl) rfl rfl (Nat.le_of_ble_eq_true rfl) (by omega) hFx rfl (Nat.le_of_ble_eq_true rfl) (qx_addStates ⟨hmx, hFx, hFl, hFw⟩ hSw hnx hny hl ⟨hm, hn1, hn4, hK, hFo, hFd, hFs⟩ hSd hSs hxn hdx hsx hKn ⟨hL, hGg, hGr, hNg, hNr, hLt, hGt, hNt⟩ ⟨hR, hRt⟩ hex hst hr) ?_
    rintro r5 h5 ⟨c_s, rfl, s_s, rfl, hr_s, v_s⟩
    show am_E _ (12, [vR x, vI k, vR o], [], aq_h m s F c_s) _
    refine am_E.go (t2 := (13, [vR x, vI k, vR o], [vR x], aq_h m s F c_s)) rfl rfl ?_
    refine am_E.go (t2 := (14, [vR x, vI k, vR o], [vI 1, vR x], aq_h m s F c_s)) rfl rfl ?_
    refine aq_pf rfl (by omega) hFx (by decide) rfl rfl ?_
    show am_E _ (17, [vR x, vI k, vR o], [], aq_h m s F (aq_u c_s x 4 1)) _
    generalize hdc_3 : aq_u c_s x 4 1 = c_3
    have sc_3 := aq_smu (aq_smi (S2 := fun a => S a ∨ a = x) s_s (fun a h => Or.inl h)) hdc_3 (Or.inr rfl)
    have hdrc_3 := aq_rgn hr_s hdc_3 hdo
    refine am_E.go (t2 := (18, [vR x, vI k, vR o], [vR x], aq_h m s F c_3)) rfl rfl ?_
    refine aq_gf (v := vR (x + 2)) rfl (by omega) hFx (by decide) rfl ?_
    show am_E _ (21, [vR x, vI k, vR o], [vR (x + 2)], aq_h m s F c_3) _
    refine am_E.go (t2 := (22, [vR x, vI k, vR o], [vI k, vR (x + 2)], aq_h m s F c_3)) rfl rfl ?_
    refine am_E.go (t2 := (24, [vR x, vI k, vR o], [vI 40, vI k, vR (x + 2)], aq_h m s F c_3)) rfl rfl ?_
    refine ae_add rfl (am_ri (by omega) (by omega)) ?_
    show am_E _ (25, [vR x, vI k, vR o], [vI (k + 40), vR (x + 2)], aq_h m s F c_3) _
    refine aq_al (ok := fun k => k == 0) (v := vI (c_3 (x + 2) (k + 40))) rfl rfl (by omega) hFw rfl (by omega) (by omega) rfl ?_
    show am_E _ (26, [vR x, vI k, vR o], [vI (c_3 (x + 2) (k + 40))], aq_h m s F c_3) _
    refine am_E.ret rfl rfl ?_
    have g0 : c_3 x 0 = c x 0 := by rw [← hdc_3, aq_un (Or.inr (by omega)), s_s x hnx 0]
    have g1 : c_3 x 1 = c x 1 := by rw [← hdc_3, aq_un (Or.inr (by omega)), s_s x hnx 1]
    have gl : ∀ i, c_3 (x + 1) i = c (x + 1) i := fun i => by rw [← hdc_3, aq_un (Or.inl (by omega)), s_s (x + 1) hny i]
    have gw : ∀ k, -40 ≤ k → k ≤ 40 → c_3 (x + 2) (k + 40) = pw_v (c (x + 1)) (c x 0) (c x 1) k := fun k k0 k1 => by rw [← hdc_3, aq_un (Or.inl (by omega)), v_s k k0 k1, hxn]
    refine ⟨_, rfl, sc_3, by rw [gw k hk0 hk1], hdrc_3, g0, g1, gl, fun _ k k0 k1 => ?_⟩
    rw [gw k k0 k1, g0, g1, show c_3 (x + 1) = c (x + 1) from funext gl]

theorem qx_begin {m s : Nat} {F : aq_F} {c : aq_C} {x : Nat} (hX : cr_0 m F x) {n : Int} : am_E ac_X1_begin (0, [vR x, vI n], [], aq_h m s F c) (aq_Z m s F (fun a => a = x ∨ a = x + 1) c (fun r d => r = none ∧ d x 0 = n ∧ d x 1 = 0 ∧ d x 4 = 0 ∧ ∀ i, d (x + 1) i = c (x + 1) i)) := by
  obtain ⟨hmx, hFx, hFl, hFw⟩ := hX
  refine am_E.go (t2 := (1, [vR x, vI n], [vR x], aq_h m s F c)) rfl rfl ?_
  refine am_E.go (t2 := (2, [vR x, vI n], [vI n, vR x], aq_h m s F c)) rfl rfl ?_
  refine aq_pf rfl (by omega) hFx (by decide) rfl rfl ?_
  show am_E _ (5, [vR x, vI n], [], aq_h m s F (aq_u c x 0 n)) _
  generalize hdc_1 : aq_u c x 0 n = c_1
  have sc_1 := aq_smu (aq_sm0 (S := fun a => a = x ∨ a = x + 1)) hdc_1 (Or.inl rfl)
  refine am_E.go (t2 := (6, [vR x, vI n], [vR x], aq_h m s F c_1)) rfl rfl ?_
  refine am_E.go (t2 := (7, [vR x, vI n], [vI 0, vR x], aq_h m s F c_1)) rfl rfl ?_
  refine aq_pf rfl (by omega) hFx (by decide) rfl rfl ?_
  show am_E _ (10, [vR x, vI n], [], aq_h m s F (aq_u c_1 x 1 0)) _
  generalize hdc_2 : aq_u c_1 x 1 0 = c_2
  have sc_2 := aq_smu sc_1 hdc_2 (Or.inl rfl)
  refine am_E.go (t2 := (11, [vR x, vI n], [vR x], aq_h m s F c_2)) rfl rfl ?_
  refine am_E.go (t2 := (12, [vR x, vI n], [vI 0, vR x], aq_h m s F c_2)) rfl rfl ?_
  refine aq_pf rfl (by omega) hFx (by decide) rfl rfl ?_
  show am_E _ (15, [vR x, vI n], [], aq_h m s F (aq_u c_2 x 4 0)) _
  generalize hdc_3 : aq_u c_2 x 4 0 = c_3
  have sc_3 := aq_smu sc_2 hdc_3 (Or.inl rfl)
  refine am_E.ret rfl rfl ?_
  refine ⟨_, rfl, sc_3, rfl, ?_⟩
  have e1 : x + 1 ≠ x := by omega
  rw [← hdc_3, ← hdc_2, ← hdc_1]
  simp [aq_u, e1]

theorem qx_append {m s : Nat} {F : aq_F} {c : aq_C} {x : Nat} (hX : cr_0 m F x) {l : Int} (h1 : 0 ≤ c x 1) : am_E ac_X1_append (0, [vR x, vI l], [], aq_h m s F c) (aq_Z m s F (fun a => a = x ∨ a = x + 1) c (fun r d => ∃ v, r = some (vI v) ∧ ((v = 0 ∧ 8 ≤ c x 1 ∧ d = c) ∨ (v = 1 ∧ c x 1 < 8 ∧ d x 0 = c x 0 ∧ d x 1 = c x 1 + 1 ∧ d x 4 = 0 ∧ d (x + 1) (c x 1) = l ∧ ∀ i, i ≠ c x 1 → d (x + 1) i = c (x + 1) i)))) := by
  obtain ⟨hmx, hFx, hFl, hFw⟩ := hX
  have e1 : x + 1 ≠ x := by omega
  have e2 : x ≠ x + 1 := by omega
  refine am_E.go (t2 := (1, [vR x, vI l], [vR x], aq_h m s F c)) rfl rfl ?_
  refine aq_gf (v := vI (c x 1)) rfl (by omega) hFx (by decide) rfl ?_
  show am_E _ (4, [vR x, vI l], [vI (c x 1)], aq_h m s F c) _
  skip
  refine am_E.go (t2 := (6, [vR x, vI l], [vI 8, vI (c x 1)], aq_h m s F c)) rfl rfl ?_
  refine ae_icmp rfl (fun (q_2 : (c x 1) < 8) => ?_) (fun (q_2 : 8 ≤ (c x 1)) => ?_)
  · refine am_E.go (t2 := (12, [vR x, vI l], [vR x], aq_h m s F c)) rfl rfl ?_
    refine aq_gf (v := vR (x + 1)) rfl (by omega) hFx (by decide) rfl ?_
    show am_E _ (15, [vR x, vI l], [vR (x + 1)], aq_h m s F c) _
    refine am_E.go (t2 := (16, [vR x, vI l], [vR x, vR (x + 1)], aq_h m s F c)) rfl rfl ?_
    refine aq_gf (v := vI (c x 1)) rfl (by omega) hFx (by decide) rfl ?_
    show am_E _ (19, [vR x, vI l], [vI (c x 1), vR (x + 1)], aq_h m s F c) _
    skip
    refine am_E.go (t2 := (20, [vR x, vI l], [vI l, vI (c x 1), vR (x + 1)], aq_h m s F c)) rfl rfl ?_
    refine aq_as (kd := 0) rfl rfl (by omega) hFl (by omega) (by omega) rfl rfl ?_
    show am_E _ (21, [vR x, vI l], [], aq_h m s F (aq_u c (x + 1) (c x 1) l)) _
    generalize hdc_4 : aq_u c (x + 1) (c x 1) l = c_4
    have sc_4 := aq_smu (aq_sm0 (S := fun a => a = x ∨ a = x + 1)) hdc_4 (Or.inr rfl)
    refine am_E.go (t2 := (22, [vR x, vI l], [vR x], aq_h m s F c_4)) rfl rfl ?_
    refine am_E.go (t2 := (23, [vR x, vI l], [vR x, vR x], aq_h m s F c_4)) rfl rfl ?_
    refine aq_gf (v := vI (c_4 x 1)) rfl (by omega) hFx (by decide) rfl ?_
    show am_E _ (26, [vR x, vI l], [vI (c_4 x 1), vR x], aq_h m s F c_4) _
    have f_5 : c_4 x 1 = c x 1 := by rw [← hdc_4]; exact aq_un (Or.inl (by omega))
    refine am_E.go (t2 := (27, [vR x, vI l], [vI 1, vI (c_4 x 1), vR x], aq_h m s F c_4)) rfl rfl ?_
    refine ae_add rfl (am_ri (by omega) (by omega)) ?_
    show am_E _ (28, [vR x, vI l], [vI ((c_4 x 1) + 1), vR x], aq_h m s F c_4) _
    refine aq_pf rfl (by omega) hFx (by decide) rfl rfl ?_
    show am_E _ (31, [vR x, vI l], [], aq_h m s F (aq_u c_4 x 1 ((c_4 x 1) + 1))) _
    generalize hdc_6 : aq_u c_4 x 1 ((c_4 x 1) + 1) = c_6
    have sc_6 := aq_smu sc_4 hdc_6 (Or.inl rfl)
    refine am_E.go (t2 := (32, [vR x, vI l], [vR x], aq_h m s F c_6)) rfl rfl ?_
    refine am_E.go (t2 := (33, [vR x, vI l], [vI 0, vR x], aq_h m s F c_6)) rfl rfl ?_
    refine aq_pf rfl (by omega) hFx (by decide) rfl rfl ?_
    show am_E _ (36, [vR x, vI l], [], aq_h m s F (aq_u c_6 x 4 0)) _
    generalize hdc_7 : aq_u c_6 x 4 0 = c_7
    have sc_7 := aq_smu sc_6 hdc_7 (Or.inl rfl)
    refine am_E.go (t2 := (37, [vR x, vI l], [vI 1], aq_h m s F c_7)) rfl rfl ?_
    refine am_E.ret rfl rfl ?_
    refine ⟨_, rfl, sc_7, 1, rfl, Or.inr ⟨rfl, by omega, ?_⟩⟩
    have e1 : x + 1 ≠ x := by omega
    have e2 : x ≠ x + 1 := by omega
    rw [← hdc_7, ← hdc_6, ← hdc_4]
    simp [aq_u, e1, e2]
    intro i hi h9
    exact absurd h9 hi
  · refine am_E.go (t2 := (10, [vR x, vI l], [vI 0], aq_h m s F c)) rfl rfl ?_
    refine am_E.ret rfl rfl ?_
    exact ⟨_, rfl, (aq_sm0 (S := fun a => a = x ∨ a = x + 1)), 0, rfl, Or.inl ⟨rfl, by omega, rfl⟩⟩

theorem qx_dropLast {m s : Nat} {F : aq_F} {c : aq_C} {x : Nat} (hX : cr_0 m F x) (h1 : 0 ≤ c x 1) (h2 : c x 1 ≤ 8) : am_E ac_X1_dropLast (0, [vR x], [], aq_h m s F c) (aq_Z m s F (fun a => a = x ∨ a = x + 1) c (fun r d => ∃ v, r = some (vI v) ∧ ((v = 0 ∧ c x 1 ≤ 0 ∧ d = c) ∨ (v = 1 ∧ 0 < c x 1 ∧ d x 0 = c x 0 ∧ d x 1 = c x 1 - 1 ∧ d x 4 = 0 ∧ ∀ i, d (x + 1) i = c (x + 1) i)))) := by
  obtain ⟨hmx, hFx, hFl, hFw⟩ := hX
  refine am_E.go (t2 := (1, [vR x], [vR x], aq_h m s F c)) rfl rfl ?_
  refine aq_gf (v := vI (c x 1)) rfl (by omega) hFx (by decide) rfl ?_
  show am_E _ (4, [vR x], [vI (c x 1)], aq_h m s F c) _
  refine ae_if0 rfl (fun (q_1 : 0 < (c x 1)) => ?_) (fun (q_1 : (c x 1) ≤ 0) => ?_)
  · refine am_E.go (t2 := (10, [vR x], [vR x], aq_h m s F c)) rfl rfl ?_
    refine am_E.go (t2 := (11, [vR x], [vR x, vR x], aq_h m s F c)) rfl rfl ?_
    refine aq_gf (v := vI (c x 1)) rfl (by omega) hFx (by decide) rfl ?_
    show am_E _ (14, [vR x], [vI (c x 1), vR x], aq_h m s F c) _
    refine am_E.go (t2 := (15, [vR x], [vI 1, vI (c x 1), vR x], aq_h m s F c)) rfl rfl ?_
    refine ae_sub rfl (am_ri (by omega) (by omega)) ?_
    show am_E _ (16, [vR x], [vI ((c x 1) - 1), vR x], aq_h m s F c) _
    refine aq_pf rfl (by omega) hFx (by decide) rfl rfl ?_
    show am_E _ (19, [vR x], [], aq_h m s F (aq_u c x 1 ((c x 1) - 1))) _
    generalize hdc_2 : aq_u c x 1 ((c x 1) - 1) = c_2
    have sc_2 := aq_smu (aq_sm0 (S := fun a => a = x ∨ a = x + 1)) hdc_2 (Or.inl rfl)
    refine am_E.go (t2 := (20, [vR x], [vR x], aq_h m s F c_2)) rfl rfl ?_
    refine am_E.go (t2 := (21, [vR x], [vI 0, vR x], aq_h m s F c_2)) rfl rfl ?_
    refine aq_pf rfl (by omega) hFx (by decide) rfl rfl ?_
    show am_E _ (24, [vR x], [], aq_h m s F (aq_u c_2 x 4 0)) _
    generalize hdc_3 : aq_u c_2 x 4 0 = c_3
    have sc_3 := aq_smu sc_2 hdc_3 (Or.inl rfl)
    refine am_E.go (t2 := (25, [vR x], [vI 1], aq_h m s F c_3)) rfl rfl ?_
    refine am_E.ret rfl rfl ?_
    refine ⟨_, rfl, sc_3, 1, rfl, Or.inr ⟨rfl, by omega, ?_⟩⟩
    have e1 : x + 1 ≠ x := by omega
    rw [← hdc_3, ← hdc_2]
    simp [aq_u, e1]
  · refine am_E.go (t2 := (8, [vR x], [vI 0], aq_h m s F c)) rfl rfl ?_
    refine am_E.ret rfl rfl ?_
    exact ⟨_, rfl, (aq_sm0 (S := fun a => a = x ∨ a = x + 1)), 0, rfl, Or.inl ⟨rfl, by omega, rfl⟩⟩

theorem qp_X4_row {m s : Nat} {F : aq_F} {c : aq_C} (hC : sb_C m F) (hI : cl_I c) {nn : Int} : am_E ac_X4_row (0, [vR 0, vI nn], [], aq_h m s F c) (aq_Z m s F (fun a => a < 527) c (fun r d => cl_I d ∧ ((2 ≤ nn ∧ nn ≤ 4 ∧ r = some (vI 0) ∧ d 8 0 = nn ∧ d 8 1 = 0 ∧ d 8 4 = 0 ∧ ∀ i, d (8 + 1) i = c (8 + 1) i) ∨ (¬ (2 ≤ nn ∧ nn ≤ 4) ∧ r = some (vI (-1)) ∧ d = c)))) := by
  obtain ⟨hCm, hC0, hC1, hC2, hC3, ⟨hma4, hFa4, hFn4, hFp4, hFf4⟩, ⟨hmx, hFx, hFl, hFw⟩, hCs, hCb, hCh⟩ := id hC
  obtain ⟨hx0, hx1, hx2, hx3, hx4⟩ := hI.2.1
  refine am_E.go (t2 := (1, [vR 0, vI nn], [vI nn], aq_h m s F c)) rfl rfl ?_
  refine am_E.go (t2 := (2, [vR 0, vI nn], [vI 2, vI nn], aq_h m s F c)) rfl rfl ?_
  refine ae_icmp rfl (fun (q_1 : nn < 2) => ?_) (fun (q_1 : 2 ≤ nn) => ?_)
  · refine am_E.go (t2 := (11, [vR 0, vI nn], [vI (-1)], aq_h m s F c)) rfl rfl ?_
    refine am_E.ret rfl rfl ?_
    exact ⟨_, rfl, (aq_sm0 (S := fun a => a < 527)), hI, Or.inr ⟨by omega, rfl, rfl⟩⟩
  · refine am_E.go (t2 := (6, [vR 0, vI nn], [vI nn], aq_h m s F c)) rfl rfl ?_
    refine am_E.go (t2 := (7, [vR 0, vI nn], [vI 4, vI nn], aq_h m s F c)) rfl rfl ?_
    refine ae_icmp rfl (fun (q_2 : nn ≤ 4) => ?_) (fun (q_2 : 4 < nn) => ?_)
    · refine am_E.go (t2 := (13, [vR 0, vI nn], [vR 0], aq_h m s F c)) rfl rfl ?_
      refine aq_gf (v := vR 8) rfl (by omega) hC0 (by decide) rfl ?_
      show am_E _ (16, [vR 0, vI nn], [vR 8], aq_h m s F c) _
      refine am_E.go (t2 := (17, [vR 0, vI nn], [vI nn, vR 8], aq_h m s F c)) rfl rfl ?_
      refine aq_callv (y := 2) (as2 := [vI nn]) (rest := []) rfl rfl (by decide) (Nat.le_of_ble_eq_true rfl) rfl rfl (Nat.le_of_ble_eq_true rfl) (by omega) hFx rfl (Nat.le_of_ble_eq_true rfl) (qx_begin (x := 8) ⟨hmx, hFx, hFl, hFw⟩) ?_
      rintro r5 h5 ⟨c_b, rfl, s_b, rfl, hb0, hb1, hb4, hbl⟩
      show am_E _ (20, [vR 0, vI nn], [], aq_h m s F c_b) _
      refine am_E.go (t2 := (21, [vR 0, vI nn], [vI 0], aq_h m s F c_b)) rfl rfl ?_
      refine am_E.ret rfl rfl ?_
      exact ⟨_, rfl, (aq_smt (aq_sm0 (S := fun a => a < 527)) (aq_smi s_b (fun b h => by omega))), cl_x hI s_b ⟨by omega, by omega, by omega, by omega, fun i h1 h2 => absurd h2 (by omega)⟩, Or.inl ⟨by omega, by omega, rfl, hb0, hb1, hb4, hbl⟩⟩
    · refine am_E.go (t2 := (11, [vR 0, vI nn], [vI (-1)], aq_h m s F c)) rfl rfl ?_
      refine am_E.ret rfl rfl ?_
      exact ⟨_, rfl, (aq_sm0 (S := fun a => a < 527)), hI, Or.inr ⟨by omega, rfl, rfl⟩⟩

theorem qp_X4_cross {m s : Nat} {F : aq_F} {c : aq_C} (hC : sb_C m F) (hI : cl_I c) {l : Int} : am_E ac_X4_cross (0, [vR 0, vI l], [], aq_h m s F c) (aq_Z m s F (fun a => a < 527) c (fun r d => cl_I d ∧ ((¬ (l ≠ 0 ∧ -(c 8 0) < l ∧ l < c 8 0) ∧ r = some (vI (-1)) ∧ d = c) ∨ ((l ≠ 0 ∧ -(c 8 0) < l ∧ l < c 8 0) ∧ 8 ≤ c 8 1 ∧ r = some (vI (-3)) ∧ d = c) ∨ ((l ≠ 0 ∧ -(c 8 0) < l ∧ l < c 8 0) ∧ c 8 1 < 8 ∧ r = some (vI (c 8 1 + 1)) ∧ d 8 0 = c 8 0 ∧ d 8 1 = c 8 1 + 1 ∧ d 8 4 = 0 ∧ d (8 + 1) (c 8 1) = l ∧ ∀ i, i ≠ c 8 1 → d (8 + 1) i = c (8 + 1) i)))) := by
  obtain ⟨hCm, hC0, hC1, hC2, hC3, ⟨hma4, hFa4, hFn4, hFp4, hFf4⟩, ⟨hmx, hFx, hFl, hFw⟩, hCs, hCb, hCh⟩ := id hC
  obtain ⟨hx0, hx1, hx2, hx3, hx4⟩ := hI.2.1
  refine am_E.go (t2 := (1, [vR 0, vI l], [vR 0], aq_h m s F c)) rfl rfl ?_
  refine aq_gf (v := vR 8) rfl (by omega) hC0 (by decide) rfl ?_
  show am_E _ (4, [vR 0, vI l], [vR 8], aq_h m s F c) _
  refine am_E.go (t2 := (5, [vR 0, vI l], [vI l, vR 8], aq_h m s F c)) rfl rfl ?_
  refine aq_callv (y := 2) (as2 := [vI l]) (rest := []) rfl rfl (by decide) (Nat.le_of_ble_eq_true rfl) rfl rfl (Nat.le_of_ble_eq_true rfl) (by omega) hFx rfl (Nat.le_of_ble_eq_true rfl) (qn_X1_allows (x := 8) ⟨hmx, hFx, hFl, hFw⟩ (by omega) (by omega)) ?_
  rintro r5 h5 ⟨rfl, v_1, rfl, hv_1⟩
  show am_E _ (8, [vR 0, vI l], [vI v_1], aq_h m s F c) _
  refine ae_if0 rfl (fun (q_2 : v_1 ≠ 0) => ?_) (fun (q_2 : v_1 = 0) => ?_)
  · refine am_E.go (t2 := (14, [vR 0, vI l], [vR 0], aq_h m s F c)) rfl rfl ?_
    refine aq_gf (v := vR 8) rfl (by omega) hC0 (by decide) rfl ?_
    show am_E _ (17, [vR 0, vI l], [vR 8], aq_h m s F c) _
    refine am_E.go (t2 := (18, [vR 0, vI l], [vI l, vR 8], aq_h m s F c)) rfl rfl ?_
    refine aq_callv (y := 2) (as2 := [vI l]) (rest := []) rfl rfl (by decide) (Nat.le_of_ble_eq_true rfl) rfl rfl (Nat.le_of_ble_eq_true rfl) (by omega) hFx rfl (Nat.le_of_ble_eq_true rfl) (qx_append (x := 8) ⟨hmx, hFx, hFl, hFw⟩ (by omega)) ?_
    rintro r5 h5 ⟨c_b, rfl, s_b, v_b, rfl, hq_b⟩
    show am_E _ (21, [vR 0, vI l], [vI v_b], aq_h m s F c_b) _
    refine ae_if0 rfl (fun (q_3 : v_b = 0) => ?_) (fun (q_3 : v_b ≠ 0) => ?_)
    · refine am_E.go (t2 := (36, [vR 0, vI l], [vI (-3)], aq_h m s F c_b)) rfl rfl ?_
      refine am_E.ret rfl rfl ?_
      have hl5 : (l ≠ 0 ∧ -(c 8 0) < l ∧ l < c 8 0) := by omega
      have hlb := cr_app hI.2.1 hl5 (by rcases hq_b with q | ⟨q1, q2, q3, q4, q5, q6, q7⟩; exact Or.inl q; exact Or.inr ⟨q1, q2, q3, q4, q6, q7⟩)
      refine ⟨_, rfl, (aq_smt (aq_sm0 (S := fun a => a < 527)) (aq_smi s_b (fun b h => by omega))), cl_x hI s_b hlb, ?_⟩
      rcases hq_b with ⟨h1, h2, h3⟩ | ⟨h1, h2, h3, h4, h5, h6, h7⟩
      · exact Or.inr (Or.inl ⟨hl5, h2, rfl, h3⟩)
      · exfalso; omega
    · refine am_E.go (t2 := (25, [vR 0, vI l], [vR 0], aq_h m s F c_b)) rfl rfl ?_
      refine aq_gf (v := vR 8) rfl (by omega) hC0 (by decide) rfl ?_
      show am_E _ (28, [vR 0, vI l], [vR 8], aq_h m s F c_b) _
      refine aq_gf (v := vI (c_b 8 1)) rfl (by omega) hFx (by decide) rfl ?_
      show am_E _ (31, [vR 0, vI l], [vI (c_b 8 1)], aq_h m s F c_b) _
      refine am_E.go (t2 := (36, [vR 0, vI l], [vI (c_b 8 1)], aq_h m s F c_b)) rfl rfl ?_
      refine am_E.ret rfl rfl ?_
      have hl5 : (l ≠ 0 ∧ -(c 8 0) < l ∧ l < c 8 0) := by omega
      have hlb := cr_app hI.2.1 hl5 (by rcases hq_b with q | ⟨q1, q2, q3, q4, q5, q6, q7⟩; exact Or.inl q; exact Or.inr ⟨q1, q2, q3, q4, q6, q7⟩)
      refine ⟨_, rfl, (aq_smt (aq_sm0 (S := fun a => a < 527)) (aq_smi s_b (fun b h => by omega))), cl_x hI s_b hlb, ?_⟩
      rcases hq_b with ⟨h1, h2, h3⟩ | ⟨h1, h2, h3, h4, h5, h6, h7⟩
      · exfalso; omega
      · exact Or.inr (Or.inr ⟨hl5, h2, by rw [h4], h3, h4, h5, h6, h7⟩)
  · refine am_E.go (t2 := (12, [vR 0, vI l], [vI (-1)], aq_h m s F c)) rfl rfl ?_
    refine am_E.ret rfl rfl ?_
    exact ⟨_, rfl, (aq_sm0 (S := fun a => a < 527)), hI, Or.inl ⟨by omega, rfl, rfl⟩⟩

theorem qp_X4_back {m s : Nat} {F : aq_F} {c : aq_C} (hC : sb_C m F) (hI : cl_I c) : am_E ac_X4_back (0, [vR 0], [], aq_h m s F c) (aq_Z m s F (fun a => a < 527) c (fun r d => cl_I d ∧ ((c 8 1 ≤ 0 ∧ r = some (vI (-2)) ∧ d = c) ∨ (0 < c 8 1 ∧ r = some (vI (c 8 1 - 1)) ∧ d 8 0 = c 8 0 ∧ d 8 1 = c 8 1 - 1 ∧ d 8 4 = 0 ∧ ∀ i, d (8 + 1) i = c (8 + 1) i)))) := by
  obtain ⟨hCm, hC0, hC1, hC2, hC3, ⟨hma4, hFa4, hFn4, hFp4, hFf4⟩, ⟨hmx, hFx, hFl, hFw⟩, hCs, hCb, hCh⟩ := id hC
  obtain ⟨hx0, hx1, hx2, hx3, hx4⟩ := hI.2.1
  refine am_E.go (t2 := (1, [vR 0], [vR 0], aq_h m s F c)) rfl rfl ?_
  refine aq_gf (v := vR 8) rfl (by omega) hC0 (by decide) rfl ?_
  show am_E _ (4, [vR 0], [vR 8], aq_h m s F c) _
  refine aq_callv (y := 1) (as2 := []) (rest := []) rfl rfl (by decide) (Nat.le_of_ble_eq_true rfl) rfl rfl (Nat.le_of_ble_eq_true rfl) (by omega) hFx rfl (Nat.le_of_ble_eq_true rfl) (qx_dropLast (x := 8) ⟨hmx, hFx, hFl, hFw⟩ (by omega) (by omega)) ?_
  rintro r5 h5 ⟨c_b, rfl, s_b, v_b, rfl, hq_b⟩
  show am_E _ (7, [vR 0], [vI v_b], aq_h m s F c_b) _
  refine ae_if0 rfl (fun (q_1 : v_b = 0) => ?_) (fun (q_1 : v_b ≠ 0) => ?_)
  · refine am_E.go (t2 := (22, [vR 0], [vI (-2)], aq_h m s F c_b)) rfl rfl ?_
    refine am_E.ret rfl rfl ?_
    have hlb := cr_drp hI.2.1 (by rcases hq_b with q | ⟨q1, q2, q3, q4, q5, q6⟩; exact Or.inl q; exact Or.inr ⟨q1, q2, q3, q4, q6⟩)
    refine ⟨_, rfl, (aq_smt (aq_sm0 (S := fun a => a < 527)) (aq_smi s_b (fun b h => by omega))), cl_x hI s_b hlb, ?_⟩
    rcases hq_b with ⟨h1, h2, h3⟩ | ⟨h1, h2, h3, h4, h5, h6⟩
    · exact Or.inl ⟨h2, rfl, h3⟩
    · exfalso; omega
  · refine am_E.go (t2 := (11, [vR 0], [vR 0], aq_h m s F c_b)) rfl rfl ?_
    refine aq_gf (v := vR 8) rfl (by omega) hC0 (by decide) rfl ?_
    show am_E _ (14, [vR 0], [vR 8], aq_h m s F c_b) _
    refine aq_gf (v := vI (c_b 8 1)) rfl (by omega) hFx (by decide) rfl ?_
    show am_E _ (17, [vR 0], [vI (c_b 8 1)], aq_h m s F c_b) _
    refine am_E.go (t2 := (22, [vR 0], [vI (c_b 8 1)], aq_h m s F c_b)) rfl rfl ?_
    refine am_E.ret rfl rfl ?_
    have hlb := cr_drp hI.2.1 (by rcases hq_b with q | ⟨q1, q2, q3, q4, q5, q6⟩; exact Or.inl q; exact Or.inr ⟨q1, q2, q3, q4, q6⟩)
    refine ⟨_, rfl, (aq_smt (aq_sm0 (S := fun a => a < 527)) (aq_smi s_b (fun b h => by omega))), cl_x hI s_b hlb, ?_⟩
    rcases hq_b with ⟨h1, h2, h3⟩ | ⟨h1, h2, h3, h4, h5, h6⟩
    · exfalso; omega
    · exact Or.inr ⟨h2, by rw [h4], h3, h4, h5, h6⟩

theorem qp_X4_power {m s : Nat} {F : aq_F} {c : aq_C} (hC : sb_C m F) (hI : cl_I c) (hc : cr_p 8 c) {k : Int} : am_E ac_X4_power (0, [vR 0, vI k], [], aq_h m s F c) (aq_Z m s F (fun a => a < 527) c (fun r d => r = some (vI (pw_a (c (8 + 1)) (c 8 0) (c 8 1) k)) ∧ cl_I d ∧ d 8 0 = c 8 0 ∧ d 8 1 = c 8 1 ∧ (∀ i, d (8 + 1) i = c (8 + 1) i) ∧ cr_p 8 d)) := by
  obtain ⟨hCm, hC0, hC1, hC2, hC3, ⟨hma4, hFa4, hFn4, hFp4, hFf4⟩, ⟨hmx, hFx, hFl, hFw⟩, hCs, hCb, hCh⟩ := id hC
  obtain ⟨hx0, hx1, hx2, hx3, hx4⟩ := hI.2.1
  refine am_E.go (t2 := (1, [vR 0, vI k], [vI k], aq_h m s F c)) rfl rfl ?_
  refine am_E.go (t2 := (3, [vR 0, vI k], [vI (-40), vI k], aq_h m s F c)) rfl rfl ?_
  refine ae_icmp rfl (fun (q_1 : k < (-40)) => ?_) (fun (q_1 : (-40) ≤ k) => ?_)
  · refine am_E.go (t2 := (14, [vR 0, vI k], [vI (-1000000)], aq_h m s F c)) rfl rfl ?_
    refine am_E.ret rfl rfl ?_
    refine ⟨_, rfl, (aq_sm0 (S := fun a => a < 527)), ?_, hI, rfl, rfl, fun _ => rfl, hc⟩
    unfold pw_a
    rw [if_neg (by omega)]
  · refine am_E.go (t2 := (7, [vR 0, vI k], [vI k], aq_h m s F c)) rfl rfl ?_
    refine am_E.go (t2 := (9, [vR 0, vI k], [vI 40, vI k], aq_h m s F c)) rfl rfl ?_
    refine ae_icmp rfl (fun (q_2 : k ≤ 40) => ?_) (fun (q_2 : 40 < k) => ?_)
    · refine am_E.go (t2 := (16, [vR 0, vI k], [vR 0], aq_h m s F c)) rfl rfl ?_
      refine aq_gf (v := vR 8) rfl (by omega) hC0 (by decide) rfl ?_
      show am_E _ (19, [vR 0, vI k], [vR 8], aq_h m s F c) _
      refine am_E.go (t2 := (20, [vR 0, vI k], [vI k, vR 8], aq_h m s F c)) rfl rfl ?_
      refine am_E.go (t2 := (21, [vR 0, vI k], [vR 0, vI k, vR 8], aq_h m s F c)) rfl rfl ?_
      refine aq_gf (v := vR 1) rfl (by omega) hC0 (by decide) rfl ?_
      show am_E _ (24, [vR 0, vI k], [vR 1, vI k, vR 8], aq_h m s F c) _
      refine am_E.go (t2 := (25, [vR 0, vI k], [vR 0, vR 1, vI k, vR 8], aq_h m s F c)) rfl rfl ?_
      refine aq_gf (v := vR 8) rfl (by omega) hC0 (by decide) rfl ?_
      show am_E _ (28, [vR 0, vI k], [vR 8, vR 1, vI k, vR 8], aq_h m s F c) _
      refine aq_gf (v := vI (c 8 0)) rfl (by omega) hFx (by decide) rfl ?_
      show am_E _ (31, [vR 0, vI k], [vI (c 8 0), vR 1, vI k, vR 8], aq_h m s F c) _
      refine am_E.go (t2 := (32, [vR 0, vI k], [vI 1, vI (c 8 0), vR 1, vI k, vR 8], aq_h m s F c)) rfl rfl ?_
      refine ae_sub rfl (am_ri (by omega) (by omega)) ?_
      show am_E _ (33, [vR 0, vI k], [vI ((c 8 0) - 1), vR 1, vI k, vR 8], aq_h m s F c) _
      obtain ⟨o, n, K, e_o, e_n, e_K, e_j, e_k, tP, tG, tN, tR, tL, ⟨hm, hn1, hn4, hK, hFo, hFd, hFs⟩, ⟨hPg, hPr, hPt⟩, ⟨hL, hGg, hGr, hNg, hNr, hLt, hGt, hNt⟩, ⟨hR, hRt⟩, hst, hex⟩ := sb_box hC (i := ((c 8 0) - 1)) (by omega) (by omega)
      have hb := sb_bnd (((c 8 0) - 1)).toNat (by omega)
      rw [e_o, e_k] at hb
      refine aq_al (ok := fun k => decide (3 ≤ k) && decide (k < 7)) (v := vR o) rfl rfl (by omega) hC1 rfl (by omega) (by omega) (aq_gi2 (by omega) e_o) ?_
      show am_E _ (34, [vR 0, vI k], [vR o, vI k, vR 8], aq_h m s F c) _
      refine aq_callv (y := 3) (as2 := [vI k, vR o]) (rest := []) rfl rfl (by decide) (Nat.le_of_ble_eq_true rfl) rfl rfl (Nat.le_of_ble_eq_true rfl) (by omega) hFx rfl (Nat.le_of_ble_eq_true rfl) (qx_wholeAt (x := 8) (S := fun a => a = 10 ∨ a = o + 6 + 3 * K ∨ a = o + 7 + 3 * K) ⟨hmx, hFx, hFl, hFw⟩ (Or.inl rfl) (by omega) (by omega) hI.2.1 ⟨hm, hn1, hn4, hK, hFo, hFd, hFs⟩ (Or.inr (Or.inl rfl)) (Or.inr (Or.inr rfl)) (by omega) (by omega) (by omega) (by rw [e_K]; congr 1; omega) ⟨hL, hGg, hGr, hNg, hNr, hLt, hGt, hNt⟩ ⟨hR, hRt⟩ hex hst (by have h9 := hI.1 (((c 8 0) - 1)).toNat (by omega); rw [e_o, e_k, ← e_j] at h9; exact h9) hc (by omega) (by omega)) ?_
      rintro r5 h5 ⟨c_b, rfl, s_b, rfl, hr_b, h0_b, h1_b, h2_b, hp_b⟩
      show am_E _ (37, [vR 0, vI k], [vI (pw_v (c (8 + 1)) (c 8 0) (c 8 1) k)], aq_h m s F c_b) _
      refine am_E.ret rfl rfl ?_
      refine ⟨_, rfl, (aq_smt (aq_sm0 (S := fun a => a < 527)) (aq_smi s_b (fun a h => by omega))), ?_, cl_p hI (j := (((c 8 0) - 1)).toNat) (by omega) (by rw [e_o, e_k]; exact s_b) (by rw [e_o, e_k, ← e_j]; exact hr_b) h0_b h1_b h2_b, h0_b, h1_b, h2_b, hp_b⟩
      unfold pw_a
      rw [if_pos (by omega)]
    · refine am_E.go (t2 := (14, [vR 0, vI k], [vI (-1000000)], aq_h m s F c)) rfl rfl ?_
      refine am_E.ret rfl rfl ?_
      refine ⟨_, rfl, (aq_sm0 (S := fun a => a < 527)), ?_, hI, rfl, rfl, fun _ => rfl, hc⟩
      unfold pw_a
      rw [if_neg (by omega)]

/-- one more ring: the next state's powers -/
theorem pB_n {r : Nat} {w j : Int} (hr : r ≤ 11) (w0 : -8 ≤ w) (w1 : w ≤ 8) (j0 : 0 ≤ j) (j1 : j < 201) : -(if j < 2 then 0 else pB r (j - 2 - 100 - w)) - (if 201 ≤ j + 2 then 0 else pB r (j + 2 - 100 - w)) = pB (r + 1) (j - 100 - w) := by
  have a : (if j < 2 then 0 else pB r (j - 2 - 100 - w)) = pB r (j - 100 - w - 2) := by
    split
    · rw [pB_0 r _ (by omega)]
    · congr 1
      omega
  have b : (if 201 ≤ j + 2 then 0 else pB r (j + 2 - 100 - w)) = pB r (j - 100 - w + 2) := by
    split
    · rw [pB_0 r _ (by omega)]
    · congr 1
      omega
  rw [a, b, pB]

theorem qx_addState_5 {m s : Nat} {F : aq_F} {c0 : aq_C} {y : Nat} (hO : mo_0 m F y) {bits n : Int} {A B : Int → Int} : ∀ (d : Nat) (b : Int) (mn : Int) (pw : Int) (k : Int) (v7 : am_V) (v8 : am_V) (v9 : am_V) (c : aq_C) (hs : aq_sm (mo_S y) c0 c) (h0 : 0 ≤ k) (h1 : k ≤ 201) (hob : mo_k y c0 c) (hA : ∀ j, 0 ≤ j → j < 201 → c (y + 21) j = if j < k then am_w (A j + B j) else A j) (hB : ∀ j, 0 ≤ j → j < 201 → c (y + 22) j = B j) (hd : 201 - k < (d : Int)), am_E ac_X5_addState (321, [vR y, vI bits, vI n, vI b, vI mn, vI pw, vI k, v7, v8, v9], [], aq_h m s F c) (aq_Z m s F (mo_S y) c0 (fun r d => r = none ∧ mo_k y c0 d ∧ ∀ j, 0 ≤ j → j < 201 → d (y + 21) j = am_w (A j + B j)))
  | 0, b, mn, pw, k, v7, v8, v9, c, hs, h0, h1, hob, hA, hB, hd => by exfalso; omega
  | d + 1, b, mn, pw, k, v7, v8, v9, c, hs, h0, h1, hob, hA, hB, hd => by
    obtain ⟨hm, hFo, hG5, hG6, hG7, hG8, hG9, hG10, hG11, hG12, hG13, hG14, hG15, hG16, hG17, hG18, hG19, hG20, hG21, hG22, hG23⟩ := hO
    refine am_E.go (t2 := (323, [vR y, vI bits, vI n, vI b, vI mn, vI pw, vI k, v7, v8, v9], [vI k], aq_h m s F c)) rfl rfl ?_
    refine am_E.go (t2 := (326, [vR y, vI bits, vI n, vI b, vI mn, vI pw, vI k, v7, v8, v9], [vI 201, vI k], aq_h m s F c)) rfl rfl ?_
    refine ae_icmp rfl (fun (q_1 : 201 ≤ k) => ?_) (fun (q_1 : k < 201) => ?_)
    · refine am_E.ret rfl rfl ?_
      refine ⟨_, rfl, hs, rfl, hob, fun j j0 j1 => ?_⟩
      rw [hA j j0 j1, if_pos (by omega)]
    · refine am_E.go (t2 := (330, [vR y, vI bits, vI n, vI b, vI mn, vI pw, vI k, v7, v8, v9], [vR y], aq_h m s F c)) rfl rfl ?_
      refine aq_gf (v := vR (y + 21)) rfl (by omega) hFo (by decide) rfl ?_
      show am_E _ (333, [vR y, vI bits, vI n, vI b, vI mn, vI pw, vI k, v7, v8, v9], [vR (y + 21)], aq_h m s F c) _
      refine am_E.go (t2 := (335, [vR y, vI bits, vI n, vI b, vI mn, vI pw, vI k, v7, v8, v9], [vI k, vR (y + 21)], aq_h m s F c)) rfl rfl ?_
      refine am_E.go (t2 := (336, [vR y, vI bits, vI n, vI b, vI mn, vI pw, vI k, v7, v8, v9], [vI k, vR (y + 21), vI k, vR (y + 21)], aq_h m s F c)) rfl rfl ?_
      refine aq_al (ok := fun k => k == 0) (v := vI (c (y + 21) k)) rfl rfl (by omega) hG21 rfl (by omega) (by omega) rfl ?_
      show am_E _ (337, [vR y, vI bits, vI n, vI b, vI mn, vI pw, vI k, v7, v8, v9], [vI (c (y + 21) k), vI k, vR (y + 21)], aq_h m s F c) _
      refine am_E.go (t2 := (338, [vR y, vI bits, vI n, vI b, vI mn, vI pw, vI k, v7, v8, v9], [vR y, vI (c (y + 21) k), vI k, vR (y + 21)], aq_h m s F c)) rfl rfl ?_
      refine aq_gf (v := vR (y + 22)) rfl (by omega) hFo (by decide) rfl ?_
      show am_E _ (341, [vR y, vI bits, vI n, vI b, vI mn, vI pw, vI k, v7, v8, v9], [vR (y + 22), vI (c (y + 21) k), vI k, vR (y + 21)], aq_h m s F c) _
      refine am_E.go (t2 := (343, [vR y, vI bits, vI n, vI b, vI mn, vI pw, vI k, v7, v8, v9], [vI k, vR (y + 22), vI (c (y + 21) k), vI k, vR (y + 21)], aq_h m s F c)) rfl rfl ?_
      refine aq_al (ok := fun k => k == 0) (v := vI (c (y + 22) k)) rfl rfl (by omega) hG22 rfl (by omega) (by omega) rfl ?_
      show am_E _ (344, [vR y, vI bits, vI n, vI b, vI mn, vI pw, vI k, v7, v8, v9], [vI (c (y + 22) k), vI (c (y + 21) k), vI k, vR (y + 21)], aq_h m s F c) _
      refine am_E.go (t2 := (345, [vR y, vI bits, vI n, vI b, vI mn, vI pw, vI k, v7, v8, v9], [vI (am_w ((c (y + 21) k) + (c (y + 22) k))), vI k, vR (y + 21)], aq_h m s F c)) rfl rfl ?_
      refine aq_as (kd := 0) rfl rfl (by omega) hG21 (by omega) (by omega) rfl rfl ?_
      show am_E _ (346, [vR y, vI bits, vI n, vI b, vI mn, vI pw, vI k, v7, v8, v9], [], aq_h m s F (aq_u c (y + 21) k (am_w ((c (y + 21) k) + (c (y + 22) k))))) _
      generalize hdc_2 : aq_u c (y + 21) k (am_w ((c (y + 21) k) + (c (y + 22) k))) = c_2
      have sc_2 := aq_smu hs hdc_2 (mo_Sk (by decide) (by decide))
      refine ae_iinc rfl rfl (am_ri (by omega) (by omega)) ?_
      show am_E _ (349, [vR y, vI bits, vI n, vI b, vI mn, vI pw, vI (k + 1), v7, v8, v9], [], aq_h m s F c_2) _
      refine am_E.go (t2 := (321, [vR y, vI bits, vI n, vI b, vI mn, vI pw, vI (k + 1), v7, v8, v9], [], aq_h m s F c_2)) rfl rfl ?_
      exact qx_addState_5 ⟨hm, hFo, hG5, hG6, hG7, hG8, hG9, hG10, hG11, hG12, hG13, hG14, hG15, hG16, hG17, hG18, hG19, hG20, hG21, hG22, hG23⟩ d b mn pw (k + 1) (v7) (v8) (v9) c_2 sc_2 (by omega) (by omega) (mo_ku hob hdc_2 (Or.inl (by omega))) (fun j j0 j1 => by by_cases e : j = k; (rw [e, ← hdc_2, aq_us, if_pos (by omega), hA k (by omega) (by omega), if_neg (by omega), hB k (by omega) (by omega)]); rw [← hdc_2, aq_un (Or.inr e), hA j j0 j1]; by_cases e2 : j < k; (rw [if_pos e2, if_pos (by omega)]); rw [if_neg e2, if_neg (by omega)]) (fun j j0 j1 => by rw [← hdc_2, aq_un (Or.inl (by omega))]; exact hB j j0 j1) (by omega)

theorem qx_addState_4 {m s : Nat} {F : aq_F} {c0 : aq_C} {y : Nat} (hO : mo_0 m F y) {bits n : Int} {A N : Int → Int} {Z : Option am_V → am_H → Prop} : ∀ (d : Nat) (b : Int) (mn : Int) (pw : Int) (r : Int) (k : Int) (v8 : am_V) (v9 : am_V) (c : aq_C) (hs : aq_sm (mo_S y) c0 c) (h0 : 0 ≤ k) (h1 : k ≤ 201) (hob : mo_k y c0 c) (hA : ∀ j, 0 ≤ j → j < 201 → c (y + 21) j = A j) (hN : ∀ j, 0 ≤ j → j < 201 → c (y + 23) j = N j) (hS : ∀ j, 0 ≤ j → j < k → c (y + 22) j = N j) (hd : 201 - k < (d : Int)) (K0 : ∀ (k2 : Int) (c2 : aq_C) (hs2 : aq_sm (mo_S y) c0 c2) (hob2 : mo_k y c0 c2) (hA2 : ∀ j, 0 ≤ j → j < 201 → c2 (y + 21) j = A j) (hB2 : ∀ j, 0 ≤ j → j < 201 → c2 (y + 22) j = N j), am_E ac_X5_addState (312, [vR y, vI bits, vI n, vI b, vI mn, vI pw, vI r, vI k2, v8, v9], [], aq_h m s F c2) Z), am_E ac_X5_addState (284, [vR y, vI bits, vI n, vI b, vI mn, vI pw, vI r, vI k, v8, v9], [], aq_h m s F c) Z
  | 0, b, mn, pw, r, k, v8, v9, c, hs, h0, h1, hob, hA, hN, hS, hd, K0 => by exfalso; omega
  | d + 1, b, mn, pw, r, k, v8, v9, c, hs, h0, h1, hob, hA, hN, hS, hd, K0 => by
    obtain ⟨hm, hFo, hG5, hG6, hG7, hG8, hG9, hG10, hG11, hG12, hG13, hG14, hG15, hG16, hG17, hG18, hG19, hG20, hG21, hG22, hG23⟩ := hO
    refine am_E.go (t2 := (286, [vR y, vI bits, vI n, vI b, vI mn, vI pw, vI r, vI k, v8, v9], [vI k], aq_h m s F c)) rfl rfl ?_
    refine am_E.go (t2 := (289, [vR y, vI bits, vI n, vI b, vI mn, vI pw, vI r, vI k, v8, v9], [vI 201, vI k], aq_h m s F c)) rfl rfl ?_
    refine ae_icmp rfl (fun (q_1 : 201 ≤ k) => ?_) (fun (q_1 : k < 201) => ?_)
    · exact K0 k c hs hob hA (fun j j0 j1 => hS j j0 (by omega))
    · refine am_E.go (t2 := (293, [vR y, vI bits, vI n, vI b, vI mn, vI pw, vI r, vI k, v8, v9], [vR y], aq_h m s F c)) rfl rfl ?_
      refine aq_gf (v := vR (y + 22)) rfl (by omega) hFo (by decide) rfl ?_
      show am_E _ (296, [vR y, vI bits, vI n, vI b, vI mn, vI pw, vI r, vI k, v8, v9], [vR (y + 22)], aq_h m s F c) _
      refine am_E.go (t2 := (298, [vR y, vI bits, vI n, vI b, vI mn, vI pw, vI r, vI k, v8, v9], [vI k, vR (y + 22)], aq_h m s F c)) rfl rfl ?_
      refine am_E.go (t2 := (299, [vR y, vI bits, vI n, vI b, vI mn, vI pw, vI r, vI k, v8, v9], [vR y, vI k, vR (y + 22)], aq_h m s F c)) rfl rfl ?_
      refine aq_gf (v := vR (y + 23)) rfl (by omega) hFo (by decide) rfl ?_
      show am_E _ (302, [vR y, vI bits, vI n, vI b, vI mn, vI pw, vI r, vI k, v8, v9], [vR (y + 23), vI k, vR (y + 22)], aq_h m s F c) _
      refine am_E.go (t2 := (304, [vR y, vI bits, vI n, vI b, vI mn, vI pw, vI r, vI k, v8, v9], [vI k, vR (y + 23), vI k, vR (y + 22)], aq_h m s F c)) rfl rfl ?_
      refine aq_al (ok := fun k => k == 0) (v := vI (c (y + 23) k)) rfl rfl (by omega) hG23 rfl (by omega) (by omega) rfl ?_
      show am_E _ (305, [vR y, vI bits, vI n, vI b, vI mn, vI pw, vI r, vI k, v8, v9], [vI (c (y + 23) k), vI k, vR (y + 22)], aq_h m s F c) _
      refine aq_as (kd := 0) rfl rfl (by omega) hG22 (by omega) (by omega) rfl rfl ?_
      show am_E _ (306, [vR y, vI bits, vI n, vI b, vI mn, vI pw, vI r, vI k, v8, v9], [], aq_h m s F (aq_u c (y + 22) k (c (y + 23) k))) _
      generalize hdc_2 : aq_u c (y + 22) k (c (y + 23) k) = c_2
      have sc_2 := aq_smu hs hdc_2 (mo_Sk (by decide) (by decide))
      refine ae_iinc rfl rfl (am_ri (by omega) (by omega)) ?_
      show am_E _ (309, [vR y, vI bits, vI n, vI b, vI mn, vI pw, vI r, vI (k + 1), v8, v9], [], aq_h m s F c_2) _
      refine am_E.go (t2 := (284, [vR y, vI bits, vI n, vI b, vI mn, vI pw, vI r, vI (k + 1), v8, v9], [], aq_h m s F c_2)) rfl rfl ?_
      exact qx_addState_4 ⟨hm, hFo, hG5, hG6, hG7, hG8, hG9, hG10, hG11, hG12, hG13, hG14, hG15, hG16, hG17, hG18, hG19, hG20, hG21, hG22, hG23⟩ d b mn pw r (k + 1) (v8) (v9) c_2 sc_2 (by omega) (by omega) (mo_ku hob hdc_2 (Or.inl (by omega))) (fun j j0 j1 => by rw [← hdc_2, aq_un (Or.inl (by omega))]; exact hA j j0 j1) (fun j j0 j1 => by rw [← hdc_2, aq_un (Or.inl (by omega))]; exact hN j j0 j1) (fun j j0 j1 => by by_cases e : j = k; (rw [e, ← hdc_2, aq_us]; exact hN k (by omega) (by omega)); rw [← hdc_2, aq_un (Or.inr e)]; exact hS j j0 (by omega)) (by omega) K0

theorem qx_addState_3 {m s : Nat} {F : aq_F} {c0 : aq_C} {y : Nat} (hO : mo_0 m F y) {bits n : Int} {A B : Int → Int} (hbd : ∀ j, -4096 ≤ B j ∧ B j ≤ 4096) {Z : Option am_V → am_H → Prop} : ∀ (d : Nat) (b : Int) (mn : Int) (pw : Int) (r : Int) (k : Int) (v8 : am_V) (v9 : am_V) (c : aq_C) (hs : aq_sm (mo_S y) c0 c) (h0 : 0 ≤ k) (h1 : k ≤ 201) (hob : mo_k y c0 c) (hA : ∀ j, 0 ≤ j → j < 201 → c (y + 21) j = A j) (hB : ∀ j, 0 ≤ j → j < 201 → c (y + 22) j = B j) (hN : ∀ j, 0 ≤ j → j < k → c (y + 23) j = -(if j < 2 then 0 else B (j - 2)) - (if 201 ≤ j + 2 then 0 else B (j + 2))) (hd : 201 - k < (d : Int)) (K0 : ∀ (k2 : Int) (v82 : am_V) (v92 : am_V) (c2 : aq_C) (hs2 : aq_sm (mo_S y) c0 c2) (hob2 : mo_k y c0 c2) (hA2 : ∀ j, 0 ≤ j → j < 201 → c2 (y + 21) j = A j) (hN2 : ∀ j, 0 ≤ j → j < 201 → c2 (y + 23) j = -(if j < 2 then 0 else B (j - 2)) - (if 201 ≤ j + 2 then 0 else B (j + 2))), am_E ac_X5_addState (281, [vR y, vI bits, vI n, vI b, vI mn, vI pw, vI r, vI k2, v82, v92], [], aq_h m s F c2) Z), am_E ac_X5_addState (208, [vR y, vI bits, vI n, vI b, vI mn, vI pw, vI r, vI k, v8, v9], [], aq_h m s F c) Z
  | 0, b, mn, pw, r, k, v8, v9, c, hs, h0, h1, hob, hA, hB, hN, hd, K0 => by exfalso; omega
  | d + 1, b, mn, pw, r, k, v8, v9, c, hs, h0, h1, hob, hA, hB, hN, hd, K0 => by
    obtain ⟨hm, hFo, hG5, hG6, hG7, hG8, hG9, hG10, hG11, hG12, hG13, hG14, hG15, hG16, hG17, hG18, hG19, hG20, hG21, hG22, hG23⟩ := hO
    refine am_E.go (t2 := (210, [vR y, vI bits, vI n, vI b, vI mn, vI pw, vI r, vI k, v8, v9], [vI k], aq_h m s F c)) rfl rfl ?_
    refine am_E.go (t2 := (213, [vR y, vI bits, vI n, vI b, vI mn, vI pw, vI r, vI k, v8, v9], [vI 201, vI k], aq_h m s F c)) rfl rfl ?_
    refine ae_icmp rfl (fun (q_1 : 201 ≤ k) => ?_) (fun (q_1 : k < 201) => ?_)
    · exact K0 k (v8) (v9) c hs hob hA (fun j j0 j1 => hN j j0 (by omega))
    · refine am_E.go (t2 := (218, [vR y, vI bits, vI n, vI b, vI mn, vI pw, vI r, vI k, v8, v9], [vI k], aq_h m s F c)) rfl rfl ?_
      refine am_E.go (t2 := (219, [vR y, vI bits, vI n, vI b, vI mn, vI pw, vI r, vI k, v8, v9], [vI 2, vI k], aq_h m s F c)) rfl rfl ?_
      refine ae_icmp rfl (fun (q_2 : k < 2) => ?_) (fun (q_2 : 2 ≤ k) => ?_)
      · refine am_E.go (t2 := (235, [vR y, vI bits, vI n, vI b, vI mn, vI pw, vI r, vI k, v8, v9], [vI 0], aq_h m s F c)) rfl rfl ?_
        refine am_E.go (t2 := (237, [vR y, vI bits, vI n, vI b, vI mn, vI pw, vI r, vI k, vI 0, v9], [], aq_h m s F c)) rfl rfl ?_
        refine am_E.go (t2 := (239, [vR y, vI bits, vI n, vI b, vI mn, vI pw, vI r, vI k, vI 0, v9], [vI k], aq_h m s F c)) rfl rfl ?_
        refine am_E.go (t2 := (240, [vR y, vI bits, vI n, vI b, vI mn, vI pw, vI r, vI k, vI 0, v9], [vI 2, vI k], aq_h m s F c)) rfl rfl ?_
        refine ae_add rfl (am_ri (by omega) (by omega)) ?_
        show am_E _ (241, [vR y, vI bits, vI n, vI b, vI mn, vI pw, vI r, vI k, vI 0, v9], [vI (k + 2)], aq_h m s F c) _
        refine am_E.go (t2 := (244, [vR y, vI bits, vI n, vI b, vI mn, vI pw, vI r, vI k, vI 0, v9], [vI 201, vI (k + 2)], aq_h m s F c)) rfl rfl ?_
        refine ae_icmp rfl (fun (q_3 : 201 ≤ (k + 2)) => ?_) (fun (q_3 : (k + 2) < 201) => ?_)
        · refine am_E.go (t2 := (260, [vR y, vI bits, vI n, vI b, vI mn, vI pw, vI r, vI k, vI 0, v9], [vI 0], aq_h m s F c)) rfl rfl ?_
          refine am_E.go (t2 := (262, [vR y, vI bits, vI n, vI b, vI mn, vI pw, vI r, vI k, vI 0, vI 0], [], aq_h m s F c)) rfl rfl ?_
          refine am_E.go (t2 := (263, [vR y, vI bits, vI n, vI b, vI mn, vI pw, vI r, vI k, vI 0, vI 0], [vR y], aq_h m s F c)) rfl rfl ?_
          refine aq_gf (v := vR (y + 23)) rfl (by omega) hFo (by decide) rfl ?_
          show am_E _ (266, [vR y, vI bits, vI n, vI b, vI mn, vI pw, vI r, vI k, vI 0, vI 0], [vR (y + 23)], aq_h m s F c) _
          refine am_E.go (t2 := (268, [vR y, vI bits, vI n, vI b, vI mn, vI pw, vI r, vI k, vI 0, vI 0], [vI k, vR (y + 23)], aq_h m s F c)) rfl rfl ?_
          refine am_E.go (t2 := (270, [vR y, vI bits, vI n, vI b, vI mn, vI pw, vI r, vI k, vI 0, vI 0], [vI 0, vI k, vR (y + 23)], aq_h m s F c)) rfl rfl ?_
          refine ae_neg rfl (am_ri (by omega) (by omega)) ?_
          show am_E _ (271, [vR y, vI bits, vI n, vI b, vI mn, vI pw, vI r, vI k, vI 0, vI 0], [vI (-0), vI k, vR (y + 23)], aq_h m s F c) _
          refine am_E.go (t2 := (273, [vR y, vI bits, vI n, vI b, vI mn, vI pw, vI r, vI k, vI 0, vI 0], [vI 0, vI (-0), vI k, vR (y + 23)], aq_h m s F c)) rfl rfl ?_
          refine ae_sub rfl (am_ri (by omega) (by omega)) ?_
          show am_E _ (274, [vR y, vI bits, vI n, vI b, vI mn, vI pw, vI r, vI k, vI 0, vI 0], [vI ((-0) - 0), vI k, vR (y + 23)], aq_h m s F c) _
          refine aq_as (kd := 0) rfl rfl (by omega) hG23 (by omega) (by omega) rfl rfl ?_
          show am_E _ (275, [vR y, vI bits, vI n, vI b, vI mn, vI pw, vI r, vI k, vI 0, vI 0], [], aq_h m s F (aq_u c (y + 23) k ((-0) - 0))) _
          generalize hdc_4 : aq_u c (y + 23) k ((-0) - 0) = c_4
          have sc_4 := aq_smu hs hdc_4 (mo_Sk (by decide) (by decide))
          refine ae_iinc rfl rfl (am_ri (by omega) (by omega)) ?_
          show am_E _ (278, [vR y, vI bits, vI n, vI b, vI mn, vI pw, vI r, vI (k + 1), vI 0, vI 0], [], aq_h m s F c_4) _
          refine am_E.go (t2 := (208, [vR y, vI bits, vI n, vI b, vI mn, vI pw, vI r, vI (k + 1), vI 0, vI 0], [], aq_h m s F c_4)) rfl rfl ?_
          exact qx_addState_3 ⟨hm, hFo, hG5, hG6, hG7, hG8, hG9, hG10, hG11, hG12, hG13, hG14, hG15, hG16, hG17, hG18, hG19, hG20, hG21, hG22, hG23⟩ hbd d b mn pw r (k + 1) (vI 0) (vI 0) c_4 sc_4 (by omega) (by omega) (mo_ku hob hdc_4 (Or.inl (by omega))) (fun j j0 j1 => by rw [← hdc_4, aq_un (Or.inl (by omega))]; exact hA j j0 j1) (fun j j0 j1 => by rw [← hdc_4, aq_un (Or.inl (by omega))]; exact hB j j0 j1) (fun j j0 j1 => by by_cases e : j = k; (rw [e, ← hdc_4, aq_us, if_pos (by omega), if_pos (by omega)]); rw [← hdc_4, aq_un (Or.inr e)]; exact hN j j0 (by omega)) (by omega) K0
        · refine am_E.go (t2 := (248, [vR y, vI bits, vI n, vI b, vI mn, vI pw, vI r, vI k, vI 0, v9], [vR y], aq_h m s F c)) rfl rfl ?_
          refine aq_gf (v := vR (y + 22)) rfl (by omega) hFo (by decide) rfl ?_
          show am_E _ (251, [vR y, vI bits, vI n, vI b, vI mn, vI pw, vI r, vI k, vI 0, v9], [vR (y + 22)], aq_h m s F c) _
          refine am_E.go (t2 := (253, [vR y, vI bits, vI n, vI b, vI mn, vI pw, vI r, vI k, vI 0, v9], [vI k, vR (y + 22)], aq_h m s F c)) rfl rfl ?_
          refine am_E.go (t2 := (254, [vR y, vI bits, vI n, vI b, vI mn, vI pw, vI r, vI k, vI 0, v9], [vI 2, vI k, vR (y + 22)], aq_h m s F c)) rfl rfl ?_
          refine ae_add rfl (am_ri (by omega) (by omega)) ?_
          show am_E _ (255, [vR y, vI bits, vI n, vI b, vI mn, vI pw, vI r, vI k, vI 0, v9], [vI (k + 2), vR (y + 22)], aq_h m s F c) _
          refine aq_al (ok := fun k => k == 0) (v := vI (c (y + 22) (k + 2))) rfl rfl (by omega) hG22 rfl (by omega) (by omega) rfl ?_
          show am_E _ (256, [vR y, vI bits, vI n, vI b, vI mn, vI pw, vI r, vI k, vI 0, v9], [vI (c (y + 22) (k + 2))], aq_h m s F c) _
          have f_5 := hB (k + 2) (by omega) (by omega)
          have f_5b := hbd (k + 2)
          rw [f_5]
          refine am_E.go (t2 := (260, [vR y, vI bits, vI n, vI b, vI mn, vI pw, vI r, vI k, vI 0, v9], [vI (B (k + 2))], aq_h m s F c)) rfl rfl ?_
          refine am_E.go (t2 := (262, [vR y, vI bits, vI n, vI b, vI mn, vI pw, vI r, vI k, vI 0, vI (B (k + 2))], [], aq_h m s F c)) rfl rfl ?_
          refine am_E.go (t2 := (263, [vR y, vI bits, vI n, vI b, vI mn, vI pw, vI r, vI k, vI 0, vI (B (k + 2))], [vR y], aq_h m s F c)) rfl rfl ?_
          refine aq_gf (v := vR (y + 23)) rfl (by omega) hFo (by decide) rfl ?_
          show am_E _ (266, [vR y, vI bits, vI n, vI b, vI mn, vI pw, vI r, vI k, vI 0, vI (B (k + 2))], [vR (y + 23)], aq_h m s F c) _
          refine am_E.go (t2 := (268, [vR y, vI bits, vI n, vI b, vI mn, vI pw, vI r, vI k, vI 0, vI (B (k + 2))], [vI k, vR (y + 23)], aq_h m s F c)) rfl rfl ?_
          refine am_E.go (t2 := (270, [vR y, vI bits, vI n, vI b, vI mn, vI pw, vI r, vI k, vI 0, vI (B (k + 2))], [vI 0, vI k, vR (y + 23)], aq_h m s F c)) rfl rfl ?_
          refine ae_neg rfl (am_ri (by omega) (by omega)) ?_
          show am_E _ (271, [vR y, vI bits, vI n, vI b, vI mn, vI pw, vI r, vI k, vI 0, vI (B (k + 2))], [vI (-0), vI k, vR (y + 23)], aq_h m s F c) _
          refine am_E.go (t2 := (273, [vR y, vI bits, vI n, vI b, vI mn, vI pw, vI r, vI k, vI 0, vI (B (k + 2))], [vI (B (k + 2)), vI (-0), vI k, vR (y + 23)], aq_h m s F c)) rfl rfl ?_
          refine ae_sub rfl (am_ri (by omega) (by omega)) ?_
          show am_E _ (274, [vR y, vI bits, vI n, vI b, vI mn, vI pw, vI r, vI k, vI 0, vI (B (k + 2))], [vI ((-0) - (B (k + 2))), vI k, vR (y + 23)], aq_h m s F c) _
          refine aq_as (kd := 0) rfl rfl (by omega) hG23 (by omega) (by omega) rfl rfl ?_
          show am_E _ (275, [vR y, vI bits, vI n, vI b, vI mn, vI pw, vI r, vI k, vI 0, vI (B (k + 2))], [], aq_h m s F (aq_u c (y + 23) k ((-0) - (B (k + 2))))) _
          generalize hdc_6 : aq_u c (y + 23) k ((-0) - (B (k + 2))) = c_6
          have sc_6 := aq_smu hs hdc_6 (mo_Sk (by decide) (by decide))
          refine ae_iinc rfl rfl (am_ri (by omega) (by omega)) ?_
          show am_E _ (278, [vR y, vI bits, vI n, vI b, vI mn, vI pw, vI r, vI (k + 1), vI 0, vI (B (k + 2))], [], aq_h m s F c_6) _
          refine am_E.go (t2 := (208, [vR y, vI bits, vI n, vI b, vI mn, vI pw, vI r, vI (k + 1), vI 0, vI (B (k + 2))], [], aq_h m s F c_6)) rfl rfl ?_
          exact qx_addState_3 ⟨hm, hFo, hG5, hG6, hG7, hG8, hG9, hG10, hG11, hG12, hG13, hG14, hG15, hG16, hG17, hG18, hG19, hG20, hG21, hG22, hG23⟩ hbd d b mn pw r (k + 1) (vI 0) (vI (B (k + 2))) c_6 sc_6 (by omega) (by omega) (mo_ku hob hdc_6 (Or.inl (by omega))) (fun j j0 j1 => by rw [← hdc_6, aq_un (Or.inl (by omega))]; exact hA j j0 j1) (fun j j0 j1 => by rw [← hdc_6, aq_un (Or.inl (by omega))]; exact hB j j0 j1) (fun j j0 j1 => by by_cases e : j = k; (rw [e, ← hdc_6, aq_us, if_pos (by omega), if_neg (by omega)]); rw [← hdc_6, aq_un (Or.inr e)]; exact hN j j0 (by omega)) (by omega) K0
      · refine am_E.go (t2 := (223, [vR y, vI bits, vI n, vI b, vI mn, vI pw, vI r, vI k, v8, v9], [vR y], aq_h m s F c)) rfl rfl ?_
        refine aq_gf (v := vR (y + 22)) rfl (by omega) hFo (by decide) rfl ?_
        show am_E _ (226, [vR y, vI bits, vI n, vI b, vI mn, vI pw, vI r, vI k, v8, v9], [vR (y + 22)], aq_h m s F c) _
        refine am_E.go (t2 := (228, [vR y, vI bits, vI n, vI b, vI mn, vI pw, vI r, vI k, v8, v9], [vI k, vR (y + 22)], aq_h m s F c)) rfl rfl ?_
        refine am_E.go (t2 := (229, [vR y, vI bits, vI n, vI b, vI mn, vI pw, vI r, vI k, v8, v9], [vI 2, vI k, vR (y + 22)], aq_h m s F c)) rfl rfl ?_
        refine ae_sub rfl (am_ri (by omega) (by omega)) ?_
        show am_E _ (230, [vR y, vI bits, vI n, vI b, vI mn, vI pw, vI r, vI k, v8, v9], [vI (k - 2), vR (y + 22)], aq_h m s F c) _
        refine aq_al (ok := fun k => k == 0) (v := vI (c (y + 22) (k - 2))) rfl rfl (by omega) hG22 rfl (by omega) (by omega) rfl ?_
        show am_E _ (231, [vR y, vI bits, vI n, vI b, vI mn, vI pw, vI r, vI k, v8, v9], [vI (c (y + 22) (k - 2))], aq_h m s F c) _
        have f_7 := hB (k - 2) (by omega) (by omega)
        have f_7b := hbd (k - 2)
        rw [f_7]
        refine am_E.go (t2 := (235, [vR y, vI bits, vI n, vI b, vI mn, vI pw, vI r, vI k, v8, v9], [vI (B (k - 2))], aq_h m s F c)) rfl rfl ?_
        refine am_E.go (t2 := (237, [vR y, vI bits, vI n, vI b, vI mn, vI pw, vI r, vI k, vI (B (k - 2)), v9], [], aq_h m s F c)) rfl rfl ?_
        refine am_E.go (t2 := (239, [vR y, vI bits, vI n, vI b, vI mn, vI pw, vI r, vI k, vI (B (k - 2)), v9], [vI k], aq_h m s F c)) rfl rfl ?_
        refine am_E.go (t2 := (240, [vR y, vI bits, vI n, vI b, vI mn, vI pw, vI r, vI k, vI (B (k - 2)), v9], [vI 2, vI k], aq_h m s F c)) rfl rfl ?_
        refine ae_add rfl (am_ri (by omega) (by omega)) ?_
        show am_E _ (241, [vR y, vI bits, vI n, vI b, vI mn, vI pw, vI r, vI k, vI (B (k - 2)), v9], [vI (k + 2)], aq_h m s F c) _
        refine am_E.go (t2 := (244, [vR y, vI bits, vI n, vI b, vI mn, vI pw, vI r, vI k, vI (B (k - 2)), v9], [vI 201, vI (k + 2)], aq_h m s F c)) rfl rfl ?_
        refine ae_icmp rfl (fun (q_8 : 201 ≤ (k + 2)) => ?_) (fun (q_8 : (k + 2) < 201) => ?_)
        · refine am_E.go (t2 := (260, [vR y, vI bits, vI n, vI b, vI mn, vI pw, vI r, vI k, vI (B (k - 2)), v9], [vI 0], aq_h m s F c)) rfl rfl ?_
          refine am_E.go (t2 := (262, [vR y, vI bits, vI n, vI b, vI mn, vI pw, vI r, vI k, vI (B (k - 2)), vI 0], [], aq_h m s F c)) rfl rfl ?_
          refine am_E.go (t2 := (263, [vR y, vI bits, vI n, vI b, vI mn, vI pw, vI r, vI k, vI (B (k - 2)), vI 0], [vR y], aq_h m s F c)) rfl rfl ?_
          refine aq_gf (v := vR (y + 23)) rfl (by omega) hFo (by decide) rfl ?_
          show am_E _ (266, [vR y, vI bits, vI n, vI b, vI mn, vI pw, vI r, vI k, vI (B (k - 2)), vI 0], [vR (y + 23)], aq_h m s F c) _
          refine am_E.go (t2 := (268, [vR y, vI bits, vI n, vI b, vI mn, vI pw, vI r, vI k, vI (B (k - 2)), vI 0], [vI k, vR (y + 23)], aq_h m s F c)) rfl rfl ?_
          refine am_E.go (t2 := (270, [vR y, vI bits, vI n, vI b, vI mn, vI pw, vI r, vI k, vI (B (k - 2)), vI 0], [vI (B (k - 2)), vI k, vR (y + 23)], aq_h m s F c)) rfl rfl ?_
          refine ae_neg rfl (am_ri (by omega) (by omega)) ?_
          show am_E _ (271, [vR y, vI bits, vI n, vI b, vI mn, vI pw, vI r, vI k, vI (B (k - 2)), vI 0], [vI (-(B (k - 2))), vI k, vR (y + 23)], aq_h m s F c) _
          refine am_E.go (t2 := (273, [vR y, vI bits, vI n, vI b, vI mn, vI pw, vI r, vI k, vI (B (k - 2)), vI 0], [vI 0, vI (-(B (k - 2))), vI k, vR (y + 23)], aq_h m s F c)) rfl rfl ?_
          refine ae_sub rfl (am_ri (by omega) (by omega)) ?_
          show am_E _ (274, [vR y, vI bits, vI n, vI b, vI mn, vI pw, vI r, vI k, vI (B (k - 2)), vI 0], [vI ((-(B (k - 2))) - 0), vI k, vR (y + 23)], aq_h m s F c) _
          refine aq_as (kd := 0) rfl rfl (by omega) hG23 (by omega) (by omega) rfl rfl ?_
          show am_E _ (275, [vR y, vI bits, vI n, vI b, vI mn, vI pw, vI r, vI k, vI (B (k - 2)), vI 0], [], aq_h m s F (aq_u c (y + 23) k ((-(B (k - 2))) - 0))) _
          generalize hdc_9 : aq_u c (y + 23) k ((-(B (k - 2))) - 0) = c_9
          have sc_9 := aq_smu hs hdc_9 (mo_Sk (by decide) (by decide))
          refine ae_iinc rfl rfl (am_ri (by omega) (by omega)) ?_
          show am_E _ (278, [vR y, vI bits, vI n, vI b, vI mn, vI pw, vI r, vI (k + 1), vI (B (k - 2)), vI 0], [], aq_h m s F c_9) _
          refine am_E.go (t2 := (208, [vR y, vI bits, vI n, vI b, vI mn, vI pw, vI r, vI (k + 1), vI (B (k - 2)), vI 0], [], aq_h m s F c_9)) rfl rfl ?_
          exact qx_addState_3 ⟨hm, hFo, hG5, hG6, hG7, hG8, hG9, hG10, hG11, hG12, hG13, hG14, hG15, hG16, hG17, hG18, hG19, hG20, hG21, hG22, hG23⟩ hbd d b mn pw r (k + 1) (vI (B (k - 2))) (vI 0) c_9 sc_9 (by omega) (by omega) (mo_ku hob hdc_9 (Or.inl (by omega))) (fun j j0 j1 => by rw [← hdc_9, aq_un (Or.inl (by omega))]; exact hA j j0 j1) (fun j j0 j1 => by rw [← hdc_9, aq_un (Or.inl (by omega))]; exact hB j j0 j1) (fun j j0 j1 => by by_cases e : j = k; (rw [e, ← hdc_9, aq_us, if_neg (by omega), if_pos (by omega)]); rw [← hdc_9, aq_un (Or.inr e)]; exact hN j j0 (by omega)) (by omega) K0
        · refine am_E.go (t2 := (248, [vR y, vI bits, vI n, vI b, vI mn, vI pw, vI r, vI k, vI (B (k - 2)), v9], [vR y], aq_h m s F c)) rfl rfl ?_
          refine aq_gf (v := vR (y + 22)) rfl (by omega) hFo (by decide) rfl ?_
          show am_E _ (251, [vR y, vI bits, vI n, vI b, vI mn, vI pw, vI r, vI k, vI (B (k - 2)), v9], [vR (y + 22)], aq_h m s F c) _
          refine am_E.go (t2 := (253, [vR y, vI bits, vI n, vI b, vI mn, vI pw, vI r, vI k, vI (B (k - 2)), v9], [vI k, vR (y + 22)], aq_h m s F c)) rfl rfl ?_
          refine am_E.go (t2 := (254, [vR y, vI bits, vI n, vI b, vI mn, vI pw, vI r, vI k, vI (B (k - 2)), v9], [vI 2, vI k, vR (y + 22)], aq_h m s F c)) rfl rfl ?_
          refine ae_add rfl (am_ri (by omega) (by omega)) ?_
          show am_E _ (255, [vR y, vI bits, vI n, vI b, vI mn, vI pw, vI r, vI k, vI (B (k - 2)), v9], [vI (k + 2), vR (y + 22)], aq_h m s F c) _
          refine aq_al (ok := fun k => k == 0) (v := vI (c (y + 22) (k + 2))) rfl rfl (by omega) hG22 rfl (by omega) (by omega) rfl ?_
          show am_E _ (256, [vR y, vI bits, vI n, vI b, vI mn, vI pw, vI r, vI k, vI (B (k - 2)), v9], [vI (c (y + 22) (k + 2))], aq_h m s F c) _
          have f_10 := hB (k + 2) (by omega) (by omega)
          have f_10b := hbd (k + 2)
          rw [f_10]
          refine am_E.go (t2 := (260, [vR y, vI bits, vI n, vI b, vI mn, vI pw, vI r, vI k, vI (B (k - 2)), v9], [vI (B (k + 2))], aq_h m s F c)) rfl rfl ?_
          refine am_E.go (t2 := (262, [vR y, vI bits, vI n, vI b, vI mn, vI pw, vI r, vI k, vI (B (k - 2)), vI (B (k + 2))], [], aq_h m s F c)) rfl rfl ?_
          refine am_E.go (t2 := (263, [vR y, vI bits, vI n, vI b, vI mn, vI pw, vI r, vI k, vI (B (k - 2)), vI (B (k + 2))], [vR y], aq_h m s F c)) rfl rfl ?_
          refine aq_gf (v := vR (y + 23)) rfl (by omega) hFo (by decide) rfl ?_
          show am_E _ (266, [vR y, vI bits, vI n, vI b, vI mn, vI pw, vI r, vI k, vI (B (k - 2)), vI (B (k + 2))], [vR (y + 23)], aq_h m s F c) _
          refine am_E.go (t2 := (268, [vR y, vI bits, vI n, vI b, vI mn, vI pw, vI r, vI k, vI (B (k - 2)), vI (B (k + 2))], [vI k, vR (y + 23)], aq_h m s F c)) rfl rfl ?_
          refine am_E.go (t2 := (270, [vR y, vI bits, vI n, vI b, vI mn, vI pw, vI r, vI k, vI (B (k - 2)), vI (B (k + 2))], [vI (B (k - 2)), vI k, vR (y + 23)], aq_h m s F c)) rfl rfl ?_
          refine ae_neg rfl (am_ri (by omega) (by omega)) ?_
          show am_E _ (271, [vR y, vI bits, vI n, vI b, vI mn, vI pw, vI r, vI k, vI (B (k - 2)), vI (B (k + 2))], [vI (-(B (k - 2))), vI k, vR (y + 23)], aq_h m s F c) _
          refine am_E.go (t2 := (273, [vR y, vI bits, vI n, vI b, vI mn, vI pw, vI r, vI k, vI (B (k - 2)), vI (B (k + 2))], [vI (B (k + 2)), vI (-(B (k - 2))), vI k, vR (y + 23)], aq_h m s F c)) rfl rfl ?_
          refine ae_sub rfl (am_ri (by omega) (by omega)) ?_
          show am_E _ (274, [vR y, vI bits, vI n, vI b, vI mn, vI pw, vI r, vI k, vI (B (k - 2)), vI (B (k + 2))], [vI ((-(B (k - 2))) - (B (k + 2))), vI k, vR (y + 23)], aq_h m s F c) _
          refine aq_as (kd := 0) rfl rfl (by omega) hG23 (by omega) (by omega) rfl rfl ?_
          show am_E _ (275, [vR y, vI bits, vI n, vI b, vI mn, vI pw, vI r, vI k, vI (B (k - 2)), vI (B (k + 2))], [], aq_h m s F (aq_u c (y + 23) k ((-(B (k - 2))) - (B (k + 2))))) _
          generalize hdc_11 : aq_u c (y + 23) k ((-(B (k - 2))) - (B (k + 2))) = c_11
          have sc_11 := aq_smu hs hdc_11 (mo_Sk (by decide) (by decide))
          refine ae_iinc rfl rfl (am_ri (by omega) (by omega)) ?_
          show am_E _ (278, [vR y, vI bits, vI n, vI b, vI mn, vI pw, vI r, vI (k + 1), vI (B (k - 2)), vI (B (k + 2))], [], aq_h m s F c_11) _
          refine am_E.go (t2 := (208, [vR y, vI bits, vI n, vI b, vI mn, vI pw, vI r, vI (k + 1), vI (B (k - 2)), vI (B (k + 2))], [], aq_h m s F c_11)) rfl rfl ?_
          exact qx_addState_3 ⟨hm, hFo, hG5, hG6, hG7, hG8, hG9, hG10, hG11, hG12, hG13, hG14, hG15, hG16, hG17, hG18, hG19, hG20, hG21, hG22, hG23⟩ hbd d b mn pw r (k + 1) (vI (B (k - 2))) (vI (B (k + 2))) c_11 sc_11 (by omega) (by omega) (mo_ku hob hdc_11 (Or.inl (by omega))) (fun j j0 j1 => by rw [← hdc_11, aq_un (Or.inl (by omega))]; exact hA j j0 j1) (fun j j0 j1 => by rw [← hdc_11, aq_un (Or.inl (by omega))]; exact hB j j0 j1) (fun j j0 j1 => by by_cases e : j = k; (rw [e, ← hdc_11, aq_us, if_neg (by omega), if_neg (by omega)]); rw [← hdc_11, aq_un (Or.inr e)]; exact hN j j0 (by omega)) (by omega) K0

theorem qx_addState_2 {m s : Nat} {F : aq_F} {c0 : aq_C} {y : Nat} (hO : mo_0 m F y) {bits n b mn pw : Int} {A : Int → Int} (hw0 : -8 ≤ pw) (hw1 : pw ≤ 8) (hm1 : 1 ≤ mn) (hm2 : mn ≤ 12) : ∀ (d : Nat) (r : Int) (v7 : am_V) (v8 : am_V) (v9 : am_V) (c : aq_C) (hs : aq_sm (mo_S y) c0 c) (h0 : 1 ≤ r) (h1 : r ≤ mn) (hob : mo_k y c0 c) (hA : ∀ j, 0 ≤ j → j < 201 → c (y + 21) j = A j) (hB : ∀ j, 0 ≤ j → j < 201 → c (y + 22) j = pB (r - 1).toNat (j - 100 - pw)) (hd : mn - r < (d : Int)), am_E ac_X5_addState (198, [vR y, vI bits, vI n, vI b, vI mn, vI pw, vI r, v7, v8, v9], [], aq_h m s F c) (aq_Z m s F (mo_S y) c0 (fun r d => r = none ∧ mo_k y c0 d ∧ ∀ j, 0 ≤ j → j < 201 → d (y + 21) j = am_w (A j + pB (mn - 1).toNat (j - 100 - pw))))
  | 0, r, v7, v8, v9, c, hs, h0, h1, hob, hA, hB, hd => by exfalso; omega
  | d + 1, r, v7, v8, v9, c, hs, h0, h1, hob, hA, hB, hd => by
    obtain ⟨hm, hFo, hG5, hG6, hG7, hG8, hG9, hG10, hG11, hG12, hG13, hG14, hG15, hG16, hG17, hG18, hG19, hG20, hG21, hG22, hG23⟩ := hO
    refine am_E.go (t2 := (200, [vR y, vI bits, vI n, vI b, vI mn, vI pw, vI r, v7, v8, v9], [vI r], aq_h m s F c)) rfl rfl ?_
    refine am_E.go (t2 := (202, [vR y, vI bits, vI n, vI b, vI mn, vI pw, vI r, v7, v8, v9], [vI mn, vI r], aq_h m s F c)) rfl rfl ?_
    refine ae_icmp rfl (fun (q_1 : mn ≤ r) => ?_) (fun (q_1 : r < mn) => ?_)
    · refine am_E.go (t2 := (319, [vR y, vI bits, vI n, vI b, vI mn, vI pw, vI r, v7, v8, v9], [vI 0], aq_h m s F c)) rfl rfl ?_
      refine am_E.go (t2 := (321, [vR y, vI bits, vI n, vI b, vI mn, vI pw, vI 0, v7, v8, v9], [], aq_h m s F c)) rfl rfl ?_
      exact qx_addState_5 ⟨hm, hFo, hG5, hG6, hG7, hG8, hG9, hG10, hG11, hG12, hG13, hG14, hG15, hG16, hG17, hG18, hG19, hG20, hG21, hG22, hG23⟩ (A := A) (B := fun j => pB (mn - 1).toNat (j - 100 - pw)) 203 b mn pw 0 (v7) (v8) (v9) c hs (by omega) (by omega) hob (fun j j0 j1 => by rw [if_neg (by omega)]; exact hA j j0 j1) (fun j j0 j1 => by rw [hB j j0 j1, show r = mn by omega]) (by omega)
    · refine am_E.go (t2 := (206, [vR y, vI bits, vI n, vI b, vI mn, vI pw, vI r, v7, v8, v9], [vI 0], aq_h m s F c)) rfl rfl ?_
      refine am_E.go (t2 := (208, [vR y, vI bits, vI n, vI b, vI mn, vI pw, vI r, vI 0, v8, v9], [], aq_h m s F c)) rfl rfl ?_
      refine qx_addState_3 ⟨hm, hFo, hG5, hG6, hG7, hG8, hG9, hG10, hG11, hG12, hG13, hG14, hG15, hG16, hG17, hG18, hG19, hG20, hG21, hG22, hG23⟩ (A := A) (B := fun j => pB (r - 1).toNat (j - 100 - pw)) (fun j => pB_r (by omega)) 203 b mn pw r 0 (v8) (v9) c hs (by omega) (by omega) hob hA hB (fun j j0 j1 => absurd j1 (by omega)) (by omega) ?_
      · intro k2_208 v82_208 v92_208 c_2 sc_2 hob2_208 hA2_208 hN2_208
        refine am_E.go (t2 := (282, [vR y, vI bits, vI n, vI b, vI mn, vI pw, vI r, vI k2_208, v82_208, v92_208], [vI 0], aq_h m s F c_2)) rfl rfl ?_
        refine am_E.go (t2 := (284, [vR y, vI bits, vI n, vI b, vI mn, vI pw, vI r, vI 0, v82_208, v92_208], [], aq_h m s F c_2)) rfl rfl ?_
        refine qx_addState_4 ⟨hm, hFo, hG5, hG6, hG7, hG8, hG9, hG10, hG11, hG12, hG13, hG14, hG15, hG16, hG17, hG18, hG19, hG20, hG21, hG22, hG23⟩ (A := A) 203 b mn pw r 0 (v82_208) (v92_208) c_2 sc_2 (by omega) (by omega) hob2_208 hA2_208 hN2_208 (fun j j0 j1 => absurd j1 (by omega)) (by omega) ?_
        · intro k2_284 c_3 sc_3 hob2_284 hA2_284 hB2_284
          refine ae_iinc rfl rfl (am_ri (by omega) (by omega)) ?_
          show am_E _ (315, [vR y, vI bits, vI n, vI b, vI mn, vI pw, vI (r + 1), vI k2_284, (v82_208), (v92_208)], [], aq_h m s F c_3) _
          refine am_E.go (t2 := (198, [vR y, vI bits, vI n, vI b, vI mn, vI pw, vI (r + 1), vI k2_284, (v82_208), (v92_208)], [], aq_h m s F c_3)) rfl rfl ?_
          exact qx_addState_2 ⟨hm, hFo, hG5, hG6, hG7, hG8, hG9, hG10, hG11, hG12, hG13, hG14, hG15, hG16, hG17, hG18, hG19, hG20, hG21, hG22, hG23⟩ hw0 hw1 hm1 hm2 d (r + 1) (vI k2_284) ((v82_208)) ((v92_208)) c_3 sc_3 (by omega) (by omega) hob2_284 hA2_284 (fun j j0 j1 => by rw [hB2_284 j j0 j1, pB_n (by omega) hw0 hw1 j0 j1]; congr 1; omega) (by omega)

theorem qx_addState_1 {m s : Nat} {F : aq_F} {c0 : aq_C} {y : Nat} (hO : mo_0 m F y) {bits n b mn pw : Int} {A : Int → Int} (hw0 : -8 ≤ pw) (hw1 : pw ≤ 8) (hm1 : 1 ≤ mn) (hm2 : mn ≤ 12) : ∀ (d : Nat) (k : Int) (v7 : am_V) (v8 : am_V) (v9 : am_V) (c : aq_C) (hs : aq_sm (mo_S y) c0 c) (h0 : 0 ≤ k) (h1 : k ≤ 201) (hob : mo_k y c0 c) (hA : ∀ j, 0 ≤ j → j < 201 → c (y + 21) j = A j) (hB : ∀ j, 0 ≤ j → j < k → c (y + 22) j = pB 0 (j - 100 - pw)) (hd : 201 - k < (d : Int)), am_E ac_X5_addState (159, [vR y, vI bits, vI n, vI b, vI mn, vI pw, vI k, v7, v8, v9], [], aq_h m s F c) (aq_Z m s F (mo_S y) c0 (fun r d => r = none ∧ mo_k y c0 d ∧ ∀ j, 0 ≤ j → j < 201 → d (y + 21) j = am_w (A j + pB (mn - 1).toNat (j - 100 - pw))))
  | 0, k, v7, v8, v9, c, hs, h0, h1, hob, hA, hB, hd => by exfalso; omega
  | d + 1, k, v7, v8, v9, c, hs, h0, h1, hob, hA, hB, hd => by
    obtain ⟨hm, hFo, hG5, hG6, hG7, hG8, hG9, hG10, hG11, hG12, hG13, hG14, hG15, hG16, hG17, hG18, hG19, hG20, hG21, hG22, hG23⟩ := hO
    refine am_E.go (t2 := (161, [vR y, vI bits, vI n, vI b, vI mn, vI pw, vI k, v7, v8, v9], [vI k], aq_h m s F c)) rfl rfl ?_
    refine am_E.go (t2 := (164, [vR y, vI bits, vI n, vI b, vI mn, vI pw, vI k, v7, v8, v9], [vI 201, vI k], aq_h m s F c)) rfl rfl ?_
    refine ae_icmp rfl (fun (q_1 : 201 ≤ k) => ?_) (fun (q_1 : k < 201) => ?_)
    · refine am_E.go (t2 := (196, [vR y, vI bits, vI n, vI b, vI mn, vI pw, vI k, v7, v8, v9], [vI 1], aq_h m s F c)) rfl rfl ?_
      refine am_E.go (t2 := (198, [vR y, vI bits, vI n, vI b, vI mn, vI pw, vI 1, v7, v8, v9], [], aq_h m s F c)) rfl rfl ?_
      exact qx_addState_2 ⟨hm, hFo, hG5, hG6, hG7, hG8, hG9, hG10, hG11, hG12, hG13, hG14, hG15, hG16, hG17, hG18, hG19, hG20, hG21, hG22, hG23⟩ hw0 hw1 hm1 hm2 13 1 (v7) (v8) (v9) c hs (by omega) (by omega) hob hA (fun j j0 j1 => hB j j0 (by omega)) (by omega)
    · refine am_E.go (t2 := (168, [vR y, vI bits, vI n, vI b, vI mn, vI pw, vI k, v7, v8, v9], [vR y], aq_h m s F c)) rfl rfl ?_
      refine aq_gf (v := vR (y + 22)) rfl (by omega) hFo (by decide) rfl ?_
      show am_E _ (171, [vR y, vI bits, vI n, vI b, vI mn, vI pw, vI k, v7, v8, v9], [vR (y + 22)], aq_h m s F c) _
      refine am_E.go (t2 := (173, [vR y, vI bits, vI n, vI b, vI mn, vI pw, vI k, v7, v8, v9], [vI k, vR (y + 22)], aq_h m s F c)) rfl rfl ?_
      refine am_E.go (t2 := (175, [vR y, vI bits, vI n, vI b, vI mn, vI pw, vI k, v7, v8, v9], [vI k, vI k, vR (y + 22)], aq_h m s F c)) rfl rfl ?_
      refine am_E.go (t2 := (177, [vR y, vI bits, vI n, vI b, vI mn, vI pw, vI k, v7, v8, v9], [vI 100, vI k, vI k, vR (y + 22)], aq_h m s F c)) rfl rfl ?_
      refine am_E.go (t2 := (179, [vR y, vI bits, vI n, vI b, vI mn, vI pw, vI k, v7, v8, v9], [vI pw, vI 100, vI k, vI k, vR (y + 22)], aq_h m s F c)) rfl rfl ?_
      refine ae_add rfl (am_ri (by omega) (by omega)) ?_
      show am_E _ (180, [vR y, vI bits, vI n, vI b, vI mn, vI pw, vI k, v7, v8, v9], [vI (100 + pw), vI k, vI k, vR (y + 22)], aq_h m s F c) _
      refine ae_icmp rfl (fun (q_2 : k ≠ (100 + pw)) => ?_) (fun (q_2 : k = (100 + pw)) => ?_)
      · refine am_E.go (t2 := (188, [vR y, vI bits, vI n, vI b, vI mn, vI pw, vI k, v7, v8, v9], [vI 0, vI k, vR (y + 22)], aq_h m s F c)) rfl rfl ?_
        refine aq_as (kd := 0) rfl rfl (by omega) hG22 (by omega) (by omega) rfl rfl ?_
        show am_E _ (189, [vR y, vI bits, vI n, vI b, vI mn, vI pw, vI k, v7, v8, v9], [], aq_h m s F (aq_u c (y + 22) k 0)) _
        generalize hdc_3 : aq_u c (y + 22) k 0 = c_3
        have sc_3 := aq_smu hs hdc_3 (mo_Sk (by decide) (by decide))
        refine ae_iinc rfl rfl (am_ri (by omega) (by omega)) ?_
        show am_E _ (192, [vR y, vI bits, vI n, vI b, vI mn, vI pw, vI (k + 1), v7, v8, v9], [], aq_h m s F c_3) _
        refine am_E.go (t2 := (159, [vR y, vI bits, vI n, vI b, vI mn, vI pw, vI (k + 1), v7, v8, v9], [], aq_h m s F c_3)) rfl rfl ?_
        exact qx_addState_1 ⟨hm, hFo, hG5, hG6, hG7, hG8, hG9, hG10, hG11, hG12, hG13, hG14, hG15, hG16, hG17, hG18, hG19, hG20, hG21, hG22, hG23⟩ hw0 hw1 hm1 hm2 d (k + 1) (v7) (v8) (v9) c_3 sc_3 (by omega) (by omega) (mo_ku hob hdc_3 (Or.inl (by omega))) (fun j j0 j1 => by rw [← hdc_3, aq_un (Or.inl (by omega))]; exact hA j j0 j1) (fun j j0 j1 => by by_cases e : j = k; (rw [e, ← hdc_3, aq_us, pB]; first | rw [if_pos (by omega)] | rw [if_neg (by omega)]); rw [← hdc_3, aq_un (Or.inr e)]; exact hB j j0 (by omega)) (by omega)
      · refine am_E.go (t2 := (184, [vR y, vI bits, vI n, vI b, vI mn, vI pw, vI k, v7, v8, v9], [vI 1, vI k, vR (y + 22)], aq_h m s F c)) rfl rfl ?_
        refine am_E.go (t2 := (188, [vR y, vI bits, vI n, vI b, vI mn, vI pw, vI k, v7, v8, v9], [vI 1, vI k, vR (y + 22)], aq_h m s F c)) rfl rfl ?_
        refine aq_as (kd := 0) rfl rfl (by omega) hG22 (by omega) (by omega) rfl rfl ?_
        show am_E _ (189, [vR y, vI bits, vI n, vI b, vI mn, vI pw, vI k, v7, v8, v9], [], aq_h m s F (aq_u c (y + 22) k 1)) _
        generalize hdc_4 : aq_u c (y + 22) k 1 = c_4
        have sc_4 := aq_smu hs hdc_4 (mo_Sk (by decide) (by decide))
        refine ae_iinc rfl rfl (am_ri (by omega) (by omega)) ?_
        show am_E _ (192, [vR y, vI bits, vI n, vI b, vI mn, vI pw, vI (k + 1), v7, v8, v9], [], aq_h m s F c_4) _
        refine am_E.go (t2 := (159, [vR y, vI bits, vI n, vI b, vI mn, vI pw, vI (k + 1), v7, v8, v9], [], aq_h m s F c_4)) rfl rfl ?_
        exact qx_addState_1 ⟨hm, hFo, hG5, hG6, hG7, hG8, hG9, hG10, hG11, hG12, hG13, hG14, hG15, hG16, hG17, hG18, hG19, hG20, hG21, hG22, hG23⟩ hw0 hw1 hm1 hm2 d (k + 1) (v7) (v8) (v9) c_4 sc_4 (by omega) (by omega) (mo_ku hob hdc_4 (Or.inl (by omega))) (fun j j0 j1 => by rw [← hdc_4, aq_un (Or.inl (by omega))]; exact hA j j0 j1) (fun j j0 j1 => by by_cases e : j = k; (rw [e, ← hdc_4, aq_us, pB]; first | rw [if_pos (by omega)] | rw [if_neg (by omega)]); rw [← hdc_4, aq_un (Or.inr e)]; exact hB j j0 (by omega)) (by omega)
