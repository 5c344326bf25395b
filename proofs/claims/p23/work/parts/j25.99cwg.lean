
theorem qx_addState_0 {m s : Nat} {F : aq_F} {c0 : aq_C} {y : Nat} (hO : mo_0 m F y) {tbl : Int → Int} (hT : mo_T F y tbl) (hr : mo_r y c0) {bits n : Int} (hn : n = c0 y 9) {A : Int → Int} {Q : Int × Int × Int} {Z : Option am_V → am_H → Prop} : ∀ (d : Nat) (b : Int) (mn : Int) (pw : Int) (k : Int) (v7 : am_V) (v8 : am_V) (v9 : am_V) (c : aq_C) (hs : aq_sm (mo_S y) c0 c) (h0 : 0 ≤ k) (h1 : k ≤ c0 y 10) (h2 : 0 ≤ b) (h3 : b < bx_K n) (h4 : 0 ≤ mn) (h5 : mn ≤ k) (h6 : -k ≤ pw) (h7 : pw ≤ k) (hob : mo_k y c0 c) (hA : ∀ j, 0 ≤ j → j < 201 → c (y + 21) j = A j) (hq : sw_ (c0 (y + 10)) n (c0 y 10) bits d k b mn pw = Q) (hd : c0 y 10 - k < (d : Int)) (K0 : ∀ (b2 : Int) (mn2 : Int) (pw2 : Int) (k2 : Int) (v72 : am_V) (v82 : am_V) (v92 : am_V) (c2 : aq_C) (hs2 : aq_sm (mo_S y) c0 c2) (f1 : 0 ≤ b2) (f2 : b2 < bx_K n) (f3 : 0 ≤ mn2) (f4 : mn2 ≤ 8) (f5 : -8 ≤ pw2) (f6 : pw2 ≤ 8) (hob2 : mo_k y c0 c2) (hA2 : ∀ j, 0 ≤ j → j < 201 → c2 (y + 21) j = A j) (fq : Q = (b2, mn2, pw2)), am_E ac_X5_addState (145, [vR y, vI bits, vI n, vI b2, vI mn2, vI pw2, vI k2, v72, v82, v92], [], aq_h m s F c2) Z), am_E ac_X5_addState (21, [vR y, vI bits, vI n, vI b, vI mn, vI pw, vI k, v7, v8, v9], [], aq_h m s F c) Z
  | 0, b, mn, pw, k, v7, v8, v9, c, hs, h0, h1, h2, h3, h4, h5, h6, h7, hob, hA, hq, hd, K0 => by exfalso; omega
  | d + 1, b, mn, pw, k, v7, v8, v9, c, hs, h0, h1, h2, h3, h4, h5, h6, h7, hob, hA, hq, hd, K0 => by
    obtain ⟨hm, hFo, hG5, hG6, hG7, hG8, hG9, hG10, hG11, hG12, hG13, hG14, hG15, hG16, hG17, hG18, hG19, hG20, hG21, hG22, hG23⟩ := hO
    obtain ⟨hT1, hTt⟩ := hT
    obtain ⟨hr0, hr1, hr2, hr3, hr4⟩ := id hr
    refine am_E.go (t2 := (23, [vR y, vI bits, vI n, vI b, vI mn, vI pw, vI k, v7, v8, v9], [vI k], aq_h m s F c)) rfl rfl ?_
    refine am_E.go (t2 := (24, [vR y, vI bits, vI n, vI b, vI mn, vI pw, vI k, v7, v8, v9], [vR y, vI k], aq_h m s F c)) rfl rfl ?_
    refine aq_gf (v := vI (c y 10)) rfl (by omega) hFo (by decide) rfl ?_
    show am_E _ (27, [vR y, vI bits, vI n, vI b, vI mn, vI pw, vI k, v7, v8, v9], [vI (c y 10), vI k], aq_h m s F c) _
    have f_1 := (hob).2.1
    refine ae_icmp rfl (fun (q_2 : (c y 10) ≤ k) => ?_) (fun (q_2 : k < (c y 10)) => ?_)
    · exact K0 b mn pw k (v7) (v8) (v9) c hs (by omega) (by omega) (by omega) (by omega) (by omega) (by omega) hob hA (by rw [← hq, sw_, if_neg (show ¬ k < c0 y 10 by omega)])
    · refine am_E.go (t2 := (31, [vR y, vI bits, vI n, vI b, vI mn, vI pw, vI k, v7, v8, v9], [vI bits], aq_h m s F c)) rfl rfl ?_
      refine am_E.go (t2 := (33, [vR y, vI bits, vI n, vI b, vI mn, vI pw, vI k, v7, v8, v9], [vI k, vI bits], aq_h m s F c)) rfl rfl ?_
      refine am_E.go (t2 := (34, [vR y, vI bits, vI n, vI b, vI mn, vI pw, vI k, v7, v8, v9], [vI (am_shri bits k)], aq_h m s F c)) rfl rfl ?_
      refine am_E.go (t2 := (35, [vR y, vI bits, vI n, vI b, vI mn, vI pw, vI k, v7, v8, v9], [vI 1, vI (am_shri bits k)], aq_h m s F c)) rfl rfl ?_
      refine am_E.go (t2 := (36, [vR y, vI bits, vI n, vI b, vI mn, vI pw, vI k, v7, v8, v9], [vI (am_and (am_shri bits k) 1)], aq_h m s F c)) rfl rfl ?_
      refine am_E.go (t2 := (37, [vR y, vI bits, vI n, vI b, vI mn, vI pw, vI k, v7, v8, v9], [vI 1, vI (am_and (am_shri bits k) 1)], aq_h m s F c)) rfl rfl ?_
      refine ae_icmp rfl (fun (q_3 : (am_and (am_shri bits k) 1) ≠ 1) => ?_) (fun (q_3 : (am_and (am_shri bits k) 1) = 1) => ?_)
      · refine am_E.go (t2 := (45, [vR y, vI bits, vI n, vI b, vI mn, vI pw, vI k, v7, v8, v9], [vI 0], aq_h m s F c)) rfl rfl ?_
        refine am_E.go (t2 := (47, [vR y, vI bits, vI n, vI b, vI mn, vI pw, vI k, vI 0, v8, v9], [], aq_h m s F c)) rfl rfl ?_
        refine am_E.go (t2 := (48, [vR y, vI bits, vI n, vI b, vI mn, vI pw, vI k, vI 0, v8, v9], [vR y], aq_h m s F c)) rfl rfl ?_
        refine aq_gf (v := vR (y + 10)) rfl (by omega) hFo (by decide) rfl ?_
        show am_E _ (51, [vR y, vI bits, vI n, vI b, vI mn, vI pw, vI k, vI 0, v8, v9], [vR (y + 10)], aq_h m s F c) _
        refine am_E.go (t2 := (53, [vR y, vI bits, vI n, vI b, vI mn, vI pw, vI k, vI 0, v8, v9], [vI k, vR (y + 10)], aq_h m s F c)) rfl rfl ?_
        refine aq_al (ok := fun k => k == 0) (v := vI (c (y + 10) k)) rfl rfl (by omega) hG10 rfl (by omega) (by omega) rfl ?_
        show am_E _ (54, [vR y, vI bits, vI n, vI b, vI mn, vI pw, vI k, vI 0, v8, v9], [vI (c (y + 10) k)], aq_h m s F c) _
        have f_4 := hs (y + 10) (mo_n (by decide) (by decide)) k
        have f_4b := hr4 k (by omega) (by omega)
        refine ae_if0 rfl (fun (q_5 : 0 ≤ (c (y + 10) k)) => ?_) (fun (q_5 : (c (y + 10) k) < 0) => ?_)
        · refine am_E.go (t2 := (69, [vR y, vI bits, vI n, vI b, vI mn, vI pw, vI k, vI 0, v8, v9], [vR y], aq_h m s F c)) rfl rfl ?_
          refine aq_gf (v := vR (y + 10)) rfl (by omega) hFo (by decide) rfl ?_
          show am_E _ (72, [vR y, vI bits, vI n, vI b, vI mn, vI pw, vI k, vI 0, v8, v9], [vR (y + 10)], aq_h m s F c) _
          refine am_E.go (t2 := (74, [vR y, vI bits, vI n, vI b, vI mn, vI pw, vI k, vI 0, v8, v9], [vI k, vR (y + 10)], aq_h m s F c)) rfl rfl ?_
          refine aq_al (ok := fun k => k == 0) (v := vI (c (y + 10) k)) rfl rfl (by omega) hG10 rfl (by omega) (by omega) rfl ?_
          show am_E _ (75, [vR y, vI bits, vI n, vI b, vI mn, vI pw, vI k, vI 0, v8, v9], [vI (c (y + 10) k)], aq_h m s F c) _
          have f_6 := hs (y + 10) (mo_n (by decide) (by decide)) k
          have f_6b := hr4 k (by omega) (by omega)
          refine am_E.go (t2 := (77, [vR y, vI bits, vI n, vI b, vI mn, vI pw, vI k, vI 0, vI (c (y + 10) k), v9], [], aq_h m s F c)) rfl rfl ?_
          refine am_E.go (t2 := (79, [vR y, vI bits, vI n, vI b, vI mn, vI pw, vI k, vI 0, vI (c (y + 10) k), v9], [vI pw], aq_h m s F c)) rfl rfl ?_
          refine am_E.go (t2 := (81, [vR y, vI bits, vI n, vI b, vI mn, vI pw, vI k, vI 0, vI (c (y + 10) k), v9], [vI 0, vI pw], aq_h m s F c)) rfl rfl ?_
          refine am_E.go (t2 := (82, [vR y, vI bits, vI n, vI b, vI mn, vI pw, vI k, vI 0, vI (c (y + 10) k), v9], [vR y, vI 0, vI pw], aq_h m s F c)) rfl rfl ?_
          refine aq_gf (v := vR (y + 10)) rfl (by omega) hFo (by decide) rfl ?_
          show am_E _ (85, [vR y, vI bits, vI n, vI b, vI mn, vI pw, vI k, vI 0, vI (c (y + 10) k), v9], [vR (y + 10), vI 0, vI pw], aq_h m s F c) _
          refine am_E.go (t2 := (87, [vR y, vI bits, vI n, vI b, vI mn, vI pw, vI k, vI 0, vI (c (y + 10) k), v9], [vI k, vR (y + 10), vI 0, vI pw], aq_h m s F c)) rfl rfl ?_
          refine aq_al (ok := fun k => k == 0) (v := vI (c (y + 10) k)) rfl rfl (by omega) hG10 rfl (by omega) (by omega) rfl ?_
          show am_E _ (88, [vR y, vI bits, vI n, vI b, vI mn, vI pw, vI k, vI 0, vI (c (y + 10) k), v9], [vI (c (y + 10) k), vI 0, vI pw], aq_h m s F c) _
          have f_7 := hs (y + 10) (mo_n (by decide) (by decide)) k
          have f_7b := hr4 k (by omega) (by omega)
          refine ae_if0 rfl (fun (q_8 : 0 ≤ (c (y + 10) k)) => ?_) (fun (q_8 : (c (y + 10) k) < 0) => ?_)
          · refine am_E.go (t2 := (96, [vR y, vI bits, vI n, vI b, vI mn, vI pw, vI k, vI 0, vI (c (y + 10) k), v9], [vI 0, vI 0, vI pw], aq_h m s F c)) rfl rfl ?_
            refine am_E.go (t2 := (99, [vR y, vI bits, vI n, vI b, vI mn, vI pw, vI k, vI 0, vI (c (y + 10) k), v9], [vI pw], aq_h m s F c)) rfl rfl ?_
            refine am_E.go (t2 := (100, [vR y, vI bits, vI n, vI b, vI mn, vI pw, vI k, vI 0, vI (c (y + 10) k), v9], [vI 1, vI pw], aq_h m s F c)) rfl rfl ?_
            refine am_E.go (t2 := (104, [vR y, vI bits, vI n, vI b, vI mn, vI pw, vI k, vI 0, vI (c (y + 10) k), v9], [vI 1, vI pw], aq_h m s F c)) rfl rfl ?_
            refine ae_add rfl (am_ri (by omega) (by omega)) ?_
            show am_E _ (105, [vR y, vI bits, vI n, vI b, vI mn, vI pw, vI k, vI 0, vI (c (y + 10) k), v9], [vI (pw + 1)], aq_h m s F c) _
            refine am_E.go (t2 := (107, [vR y, vI bits, vI n, vI b, vI mn, vI (pw + 1), vI k, vI 0, vI (c (y + 10) k), v9], [], aq_h m s F c)) rfl rfl ?_
            refine am_E.go (t2 := (109, [vR y, vI bits, vI n, vI b, vI mn, vI (pw + 1), vI k, vI 0, vI (c (y + 10) k), v9], [vI 0], aq_h m s F c)) rfl rfl ?_
            refine am_E.go (t2 := (139, [vR y, vI bits, vI n, vI b, vI mn, vI (pw + 1), vI k, vI 0, vI (c (y + 10) k), v9], [], aq_h m s F c)) rfl rfl ?_
            refine ae_iinc rfl rfl (am_ri (by omega) (by omega)) ?_
            show am_E _ (142, [vR y, vI bits, vI n, vI b, vI mn, vI (pw + 1), vI (k + 1), vI 0, vI (c (y + 10) k), v9], [], aq_h m s F c) _
            refine am_E.go (t2 := (21, [vR y, vI bits, vI n, vI b, vI mn, vI (pw + 1), vI (k + 1), vI 0, vI (c (y + 10) k), v9], [], aq_h m s F c)) rfl rfl ?_
            exact qx_addState_0 ⟨hm, hFo, hG5, hG6, hG7, hG8, hG9, hG10, hG11, hG12, hG13, hG14, hG15, hG16, hG17, hG18, hG19, hG20, hG21, hG22, hG23⟩ ⟨hT1, hTt⟩ hr hn d b mn (pw + 1) (k + 1) (vI 0) (vI (c (y + 10) k)) (v9) c hs (by omega) (by omega) (by omega) (by omega) (by omega) (by omega) (by omega) (by omega) hob hA (by first | (exfalso; omega) | (rw [← hq, sw_, if_pos (show k < c0 y 10 by omega), if_neg (show ¬ am_and (am_shri bits k) 1 = 1 by omega), if_neg (show ¬ c0 (y + 10) k < 0 by omega)])) (by omega) K0
          · refine am_E.go (t2 := (92, [vR y, vI bits, vI n, vI b, vI mn, vI pw, vI k, vI 0, vI (c (y + 10) k), v9], [vI 1, vI 0, vI pw], aq_h m s F c)) rfl rfl ?_
            refine am_E.go (t2 := (96, [vR y, vI bits, vI n, vI b, vI mn, vI pw, vI k, vI 0, vI (c (y + 10) k), v9], [vI 1, vI 0, vI pw], aq_h m s F c)) rfl rfl ?_
            refine am_E.go (t2 := (103, [vR y, vI bits, vI n, vI b, vI mn, vI pw, vI k, vI 0, vI (c (y + 10) k), v9], [vI pw], aq_h m s F c)) rfl rfl ?_
            refine am_E.go (t2 := (104, [vR y, vI bits, vI n, vI b, vI mn, vI pw, vI k, vI 0, vI (c (y + 10) k), v9], [vI (-1), vI pw], aq_h m s F c)) rfl rfl ?_
            refine ae_add rfl (am_ri (by omega) (by omega)) ?_
            show am_E _ (105, [vR y, vI bits, vI n, vI b, vI mn, vI pw, vI k, vI 0, vI (c (y + 10) k), v9], [vI (pw + (-1))], aq_h m s F c) _
            refine am_E.go (t2 := (107, [vR y, vI bits, vI n, vI b, vI mn, vI (pw + (-1)), vI k, vI 0, vI (c (y + 10) k), v9], [], aq_h m s F c)) rfl rfl ?_
            refine am_E.go (t2 := (109, [vR y, vI bits, vI n, vI b, vI mn, vI (pw + (-1)), vI k, vI 0, vI (c (y + 10) k), v9], [vI 0], aq_h m s F c)) rfl rfl ?_
            refine am_E.go (t2 := (139, [vR y, vI bits, vI n, vI b, vI mn, vI (pw + (-1)), vI k, vI 0, vI (c (y + 10) k), v9], [], aq_h m s F c)) rfl rfl ?_
            refine ae_iinc rfl rfl (am_ri (by omega) (by omega)) ?_
            show am_E _ (142, [vR y, vI bits, vI n, vI b, vI mn, vI (pw + (-1)), vI (k + 1), vI 0, vI (c (y + 10) k), v9], [], aq_h m s F c) _
            refine am_E.go (t2 := (21, [vR y, vI bits, vI n, vI b, vI mn, vI (pw + (-1)), vI (k + 1), vI 0, vI (c (y + 10) k), v9], [], aq_h m s F c)) rfl rfl ?_
            exact qx_addState_0 ⟨hm, hFo, hG5, hG6, hG7, hG8, hG9, hG10, hG11, hG12, hG13, hG14, hG15, hG16, hG17, hG18, hG19, hG20, hG21, hG22, hG23⟩ ⟨hT1, hTt⟩ hr hn d b mn (pw + (-1)) (k + 1) (vI 0) (vI (c (y + 10) k)) (v9) c hs (by omega) (by omega) (by omega) (by omega) (by omega) (by omega) (by omega) (by omega) hob hA (by first | (exfalso; omega) | (rw [← hq, sw_, if_pos (show k < c0 y 10 by omega), if_neg (show ¬ am_and (am_shri bits k) 1 = 1 by omega), if_neg (show ¬ c0 (y + 10) k < 0 by omega)])) (by omega) K0
        · refine am_E.go (t2 := (58, [vR y, vI bits, vI n, vI b, vI mn, vI pw, vI k, vI 0, v8, v9], [vR y], aq_h m s F c)) rfl rfl ?_
          refine aq_gf (v := vR (y + 10)) rfl (by omega) hFo (by decide) rfl ?_
          show am_E _ (61, [vR y, vI bits, vI n, vI b, vI mn, vI pw, vI k, vI 0, v8, v9], [vR (y + 10)], aq_h m s F c) _
          refine am_E.go (t2 := (63, [vR y, vI bits, vI n, vI b, vI mn, vI pw, vI k, vI 0, v8, v9], [vI k, vR (y + 10)], aq_h m s F c)) rfl rfl ?_
          refine aq_al (ok := fun k => k == 0) (v := vI (c (y + 10) k)) rfl rfl (by omega) hG10 rfl (by omega) (by omega) rfl ?_
          show am_E _ (64, [vR y, vI bits, vI n, vI b, vI mn, vI pw, vI k, vI 0, v8, v9], [vI (c (y + 10) k)], aq_h m s F c) _
          have f_9 := hs (y + 10) (mo_n (by decide) (by decide)) k
          have f_9b := hr4 k (by omega) (by omega)
          refine ae_neg rfl (am_ri (by omega) (by omega)) ?_
          show am_E _ (65, [vR y, vI bits, vI n, vI b, vI mn, vI pw, vI k, vI 0, v8, v9], [vI (-(c (y + 10) k))], aq_h m s F c) _
          refine am_E.go (t2 := (75, [vR y, vI bits, vI n, vI b, vI mn, vI pw, vI k, vI 0, v8, v9], [vI (-(c (y + 10) k))], aq_h m s F c)) rfl rfl ?_
          refine am_E.go (t2 := (77, [vR y, vI bits, vI n, vI b, vI mn, vI pw, vI k, vI 0, vI (-(c (y + 10) k)), v9], [], aq_h m s F c)) rfl rfl ?_
          refine am_E.go (t2 := (79, [vR y, vI bits, vI n, vI b, vI mn, vI pw, vI k, vI 0, vI (-(c (y + 10) k)), v9], [vI pw], aq_h m s F c)) rfl rfl ?_
          refine am_E.go (t2 := (81, [vR y, vI bits, vI n, vI b, vI mn, vI pw, vI k, vI 0, vI (-(c (y + 10) k)), v9], [vI 0, vI pw], aq_h m s F c)) rfl rfl ?_
          refine am_E.go (t2 := (82, [vR y, vI bits, vI n, vI b, vI mn, vI pw, vI k, vI 0, vI (-(c (y + 10) k)), v9], [vR y, vI 0, vI pw], aq_h m s F c)) rfl rfl ?_
          refine aq_gf (v := vR (y + 10)) rfl (by omega) hFo (by decide) rfl ?_
          show am_E _ (85, [vR y, vI bits, vI n, vI b, vI mn, vI pw, vI k, vI 0, vI (-(c (y + 10) k)), v9], [vR (y + 10), vI 0, vI pw], aq_h m s F c) _
          refine am_E.go (t2 := (87, [vR y, vI bits, vI n, vI b, vI mn, vI pw, vI k, vI 0, vI (-(c (y + 10) k)), v9], [vI k, vR (y + 10), vI 0, vI pw], aq_h m s F c)) rfl rfl ?_
          refine aq_al (ok := fun k => k == 0) (v := vI (c (y + 10) k)) rfl rfl (by omega) hG10 rfl (by omega) (by omega) rfl ?_
          show am_E _ (88, [vR y, vI bits, vI n, vI b, vI mn, vI pw, vI k, vI 0, vI (-(c (y + 10) k)), v9], [vI (c (y + 10) k), vI 0, vI pw], aq_h m s F c) _
          have f_10 := hs (y + 10) (mo_n (by decide) (by decide)) k
          have f_10b := hr4 k (by omega) (by omega)
          refine ae_if0 rfl (fun (q_11 : 0 ≤ (c (y + 10) k)) => ?_) (fun (q_11 : (c (y + 10) k) < 0) => ?_)
          · refine am_E.go (t2 := (96, [vR y, vI bits, vI n, vI b, vI mn, vI pw, vI k, vI 0, vI (-(c (y + 10) k)), v9], [vI 0, vI 0, vI pw], aq_h m s F c)) rfl rfl ?_
            refine am_E.go (t2 := (99, [vR y, vI bits, vI n, vI b, vI mn, vI pw, vI k, vI 0, vI (-(c (y + 10) k)), v9], [vI pw], aq_h m s F c)) rfl rfl ?_
            refine am_E.go (t2 := (100, [vR y, vI bits, vI n, vI b, vI mn, vI pw, vI k, vI 0, vI (-(c (y + 10) k)), v9], [vI 1, vI pw], aq_h m s F c)) rfl rfl ?_
            refine am_E.go (t2 := (104, [vR y, vI bits, vI n, vI b, vI mn, vI pw, vI k, vI 0, vI (-(c (y + 10) k)), v9], [vI 1, vI pw], aq_h m s F c)) rfl rfl ?_
            refine ae_add rfl (am_ri (by omega) (by omega)) ?_
            show am_E _ (105, [vR y, vI bits, vI n, vI b, vI mn, vI pw, vI k, vI 0, vI (-(c (y + 10) k)), v9], [vI (pw + 1)], aq_h m s F c) _
            refine am_E.go (t2 := (107, [vR y, vI bits, vI n, vI b, vI mn, vI (pw + 1), vI k, vI 0, vI (-(c (y + 10) k)), v9], [], aq_h m s F c)) rfl rfl ?_
            refine am_E.go (t2 := (109, [vR y, vI bits, vI n, vI b, vI mn, vI (pw + 1), vI k, vI 0, vI (-(c (y + 10) k)), v9], [vI 0], aq_h m s F c)) rfl rfl ?_
            refine am_E.go (t2 := (139, [vR y, vI bits, vI n, vI b, vI mn, vI (pw + 1), vI k, vI 0, vI (-(c (y + 10) k)), v9], [], aq_h m s F c)) rfl rfl ?_
            refine ae_iinc rfl rfl (am_ri (by omega) (by omega)) ?_
            show am_E _ (142, [vR y, vI bits, vI n, vI b, vI mn, vI (pw + 1), vI (k + 1), vI 0, vI (-(c (y + 10) k)), v9], [], aq_h m s F c) _
            refine am_E.go (t2 := (21, [vR y, vI bits, vI n, vI b, vI mn, vI (pw + 1), vI (k + 1), vI 0, vI (-(c (y + 10) k)), v9], [], aq_h m s F c)) rfl rfl ?_
            exact qx_addState_0 ⟨hm, hFo, hG5, hG6, hG7, hG8, hG9, hG10, hG11, hG12, hG13, hG14, hG15, hG16, hG17, hG18, hG19, hG20, hG21, hG22, hG23⟩ ⟨hT1, hTt⟩ hr hn d b mn (pw + 1) (k + 1) (vI 0) (vI (-(c (y + 10) k))) (v9) c hs (by omega) (by omega) (by omega) (by omega) (by omega) (by omega) (by omega) (by omega) hob hA (by first | (exfalso; omega) | (rw [← hq, sw_, if_pos (show k < c0 y 10 by omega), if_neg (show ¬ am_and (am_shri bits k) 1 = 1 by omega), if_pos (show c0 (y + 10) k < 0 by omega)])) (by omega) K0
          · refine am_E.go (t2 := (92, [vR y, vI bits, vI n, vI b, vI mn, vI pw, vI k, vI 0, vI (-(c (y + 10) k)), v9], [vI 1, vI 0, vI pw], aq_h m s F c)) rfl rfl ?_
            refine am_E.go (t2 := (96, [vR y, vI bits, vI n, vI b, vI mn, vI pw, vI k, vI 0, vI (-(c (y + 10) k)), v9], [vI 1, vI 0, vI pw], aq_h m s F c)) rfl rfl ?_
            refine am_E.go (t2 := (103, [vR y, vI bits, vI n, vI b, vI mn, vI pw, vI k, vI 0, vI (-(c (y + 10) k)), v9], [vI pw], aq_h m s F c)) rfl rfl ?_
            refine am_E.go (t2 := (104, [vR y, vI bits, vI n, vI b, vI mn, vI pw, vI k, vI 0, vI (-(c (y + 10) k)), v9], [vI (-1), vI pw], aq_h m s F c)) rfl rfl ?_
            refine ae_add rfl (am_ri (by omega) (by omega)) ?_
            show am_E _ (105, [vR y, vI bits, vI n, vI b, vI mn, vI pw, vI k, vI 0, vI (-(c (y + 10) k)), v9], [vI (pw + (-1))], aq_h m s F c) _
            refine am_E.go (t2 := (107, [vR y, vI bits, vI n, vI b, vI mn, vI (pw + (-1)), vI k, vI 0, vI (-(c (y + 10) k)), v9], [], aq_h m s F c)) rfl rfl ?_
            refine am_E.go (t2 := (109, [vR y, vI bits, vI n, vI b, vI mn, vI (pw + (-1)), vI k, vI 0, vI (-(c (y + 10) k)), v9], [vI 0], aq_h m s F c)) rfl rfl ?_
            refine am_E.go (t2 := (139, [vR y, vI bits, vI n, vI b, vI mn, vI (pw + (-1)), vI k, vI 0, vI (-(c (y + 10) k)), v9], [], aq_h m s F c)) rfl rfl ?_
            refine ae_iinc rfl rfl (am_ri (by omega) (by omega)) ?_
            show am_E _ (142, [vR y, vI bits, vI n, vI b, vI mn, vI (pw + (-1)), vI (k + 1), vI 0, vI (-(c (y + 10) k)), v9], [], aq_h m s F c) _
            refine am_E.go (t2 := (21, [vR y, vI bits, vI n, vI b, vI mn, vI (pw + (-1)), vI (k + 1), vI 0, vI (-(c (y + 10) k)), v9], [], aq_h m s F c)) rfl rfl ?_
            exact qx_addState_0 ⟨hm, hFo, hG5, hG6, hG7, hG8, hG9, hG10, hG11, hG12, hG13, hG14, hG15, hG16, hG17, hG18, hG19, hG20, hG21, hG22, hG23⟩ ⟨hT1, hTt⟩ hr hn d b mn (pw + (-1)) (k + 1) (vI 0) (vI (-(c (y + 10) k))) (v9) c hs (by omega) (by omega) (by omega) (by omega) (by omega) (by omega) (by omega) (by omega) hob hA (by first | (exfalso; omega) | (rw [← hq, sw_, if_pos (show k < c0 y 10 by omega), if_neg (show ¬ am_and (am_shri bits k) 1 = 1 by omega), if_pos (show c0 (y + 10) k < 0 by omega)])) (by omega) K0
      · refine am_E.go (t2 := (41, [vR y, vI bits, vI n, vI b, vI mn, vI pw, vI k, v7, v8, v9], [vI 1], aq_h m s F c)) rfl rfl ?_
        refine am_E.go (t2 := (45, [vR y, vI bits, vI n, vI b, vI mn, vI pw, vI k, v7, v8, v9], [vI 1], aq_h m s F c)) rfl rfl ?_
        refine am_E.go (t2 := (47, [vR y, vI bits, vI n, vI b, vI mn, vI pw, vI k, vI 1, v8, v9], [], aq_h m s F c)) rfl rfl ?_
        refine am_E.go (t2 := (48, [vR y, vI bits, vI n, vI b, vI mn, vI pw, vI k, vI 1, v8, v9], [vR y], aq_h m s F c)) rfl rfl ?_
        refine aq_gf (v := vR (y + 10)) rfl (by omega) hFo (by decide) rfl ?_
        show am_E _ (51, [vR y, vI bits, vI n, vI b, vI mn, vI pw, vI k, vI 1, v8, v9], [vR (y + 10)], aq_h m s F c) _
        refine am_E.go (t2 := (53, [vR y, vI bits, vI n, vI b, vI mn, vI pw, vI k, vI 1, v8, v9], [vI k, vR (y + 10)], aq_h m s F c)) rfl rfl ?_
        refine aq_al (ok := fun k => k == 0) (v := vI (c (y + 10) k)) rfl rfl (by omega) hG10 rfl (by omega) (by omega) rfl ?_
        show am_E _ (54, [vR y, vI bits, vI n, vI b, vI mn, vI pw, vI k, vI 1, v8, v9], [vI (c (y + 10) k)], aq_h m s F c) _
        have f_12 := hs (y + 10) (mo_n (by decide) (by decide)) k
        have f_12b := hr4 k (by omega) (by omega)
        refine ae_if0 rfl (fun (q_13 : 0 ≤ (c (y + 10) k)) => ?_) (fun (q_13 : (c (y + 10) k) < 0) => ?_)
        · refine am_E.go (t2 := (69, [vR y, vI bits, vI n, vI b, vI mn, vI pw, vI k, vI 1, v8, v9], [vR y], aq_h m s F c)) rfl rfl ?_
          refine aq_gf (v := vR (y + 10)) rfl (by omega) hFo (by decide) rfl ?_
          show am_E _ (72, [vR y, vI bits, vI n, vI b, vI mn, vI pw, vI k, vI 1, v8, v9], [vR (y + 10)], aq_h m s F c) _
          refine am_E.go (t2 := (74, [vR y, vI bits, vI n, vI b, vI mn, vI pw, vI k, vI 1, v8, v9], [vI k, vR (y + 10)], aq_h m s F c)) rfl rfl ?_
          refine aq_al (ok := fun k => k == 0) (v := vI (c (y + 10) k)) rfl rfl (by omega) hG10 rfl (by omega) (by omega) rfl ?_
          show am_E _ (75, [vR y, vI bits, vI n, vI b, vI mn, vI pw, vI k, vI 1, v8, v9], [vI (c (y + 10) k)], aq_h m s F c) _
          have f_14 := hs (y + 10) (mo_n (by decide) (by decide)) k
          have f_14b := hr4 k (by omega) (by omega)
          refine am_E.go (t2 := (77, [vR y, vI bits, vI n, vI b, vI mn, vI pw, vI k, vI 1, vI (c (y + 10) k), v9], [], aq_h m s F c)) rfl rfl ?_
          refine am_E.go (t2 := (79, [vR y, vI bits, vI n, vI b, vI mn, vI pw, vI k, vI 1, vI (c (y + 10) k), v9], [vI pw], aq_h m s F c)) rfl rfl ?_
          refine am_E.go (t2 := (81, [vR y, vI bits, vI n, vI b, vI mn, vI pw, vI k, vI 1, vI (c (y + 10) k), v9], [vI 1, vI pw], aq_h m s F c)) rfl rfl ?_
          refine am_E.go (t2 := (82, [vR y, vI bits, vI n, vI b, vI mn, vI pw, vI k, vI 1, vI (c (y + 10) k), v9], [vR y, vI 1, vI pw], aq_h m s F c)) rfl rfl ?_
          refine aq_gf (v := vR (y + 10)) rfl (by omega) hFo (by decide) rfl ?_
          show am_E _ (85, [vR y, vI bits, vI n, vI b, vI mn, vI pw, vI k, vI 1, vI (c (y + 10) k), v9], [vR (y + 10), vI 1, vI pw], aq_h m s F c) _
          refine am_E.go (t2 := (87, [vR y, vI bits, vI n, vI b, vI mn, vI pw, vI k, vI 1, vI (c (y + 10) k), v9], [vI k, vR (y + 10), vI 1, vI pw], aq_h m s F c)) rfl rfl ?_
          refine aq_al (ok := fun k => k == 0) (v := vI (c (y + 10) k)) rfl rfl (by omega) hG10 rfl (by omega) (by omega) rfl ?_
          show am_E _ (88, [vR y, vI bits, vI n, vI b, vI mn, vI pw, vI k, vI 1, vI (c (y + 10) k), v9], [vI (c (y + 10) k), vI 1, vI pw], aq_h m s F c) _
          have f_15 := hs (y + 10) (mo_n (by decide) (by decide)) k
          have f_15b := hr4 k (by omega) (by omega)
          refine ae_if0 rfl (fun (q_16 : 0 ≤ (c (y + 10) k)) => ?_) (fun (q_16 : (c (y + 10) k) < 0) => ?_)
          · refine am_E.go (t2 := (96, [vR y, vI bits, vI n, vI b, vI mn, vI pw, vI k, vI 1, vI (c (y + 10) k), v9], [vI 0, vI 1, vI pw], aq_h m s F c)) rfl rfl ?_
            refine am_E.go (t2 := (103, [vR y, vI bits, vI n, vI b, vI mn, vI pw, vI k, vI 1, vI (c (y + 10) k), v9], [vI pw], aq_h m s F c)) rfl rfl ?_
            refine am_E.go (t2 := (104, [vR y, vI bits, vI n, vI b, vI mn, vI pw, vI k, vI 1, vI (c (y + 10) k), v9], [vI (-1), vI pw], aq_h m s F c)) rfl rfl ?_
            refine ae_add rfl (am_ri (by omega) (by omega)) ?_
            show am_E _ (105, [vR y, vI bits, vI n, vI b, vI mn, vI pw, vI k, vI 1, vI (c (y + 10) k), v9], [vI (pw + (-1))], aq_h m s F c) _
            refine am_E.go (t2 := (107, [vR y, vI bits, vI n, vI b, vI mn, vI (pw + (-1)), vI k, vI 1, vI (c (y + 10) k), v9], [], aq_h m s F c)) rfl rfl ?_
            refine am_E.go (t2 := (109, [vR y, vI bits, vI n, vI b, vI mn, vI (pw + (-1)), vI k, vI 1, vI (c (y + 10) k), v9], [vI 1], aq_h m s F c)) rfl rfl ?_
            refine am_E.go (t2 := (112, [vR y, vI bits, vI n, vI b, vI mn, vI (pw + (-1)), vI k, vI 1, vI (c (y + 10) k), v9], [], aq_h m s F c)) rfl rfl ?_
            refine am_E.go (t2 := (113, [vR y, vI bits, vI n, vI b, vI mn, vI (pw + (-1)), vI k, vI 1, vI (c (y + 10) k), v9], [vR y], aq_h m s F c)) rfl rfl ?_
            refine am_E.go (t2 := (114, [vR y, vI bits, vI n, vI b, vI mn, vI (pw + (-1)), vI k, vI 1, vI (c (y + 10) k), v9], [vI n, vR y], aq_h m s F c)) rfl rfl ?_
            refine am_E.go (t2 := (116, [vR y, vI bits, vI n, vI b, vI mn, vI (pw + (-1)), vI k, vI 1, vI (c (y + 10) k), v9], [vI (c (y + 10) k), vI n, vR y], aq_h m s F c)) rfl rfl ?_
            refine aq_callv (y := 3) (as2 := [vI n, vI (c (y + 10) k)]) (rest := []) rfl rfl (by decide) (Nat.le_of_ble_eq_true rfl) rfl rfl (Nat.le_of_ble_eq_true rfl) (by omega) hFo rfl (Nat.le_of_ble_eq_true rfl) (qm_plainBox (S := fun a => a = y + 12) ⟨hm, hFo, hG5, hG6, hG7, hG8, hG9, hG10, hG11, hG12, hG13, hG14, hG15, hG16, hG17, hG18, hG19, hG20, hG21, hG22, hG23⟩ rfl ⟨hT1, hTt⟩ (by omega) (by omega) (by omega)) ?_
            rintro r5 h5 ⟨c_17, rfl, sc_17, vc_17, rfl, hv1c_17, hv2c_17, hv3c_17⟩
            show am_E _ (119, [vR y, vI bits, vI n, vI b, vI mn, vI (pw + (-1)), vI k, vI 1, vI (c (y + 10) k), v9], [vI vc_17], aq_h m s F c_17) _
            have hki := ki_l (n := n) (l := (c (y + 10) k)) (by omega) (by omega) (by omega)
            have ek1 : ki_ n (c (y + 10) k) = (c (y + 10) k) - 1 := by unfold ki_; rw [if_pos (by omega)]
            have ep_ := nu_v (f := bx_ol n.toNat (c (y + 10) k)) (by omega) (by omega) hv1c_17 hv2c_17 (fun i k0 k1 => by rw [hv3c_17 i k0 k1]; exact pl_e (by omega) (by omega) (by omega) k0 k1)
            have evp : vc_17 = lb_ n ((c (y + 10) k) - 1) := by unfold lb_; rw [← ek1, hki.2.2.1]; exact ep_.symm
            refine am_E.go (t2 := (121, [vR y, vI bits, vI n, vI b, vI mn, vI (pw + (-1)), vI k, vI 1, vI (c (y + 10) k), vI vc_17], [], aq_h m s F c_17)) rfl rfl ?_
            refine am_E.go (t2 := (122, [vR y, vI bits, vI n, vI b, vI mn, vI (pw + (-1)), vI k, vI 1, vI (c (y + 10) k), vI vc_17], [vR y], aq_h m s F c_17)) rfl rfl ?_
            refine am_E.go (t2 := (123, [vR y, vI bits, vI n, vI b, vI mn, vI (pw + (-1)), vI k, vI 1, vI (c (y + 10) k), vI vc_17], [vI n, vR y], aq_h m s F c_17)) rfl rfl ?_
            refine am_E.go (t2 := (124, [vR y, vI bits, vI n, vI b, vI mn, vI (pw + (-1)), vI k, vI 1, vI (c (y + 10) k), vI vc_17], [vI b, vI n, vR y], aq_h m s F c_17)) rfl rfl ?_
            refine am_E.go (t2 := (126, [vR y, vI bits, vI n, vI b, vI mn, vI (pw + (-1)), vI k, vI 1, vI (c (y + 10) k), vI vc_17], [vI vc_17, vI b, vI n, vR y], aq_h m s F c_17)) rfl rfl ?_
            refine aq_callv (y := 4) (as2 := [vI n, vI b, vI vc_17]) (rest := []) rfl rfl (by decide) (Nat.le_of_ble_eq_true rfl) rfl rfl (Nat.le_of_ble_eq_true rfl) (by omega) hFo rfl (Nat.le_of_ble_eq_true rfl) (qz_stacked (S := fun a => a = y ∨ a = y + 12 ∨ a = y + 13) ⟨hm, hFo, hG5, hG6, hG7, hG8, hG9, hG10, hG11, hG12, hG13, hG14, hG15, hG16, hG17, hG18, hG19, hG20, hG21, hG22, hG23⟩ (Or.inl rfl) (Or.inr (Or.inl rfl)) (Or.inr (Or.inr rfl)) ⟨hT1, hTt⟩ (by omega) (by omega) (by omega) (by omega) (by omega) (by omega)) ?_
            rintro r5 h5 ⟨c_18, rfl, sc_18, vc_18, rfl, hv1c_18, hv2c_18, hr1c_18, hr2c_18, hkc_18, hrrc_18, hvvc_18⟩
            show am_E _ (129, [vR y, vI bits, vI n, vI b, vI mn, vI (pw + (-1)), vI k, vI 1, vI (c (y + 10) k), vI vc_17], [vI vc_18], aq_h m s F c_18) _
            have e1 := sk_r (n := n) (x := b) (y := vc_17) (by omega) (by omega) (by omega) (by omega) (by omega) (by omega)
            have e2 := sk_v (n := n) (x := b) (y := vc_17) (by omega) (by omega) (by omega) (by omega) (by omega) (by omega) hv1c_18 hv2c_18 hvvc_18
            have e3 := bn_sk (n := n) (b := b) (k := (c (y + 10) k) - 1) (by omega) (by omega) (by omega) (by omega) (by omega) (by omega)
            rw [← evp] at e3
            have e_bx : vc_18 = bn_ n b ((c (y + 10) k) - 1) % 1000 := by rw [e2, e3]
            have e_rn : c_18 y 15 = bn_ n b ((c (y + 10) k) - 1) / 1000 := by rw [e3, ← e1]; exact hrrc_18
            have e_U := tb_U_a (n := n) (x := b) (k := (c (y + 10) k) - 1) (by omega) (by omega) (by omega) (by omega) (by omega) (by omega)
            have e_N := tb_N_a (n := n) (x := b) (k := (c (y + 10) k) - 1) (by omega) (by omega) (by omega) (by omega) (by omega) (by omega) (by omega)
            refine am_E.go (t2 := (130, [vR y, vI bits, vI n, vI vc_18, vI mn, vI (pw + (-1)), vI k, vI 1, vI (c (y + 10) k), vI vc_17], [], aq_h m s F c_18)) rfl rfl ?_
            refine am_E.go (t2 := (132, [vR y, vI bits, vI n, vI vc_18, vI mn, vI (pw + (-1)), vI k, vI 1, vI (c (y + 10) k), vI vc_17], [vI mn], aq_h m s F c_18)) rfl rfl ?_
            refine am_E.go (t2 := (133, [vR y, vI bits, vI n, vI vc_18, vI mn, vI (pw + (-1)), vI k, vI 1, vI (c (y + 10) k), vI vc_17], [vR y, vI mn], aq_h m s F c_18)) rfl rfl ?_
            refine aq_gf (v := vI (c_18 y 15)) rfl (by omega) hFo (by decide) rfl ?_
            show am_E _ (136, [vR y, vI bits, vI n, vI vc_18, vI mn, vI (pw + (-1)), vI k, vI 1, vI (c (y + 10) k), vI vc_17], [vI (c_18 y 15), vI mn], aq_h m s F c_18) _
            skip
            refine ae_add rfl (am_ri (by omega) (by omega)) ?_
            show am_E _ (137, [vR y, vI bits, vI n, vI vc_18, vI mn, vI (pw + (-1)), vI k, vI 1, vI (c (y + 10) k), vI vc_17], [vI (mn + (c_18 y 15))], aq_h m s F c_18) _
            refine am_E.go (t2 := (139, [vR y, vI bits, vI n, vI vc_18, vI (mn + (c_18 y 15)), vI (pw + (-1)), vI k, vI 1, vI (c (y + 10) k), vI vc_17], [], aq_h m s F c_18)) rfl rfl ?_
            refine ae_iinc rfl rfl (am_ri (by omega) (by omega)) ?_
            show am_E _ (142, [vR y, vI bits, vI n, vI vc_18, vI (mn + (c_18 y 15)), vI (pw + (-1)), vI (k + 1), vI 1, vI (c (y + 10) k), vI vc_17], [], aq_h m s F c_18) _
            refine am_E.go (t2 := (21, [vR y, vI bits, vI n, vI vc_18, vI (mn + (c_18 y 15)), vI (pw + (-1)), vI (k + 1), vI 1, vI (c (y + 10) k), vI vc_17], [], aq_h m s F c_18)) rfl rfl ?_
            exact qx_addState_0 ⟨hm, hFo, hG5, hG6, hG7, hG8, hG9, hG10, hG11, hG12, hG13, hG14, hG15, hG16, hG17, hG18, hG19, hG20, hG21, hG22, hG23⟩ ⟨hT1, hTt⟩ hr hn d vc_18 (mn + (c_18 y 15)) (pw + (-1)) (k + 1) (vI 1) (vI (c (y + 10) k)) (vI vc_17) c_18 (aq_smt (aq_smt hs (aq_smi sc_17 (fun a h => by unfold mo_S; omega))) (aq_smi sc_18 (fun a h => by unfold mo_S; omega))) (by omega) (by omega) (by omega) (by omega) (by omega) (by omega) (by omega) (by omega) (mo_kt (mo_ks hob sc_17 (by omega)) hkc_18) (fun j j0 j1 => by rw [sc_18 (y + 21) (by omega) j, sc_17 (y + 21) (by omega) j]; exact hA j j0 j1) (by first | (exfalso; omega) | (rw [← hq, sw_, if_pos (show k < c0 y 10 by omega), if_pos (show am_and (am_shri bits k) 1 = 1 by omega), show (if c0 (y + 10) k < 0 then -(c0 (y + 10) k) else c0 (y + 10) k) = (c (y + 10) k) by split <;> omega, if_neg (show ¬ c0 (y + 10) k < 0 by omega), e_bx, e_rn])) (by omega) K0
          · refine am_E.go (t2 := (92, [vR y, vI bits, vI n, vI b, vI mn, vI pw, vI k, vI 1, vI (c (y + 10) k), v9], [vI 1, vI 1, vI pw], aq_h m s F c)) rfl rfl ?_
            refine am_E.go (t2 := (96, [vR y, vI bits, vI n, vI b, vI mn, vI pw, vI k, vI 1, vI (c (y + 10) k), v9], [vI 1, vI 1, vI pw], aq_h m s F c)) rfl rfl ?_
            refine am_E.go (t2 := (99, [vR y, vI bits, vI n, vI b, vI mn, vI pw, vI k, vI 1, vI (c (y + 10) k), v9], [vI pw], aq_h m s F c)) rfl rfl ?_
            refine am_E.go (t2 := (100, [vR y, vI bits, vI n, vI b, vI mn, vI pw, vI k, vI 1, vI (c (y + 10) k), v9], [vI 1, vI pw], aq_h m s F c)) rfl rfl ?_
            refine am_E.go (t2 := (104, [vR y, vI bits, vI n, vI b, vI mn, vI pw, vI k, vI 1, vI (c (y + 10) k), v9], [vI 1, vI pw], aq_h m s F c)) rfl rfl ?_
            refine ae_add rfl (am_ri (by omega) (by omega)) ?_
            show am_E _ (105, [vR y, vI bits, vI n, vI b, vI mn, vI pw, vI k, vI 1, vI (c (y + 10) k), v9], [vI (pw + 1)], aq_h m s F c) _
            refine am_E.go (t2 := (107, [vR y, vI bits, vI n, vI b, vI mn, vI (pw + 1), vI k, vI 1, vI (c (y + 10) k), v9], [], aq_h m s F c)) rfl rfl ?_
            refine am_E.go (t2 := (109, [vR y, vI bits, vI n, vI b, vI mn, vI (pw + 1), vI k, vI 1, vI (c (y + 10) k), v9], [vI 1], aq_h m s F c)) rfl rfl ?_
            refine am_E.go (t2 := (112, [vR y, vI bits, vI n, vI b, vI mn, vI (pw + 1), vI k, vI 1, vI (c (y + 10) k), v9], [], aq_h m s F c)) rfl rfl ?_
            refine am_E.go (t2 := (113, [vR y, vI bits, vI n, vI b, vI mn, vI (pw + 1), vI k, vI 1, vI (c (y + 10) k), v9], [vR y], aq_h m s F c)) rfl rfl ?_
            refine am_E.go (t2 := (114, [vR y, vI bits, vI n, vI b, vI mn, vI (pw + 1), vI k, vI 1, vI (c (y + 10) k), v9], [vI n, vR y], aq_h m s F c)) rfl rfl ?_
            refine am_E.go (t2 := (116, [vR y, vI bits, vI n, vI b, vI mn, vI (pw + 1), vI k, vI 1, vI (c (y + 10) k), v9], [vI (c (y + 10) k), vI n, vR y], aq_h m s F c)) rfl rfl ?_
            refine aq_callv (y := 3) (as2 := [vI n, vI (c (y + 10) k)]) (rest := []) rfl rfl (by decide) (Nat.le_of_ble_eq_true rfl) rfl rfl (Nat.le_of_ble_eq_true rfl) (by omega) hFo rfl (Nat.le_of_ble_eq_true rfl) (qm_plainBox (S := fun a => a = y + 12) ⟨hm, hFo, hG5, hG6, hG7, hG8, hG9, hG10, hG11, hG12, hG13, hG14, hG15, hG16, hG17, hG18, hG19, hG20, hG21, hG22, hG23⟩ rfl ⟨hT1, hTt⟩ (by omega) (by omega) (by omega)) ?_
            rintro r5 h5 ⟨c_20, rfl, sc_20, vc_20, rfl, hv1c_20, hv2c_20, hv3c_20⟩
            show am_E _ (119, [vR y, vI bits, vI n, vI b, vI mn, vI (pw + 1), vI k, vI 1, vI (c (y + 10) k), v9], [vI vc_20], aq_h m s F c_20) _
            have hki := ki_l (n := n) (l := (c (y + 10) k)) (by omega) (by omega) (by omega)
            have ek1 : ki_ n (c (y + 10) k) = (c (y + 10) k) - 1 := by unfold ki_; rw [if_pos (by omega)]
            have ep_ := nu_v (f := bx_ol n.toNat (c (y + 10) k)) (by omega) (by omega) hv1c_20 hv2c_20 (fun i k0 k1 => by rw [hv3c_20 i k0 k1]; exact pl_e (by omega) (by omega) (by omega) k0 k1)
            have evp : vc_20 = lb_ n ((c (y + 10) k) - 1) := by unfold lb_; rw [← ek1, hki.2.2.1]; exact ep_.symm
            refine am_E.go (t2 := (121, [vR y, vI bits, vI n, vI b, vI mn, vI (pw + 1), vI k, vI 1, vI (c (y + 10) k), vI vc_20], [], aq_h m s F c_20)) rfl rfl ?_
            refine am_E.go (t2 := (122, [vR y, vI bits, vI n, vI b, vI mn, vI (pw + 1), vI k, vI 1, vI (c (y + 10) k), vI vc_20], [vR y], aq_h m s F c_20)) rfl rfl ?_
            refine am_E.go (t2 := (123, [vR y, vI bits, vI n, vI b, vI mn, vI (pw + 1), vI k, vI 1, vI (c (y + 10) k), vI vc_20], [vI n, vR y], aq_h m s F c_20)) rfl rfl ?_
            refine am_E.go (t2 := (124, [vR y, vI bits, vI n, vI b, vI mn, vI (pw + 1), vI k, vI 1, vI (c (y + 10) k), vI vc_20], [vI b, vI n, vR y], aq_h m s F c_20)) rfl rfl ?_
            refine am_E.go (t2 := (126, [vR y, vI bits, vI n, vI b, vI mn, vI (pw + 1), vI k, vI 1, vI (c (y + 10) k), vI vc_20], [vI vc_20, vI b, vI n, vR y], aq_h m s F c_20)) rfl rfl ?_
            refine aq_callv (y := 4) (as2 := [vI n, vI b, vI vc_20]) (rest := []) rfl rfl (by decide) (Nat.le_of_ble_eq_true rfl) rfl rfl (Nat.le_of_ble_eq_true rfl) (by omega) hFo rfl (Nat.le_of_ble_eq_true rfl) (qz_stacked (S := fun a => a = y ∨ a = y + 12 ∨ a = y + 13) ⟨hm, hFo, hG5, hG6, hG7, hG8, hG9, hG10, hG11, hG12, hG13, hG14, hG15, hG16, hG17, hG18, hG19, hG20, hG21, hG22, hG23⟩ (Or.inl rfl) (Or.inr (Or.inl rfl)) (Or.inr (Or.inr rfl)) ⟨hT1, hTt⟩ (by omega) (by omega) (by omega) (by omega) (by omega) (by omega)) ?_
            rintro r5 h5 ⟨c_21, rfl, sc_21, vc_21, rfl, hv1c_21, hv2c_21, hr1c_21, hr2c_21, hkc_21, hrrc_21, hvvc_21⟩
            show am_E _ (129, [vR y, vI bits, vI n, vI b, vI mn, vI (pw + 1), vI k, vI 1, vI (c (y + 10) k), vI vc_20], [vI vc_21], aq_h m s F c_21) _
            have e1 := sk_r (n := n) (x := b) (y := vc_20) (by omega) (by omega) (by omega) (by omega) (by omega) (by omega)
            have e2 := sk_v (n := n) (x := b) (y := vc_20) (by omega) (by omega) (by omega) (by omega) (by omega) (by omega) hv1c_21 hv2c_21 hvvc_21
            have e3 := bn_sk (n := n) (b := b) (k := (c (y + 10) k) - 1) (by omega) (by omega) (by omega) (by omega) (by omega) (by omega)
            rw [← evp] at e3
            have e_bx : vc_21 = bn_ n b ((c (y + 10) k) - 1) % 1000 := by rw [e2, e3]
            have e_rn : c_21 y 15 = bn_ n b ((c (y + 10) k) - 1) / 1000 := by rw [e3, ← e1]; exact hrrc_21
            have e_U := tb_U_a (n := n) (x := b) (k := (c (y + 10) k) - 1) (by omega) (by omega) (by omega) (by omega) (by omega) (by omega)
            have e_N := tb_N_a (n := n) (x := b) (k := (c (y + 10) k) - 1) (by omega) (by omega) (by omega) (by omega) (by omega) (by omega) (by omega)
            refine am_E.go (t2 := (130, [vR y, vI bits, vI n, vI vc_21, vI mn, vI (pw + 1), vI k, vI 1, vI (c (y + 10) k), vI vc_20], [], aq_h m s F c_21)) rfl rfl ?_
            refine am_E.go (t2 := (132, [vR y, vI bits, vI n, vI vc_21, vI mn, vI (pw + 1), vI k, vI 1, vI (c (y + 10) k), vI vc_20], [vI mn], aq_h m s F c_21)) rfl rfl ?_
            refine am_E.go (t2 := (133, [vR y, vI bits, vI n, vI vc_21, vI mn, vI (pw + 1), vI k, vI 1, vI (c (y + 10) k), vI vc_20], [vR y, vI mn], aq_h m s F c_21)) rfl rfl ?_
            refine aq_gf (v := vI (c_21 y 15)) rfl (by omega) hFo (by decide) rfl ?_
            show am_E _ (136, [vR y, vI bits, vI n, vI vc_21, vI mn, vI (pw + 1), vI k, vI 1, vI (c (y + 10) k), vI vc_20], [vI (c_21 y 15), vI mn], aq_h m s F c_21) _
            skip
            refine ae_add rfl (am_ri (by omega) (by omega)) ?_
            show am_E _ (137, [vR y, vI bits, vI n, vI vc_21, vI mn, vI (pw + 1), vI k, vI 1, vI (c (y + 10) k), vI vc_20], [vI (mn + (c_21 y 15))], aq_h m s F c_21) _
            refine am_E.go (t2 := (139, [vR y, vI bits, vI n, vI vc_21, vI (mn + (c_21 y 15)), vI (pw + 1), vI k, vI 1, vI (c (y + 10) k), vI vc_20], [], aq_h m s F c_21)) rfl rfl ?_
            refine ae_iinc rfl rfl (am_ri (by omega) (by omega)) ?_
            show am_E _ (142, [vR y, vI bits, vI n, vI vc_21, vI (mn + (c_21 y 15)), vI (pw + 1), vI (k + 1), vI 1, vI (c (y + 10) k), vI vc_20], [], aq_h m s F c_21) _
            refine am_E.go (t2 := (21, [vR y, vI bits, vI n, vI vc_21, vI (mn + (c_21 y 15)), vI (pw + 1), vI (k + 1), vI 1, vI (c (y + 10) k), vI vc_20], [], aq_h m s F c_21)) rfl rfl ?_
            exact qx_addState_0 ⟨hm, hFo, hG5, hG6, hG7, hG8, hG9, hG10, hG11, hG12, hG13, hG14, hG15, hG16, hG17, hG18, hG19, hG20, hG21, hG22, hG23⟩ ⟨hT1, hTt⟩ hr hn d vc_21 (mn + (c_21 y 15)) (pw + 1) (k + 1) (vI 1) (vI (c (y + 10) k)) (vI vc_20) c_21 (aq_smt (aq_smt hs (aq_smi sc_20 (fun a h => by unfold mo_S; omega))) (aq_smi sc_21 (fun a h => by unfold mo_S; omega))) (by omega) (by omega) (by omega) (by omega) (by omega) (by omega) (by omega) (by omega) (mo_kt (mo_ks hob sc_20 (by omega)) hkc_21) (fun j j0 j1 => by rw [sc_21 (y + 21) (by omega) j, sc_20 (y + 21) (by omega) j]; exact hA j j0 j1) (by first | (exfalso; omega) | (rw [← hq, sw_, if_pos (show k < c0 y 10 by omega), if_pos (show am_and (am_shri bits k) 1 = 1 by omega), show (if c0 (y + 10) k < 0 then -(c0 (y + 10) k) else c0 (y + 10) k) = (c (y + 10) k) by split <;> omega, if_neg (show ¬ c0 (y + 10) k < 0 by omega), e_bx, e_rn])) (by omega) K0
        · refine am_E.go (t2 := (58, [vR y, vI bits, vI n, vI b, vI mn, vI pw, vI k, vI 1, v8, v9], [vR y], aq_h m s F c)) rfl rfl ?_
          refine aq_gf (v := vR (y + 10)) rfl (by omega) hFo (by decide) rfl ?_
          show am_E _ (61, [vR y, vI bits, vI n, vI b, vI mn, vI pw, vI k, vI 1, v8, v9], [vR (y + 10)], aq_h m s F c) _
          refine am_E.go (t2 := (63, [vR y, vI bits, vI n, vI b, vI mn, vI pw, vI k, vI 1, v8, v9], [vI k, vR (y + 10)], aq_h m s F c)) rfl rfl ?_
          refine aq_al (ok := fun k => k == 0) (v := vI (c (y + 10) k)) rfl rfl (by omega) hG10 rfl (by omega) (by omega) rfl ?_
          show am_E _ (64, [vR y, vI bits, vI n, vI b, vI mn, vI pw, vI k, vI 1, v8, v9], [vI (c (y + 10) k)], aq_h m s F c) _
          have f_23 := hs (y + 10) (mo_n (by decide) (by decide)) k
          have f_23b := hr4 k (by omega) (by omega)
          refine ae_neg rfl (am_ri (by omega) (by omega)) ?_
          show am_E _ (65, [vR y, vI bits, vI n, vI b, vI mn, vI pw, vI k, vI 1, v8, v9], [vI (-(c (y + 10) k))], aq_h m s F c) _
          refine am_E.go (t2 := (75, [vR y, vI bits, vI n, vI b, vI mn, vI pw, vI k, vI 1, v8, v9], [vI (-(c (y + 10) k))], aq_h m s F c)) rfl rfl ?_
          refine am_E.go (t2 := (77, [vR y, vI bits, vI n, vI b, vI mn, vI pw, vI k, vI 1, vI (-(c (y + 10) k)), v9], [], aq_h m s F c)) rfl rfl ?_
          refine am_E.go (t2 := (79, [vR y, vI bits, vI n, vI b, vI mn, vI pw, vI k, vI 1, vI (-(c (y + 10) k)), v9], [vI pw], aq_h m s F c)) rfl rfl ?_
          refine am_E.go (t2 := (81, [vR y, vI bits, vI n, vI b, vI mn, vI pw, vI k, vI 1, vI (-(c (y + 10) k)), v9], [vI 1, vI pw], aq_h m s F c)) rfl rfl ?_
          refine am_E.go (t2 := (82, [vR y, vI bits, vI n, vI b, vI mn, vI pw, vI k, vI 1, vI (-(c (y + 10) k)), v9], [vR y, vI 1, vI pw], aq_h m s F c)) rfl rfl ?_
          refine aq_gf (v := vR (y + 10)) rfl (by omega) hFo (by decide) rfl ?_
          show am_E _ (85, [vR y, vI bits, vI n, vI b, vI mn, vI pw, vI k, vI 1, vI (-(c (y + 10) k)), v9], [vR (y + 10), vI 1, vI pw], aq_h m s F c) _
          refine am_E.go (t2 := (87, [vR y, vI bits, vI n, vI b, vI mn, vI pw, vI k, vI 1, vI (-(c (y + 10) k)), v9], [vI k, vR (y + 10), vI 1, vI pw], aq_h m s F c)) rfl rfl ?_
          refine aq_al (ok := fun k => k == 0) (v := vI (c (y + 10) k)) rfl rfl (by omega) hG10 rfl (by omega) (by omega) rfl ?_
          show am_E _ (88, [vR y, vI bits, vI n, vI b, vI mn, vI pw, vI k, vI 1, vI (-(c (y + 10) k)), v9], [vI (c (y + 10) k), vI 1, vI pw], aq_h m s F c) _
          have f_24 := hs (y + 10) (mo_n (by decide) (by decide)) k
          have f_24b := hr4 k (by omega) (by omega)
          refine ae_if0 rfl (fun (q_25 : 0 ≤ (c (y + 10) k)) => ?_) (fun (q_25 : (c (y + 10) k) < 0) => ?_)
          · refine am_E.go (t2 := (96, [vR y, vI bits, vI n, vI b, vI mn, vI pw, vI k, vI 1, vI (-(c (y + 10) k)), v9], [vI 0, vI 1, vI pw], aq_h m s F c)) rfl rfl ?_
            refine am_E.go (t2 := (103, [vR y, vI bits, vI n, vI b, vI mn, vI pw, vI k, vI 1, vI (-(c (y + 10) k)), v9], [vI pw], aq_h m s F c)) rfl rfl ?_
            refine am_E.go (t2 := (104, [vR y, vI bits, vI n, vI b, vI mn, vI pw, vI k, vI 1, vI (-(c (y + 10) k)), v9], [vI (-1), vI pw], aq_h m s F c)) rfl rfl ?_
            refine ae_add rfl (am_ri (by omega) (by omega)) ?_
            show am_E _ (105, [vR y, vI bits, vI n, vI b, vI mn, vI pw, vI k, vI 1, vI (-(c (y + 10) k)), v9], [vI (pw + (-1))], aq_h m s F c) _
            refine am_E.go (t2 := (107, [vR y, vI bits, vI n, vI b, vI mn, vI (pw + (-1)), vI k, vI 1, vI (-(c (y + 10) k)), v9], [], aq_h m s F c)) rfl rfl ?_
            refine am_E.go (t2 := (109, [vR y, vI bits, vI n, vI b, vI mn, vI (pw + (-1)), vI k, vI 1, vI (-(c (y + 10) k)), v9], [vI 1], aq_h m s F c)) rfl rfl ?_
            refine am_E.go (t2 := (112, [vR y, vI bits, vI n, vI b, vI mn, vI (pw + (-1)), vI k, vI 1, vI (-(c (y + 10) k)), v9], [], aq_h m s F c)) rfl rfl ?_
            refine am_E.go (t2 := (113, [vR y, vI bits, vI n, vI b, vI mn, vI (pw + (-1)), vI k, vI 1, vI (-(c (y + 10) k)), v9], [vR y], aq_h m s F c)) rfl rfl ?_
            refine am_E.go (t2 := (114, [vR y, vI bits, vI n, vI b, vI mn, vI (pw + (-1)), vI k, vI 1, vI (-(c (y + 10) k)), v9], [vI n, vR y], aq_h m s F c)) rfl rfl ?_
            refine am_E.go (t2 := (116, [vR y, vI bits, vI n, vI b, vI mn, vI (pw + (-1)), vI k, vI 1, vI (-(c (y + 10) k)), v9], [vI (-(c (y + 10) k)), vI n, vR y], aq_h m s F c)) rfl rfl ?_
            refine aq_callv (y := 3) (as2 := [vI n, vI (-(c (y + 10) k))]) (rest := []) rfl rfl (by decide) (Nat.le_of_ble_eq_true rfl) rfl rfl (Nat.le_of_ble_eq_true rfl) (by omega) hFo rfl (Nat.le_of_ble_eq_true rfl) (qm_plainBox (S := fun a => a = y + 12) ⟨hm, hFo, hG5, hG6, hG7, hG8, hG9, hG10, hG11, hG12, hG13, hG14, hG15, hG16, hG17, hG18, hG19, hG20, hG21, hG22, hG23⟩ rfl ⟨hT1, hTt⟩ (by omega) (by omega) (by omega)) ?_
            rintro r5 h5 ⟨c_26, rfl, sc_26, vc_26, rfl, hv1c_26, hv2c_26, hv3c_26⟩
            show am_E _ (119, [vR y, vI bits, vI n, vI b, vI mn, vI (pw + (-1)), vI k, vI 1, vI (-(c (y + 10) k)), v9], [vI vc_26], aq_h m s F c_26) _
            have hki := ki_l (n := n) (l := (-(c (y + 10) k))) (by omega) (by omega) (by omega)
            have ek1 : ki_ n (-(c (y + 10) k)) = (-(c (y + 10) k)) - 1 := by unfold ki_; rw [if_pos (by omega)]
            have ep_ := nu_v (f := bx_ol n.toNat (-(c (y + 10) k))) (by omega) (by omega) hv1c_26 hv2c_26 (fun i k0 k1 => by rw [hv3c_26 i k0 k1]; exact pl_e (by omega) (by omega) (by omega) k0 k1)
            have evp : vc_26 = lb_ n ((-(c (y + 10) k)) - 1) := by unfold lb_; rw [← ek1, hki.2.2.1]; exact ep_.symm
            refine am_E.go (t2 := (121, [vR y, vI bits, vI n, vI b, vI mn, vI (pw + (-1)), vI k, vI 1, vI (-(c (y + 10) k)), vI vc_26], [], aq_h m s F c_26)) rfl rfl ?_
            refine am_E.go (t2 := (122, [vR y, vI bits, vI n, vI b, vI mn, vI (pw + (-1)), vI k, vI 1, vI (-(c (y + 10) k)), vI vc_26], [vR y], aq_h m s F c_26)) rfl rfl ?_
            refine am_E.go (t2 := (123, [vR y, vI bits, vI n, vI b, vI mn, vI (pw + (-1)), vI k, vI 1, vI (-(c (y + 10) k)), vI vc_26], [vI n, vR y], aq_h m s F c_26)) rfl rfl ?_
            refine am_E.go (t2 := (124, [vR y, vI bits, vI n, vI b, vI mn, vI (pw + (-1)), vI k, vI 1, vI (-(c (y + 10) k)), vI vc_26], [vI b, vI n, vR y], aq_h m s F c_26)) rfl rfl ?_
            refine am_E.go (t2 := (126, [vR y, vI bits, vI n, vI b, vI mn, vI (pw + (-1)), vI k, vI 1, vI (-(c (y + 10) k)), vI vc_26], [vI vc_26, vI b, vI n, vR y], aq_h m s F c_26)) rfl rfl ?_
            refine aq_callv (y := 4) (as2 := [vI n, vI b, vI vc_26]) (rest := []) rfl rfl (by decide) (Nat.le_of_ble_eq_true rfl) rfl rfl (Nat.le_of_ble_eq_true rfl) (by omega) hFo rfl (Nat.le_of_ble_eq_true rfl) (qz_stacked (S := fun a => a = y ∨ a = y + 12 ∨ a = y + 13) ⟨hm, hFo, hG5, hG6, hG7, hG8, hG9, hG10, hG11, hG12, hG13, hG14, hG15, hG16, hG17, hG18, hG19, hG20, hG21, hG22, hG23⟩ (Or.inl rfl) (Or.inr (Or.inl rfl)) (Or.inr (Or.inr rfl)) ⟨hT1, hTt⟩ (by omega) (by omega) (by omega) (by omega) (by omega) (by omega)) ?_
            rintro r5 h5 ⟨c_27, rfl, sc_27, vc_27, rfl, hv1c_27, hv2c_27, hr1c_27, hr2c_27, hkc_27, hrrc_27, hvvc_27⟩
            show am_E _ (129, [vR y, vI bits, vI n, vI b, vI mn, vI (pw + (-1)), vI k, vI 1, vI (-(c (y + 10) k)), vI vc_26], [vI vc_27], aq_h m s F c_27) _
            have e1 := sk_r (n := n) (x := b) (y := vc_26) (by omega) (by omega) (by omega) (by omega) (by omega) (by omega)
            have e2 := sk_v (n := n) (x := b) (y := vc_26) (by omega) (by omega) (by omega) (by omega) (by omega) (by omega) hv1c_27 hv2c_27 hvvc_27
            have e3 := bn_sk (n := n) (b := b) (k := (-(c (y + 10) k)) - 1) (by omega) (by omega) (by omega) (by omega) (by omega) (by omega)
            rw [← evp] at e3
            have e_bx : vc_27 = bn_ n b ((-(c (y + 10) k)) - 1) % 1000 := by rw [e2, e3]
            have e_rn : c_27 y 15 = bn_ n b ((-(c (y + 10) k)) - 1) / 1000 := by rw [e3, ← e1]; exact hrrc_27
            have e_U := tb_U_a (n := n) (x := b) (k := (-(c (y + 10) k)) - 1) (by omega) (by omega) (by omega) (by omega) (by omega) (by omega)
            have e_N := tb_N_a (n := n) (x := b) (k := (-(c (y + 10) k)) - 1) (by omega) (by omega) (by omega) (by omega) (by omega) (by omega) (by omega)
            refine am_E.go (t2 := (130, [vR y, vI bits, vI n, vI vc_27, vI mn, vI (pw + (-1)), vI k, vI 1, vI (-(c (y + 10) k)), vI vc_26], [], aq_h m s F c_27)) rfl rfl ?_
            refine am_E.go (t2 := (132, [vR y, vI bits, vI n, vI vc_27, vI mn, vI (pw + (-1)), vI k, vI 1, vI (-(c (y + 10) k)), vI vc_26], [vI mn], aq_h m s F c_27)) rfl rfl ?_
            refine am_E.go (t2 := (133, [vR y, vI bits, vI n, vI vc_27, vI mn, vI (pw + (-1)), vI k, vI 1, vI (-(c (y + 10) k)), vI vc_26], [vR y, vI mn], aq_h m s F c_27)) rfl rfl ?_
            refine aq_gf (v := vI (c_27 y 15)) rfl (by omega) hFo (by decide) rfl ?_
            show am_E _ (136, [vR y, vI bits, vI n, vI vc_27, vI mn, vI (pw + (-1)), vI k, vI 1, vI (-(c (y + 10) k)), vI vc_26], [vI (c_27 y 15), vI mn], aq_h m s F c_27) _
            skip
            refine ae_add rfl (am_ri (by omega) (by omega)) ?_
            show am_E _ (137, [vR y, vI bits, vI n, vI vc_27, vI mn, vI (pw + (-1)), vI k, vI 1, vI (-(c (y + 10) k)), vI vc_26], [vI (mn + (c_27 y 15))], aq_h m s F c_27) _
            refine am_E.go (t2 := (139, [vR y, vI bits, vI n, vI vc_27, vI (mn + (c_27 y 15)), vI (pw + (-1)), vI k, vI 1, vI (-(c (y + 10) k)), vI vc_26], [], aq_h m s F c_27)) rfl rfl ?_
            refine ae_iinc rfl rfl (am_ri (by omega) (by omega)) ?_
            show am_E _ (142, [vR y, vI bits, vI n, vI vc_27, vI (mn + (c_27 y 15)), vI (pw + (-1)), vI (k + 1), vI 1, vI (-(c (y + 10) k)), vI vc_26], [], aq_h m s F c_27) _
            refine am_E.go (t2 := (21, [vR y, vI bits, vI n, vI vc_27, vI (mn + (c_27 y 15)), vI (pw + (-1)), vI (k + 1), vI 1, vI (-(c (y + 10) k)), vI vc_26], [], aq_h m s F c_27)) rfl rfl ?_
            exact qx_addState_0 ⟨hm, hFo, hG5, hG6, hG7, hG8, hG9, hG10, hG11, hG12, hG13, hG14, hG15, hG16, hG17, hG18, hG19, hG20, hG21, hG22, hG23⟩ ⟨hT1, hTt⟩ hr hn d vc_27 (mn + (c_27 y 15)) (pw + (-1)) (k + 1) (vI 1) (vI (-(c (y + 10) k))) (vI vc_26) c_27 (aq_smt (aq_smt hs (aq_smi sc_26 (fun a h => by unfold mo_S; omega))) (aq_smi sc_27 (fun a h => by unfold mo_S; omega))) (by omega) (by omega) (by omega) (by omega) (by omega) (by omega) (by omega) (by omega) (mo_kt (mo_ks hob sc_26 (by omega)) hkc_27) (fun j j0 j1 => by rw [sc_27 (y + 21) (by omega) j, sc_26 (y + 21) (by omega) j]; exact hA j j0 j1) (by first | (exfalso; omega) | (rw [← hq, sw_, if_pos (show k < c0 y 10 by omega), if_pos (show am_and (am_shri bits k) 1 = 1 by omega), show (if c0 (y + 10) k < 0 then -(c0 (y + 10) k) else c0 (y + 10) k) = (-(c (y + 10) k)) by split <;> omega, if_pos (show c0 (y + 10) k < 0 by omega), e_bx, e_rn])) (by omega) K0
          · refine am_E.go (t2 := (92, [vR y, vI bits, vI n, vI b, vI mn, vI pw, vI k, vI 1, vI (-(c (y + 10) k)), v9], [vI 1, vI 1, vI pw], aq_h m s F c)) rfl rfl ?_
            refine am_E.go (t2 := (96, [vR y, vI bits, vI n, vI b, vI mn, vI pw, vI k, vI 1, vI (-(c (y + 10) k)), v9], [vI 1, vI 1, vI pw], aq_h m s F c)) rfl rfl ?_
            refine am_E.go (t2 := (99, [vR y, vI bits, vI n, vI b, vI mn, vI pw, vI k, vI 1, vI (-(c (y + 10) k)), v9], [vI pw], aq_h m s F c)) rfl rfl ?_
            refine am_E.go (t2 := (100, [vR y, vI bits, vI n, vI b, vI mn, vI pw, vI k, vI 1, vI (-(c (y + 10) k)), v9], [vI 1, vI pw], aq_h m s F c)) rfl rfl ?_
            refine am_E.go (t2 := (104, [vR y, vI bits, vI n, vI b, vI mn, vI pw, vI k, vI 1, vI (-(c (y + 10) k)), v9], [vI 1, vI pw], aq_h m s F c)) rfl rfl ?_
            refine ae_add rfl (am_ri (by omega) (by omega)) ?_
            show am_E _ (105, [vR y, vI bits, vI n, vI b, vI mn, vI pw, vI k, vI 1, vI (-(c (y + 10) k)), v9], [vI (pw + 1)], aq_h m s F c) _
            refine am_E.go (t2 := (107, [vR y, vI bits, vI n, vI b, vI mn, vI (pw + 1), vI k, vI 1, vI (-(c (y + 10) k)), v9], [], aq_h m s F c)) rfl rfl ?_
            refine am_E.go (t2 := (109, [vR y, vI bits, vI n, vI b, vI mn, vI (pw + 1), vI k, vI 1, vI (-(c (y + 10) k)), v9], [vI 1], aq_h m s F c)) rfl rfl ?_
            refine am_E.go (t2 := (112, [vR y, vI bits, vI n, vI b, vI mn, vI (pw + 1), vI k, vI 1, vI (-(c (y + 10) k)), v9], [], aq_h m s F c)) rfl rfl ?_
            refine am_E.go (t2 := (113, [vR y, vI bits, vI n, vI b, vI mn, vI (pw + 1), vI k, vI 1, vI (-(c (y + 10) k)), v9], [vR y], aq_h m s F c)) rfl rfl ?_
            refine am_E.go (t2 := (114, [vR y, vI bits, vI n, vI b, vI mn, vI (pw + 1), vI k, vI 1, vI (-(c (y + 10) k)), v9], [vI n, vR y], aq_h m s F c)) rfl rfl ?_
            refine am_E.go (t2 := (116, [vR y, vI bits, vI n, vI b, vI mn, vI (pw + 1), vI k, vI 1, vI (-(c (y + 10) k)), v9], [vI (-(c (y + 10) k)), vI n, vR y], aq_h m s F c)) rfl rfl ?_
            refine aq_callv (y := 3) (as2 := [vI n, vI (-(c (y + 10) k))]) (rest := []) rfl rfl (by decide) (Nat.le_of_ble_eq_true rfl) rfl rfl (Nat.le_of_ble_eq_true rfl) (by omega) hFo rfl (Nat.le_of_ble_eq_true rfl) (qm_plainBox (S := fun a => a = y + 12) ⟨hm, hFo, hG5, hG6, hG7, hG8, hG9, hG10, hG11, hG12, hG13, hG14, hG15, hG16, hG17, hG18, hG19, hG20, hG21, hG22, hG23⟩ rfl ⟨hT1, hTt⟩ (by omega) (by omega) (by omega)) ?_
            rintro r5 h5 ⟨c_29, rfl, sc_29, vc_29, rfl, hv1c_29, hv2c_29, hv3c_29⟩
            show am_E _ (119, [vR y, vI bits, vI n, vI b, vI mn, vI (pw + 1), vI k, vI 1, vI (-(c (y + 10) k)), v9], [vI vc_29], aq_h m s F c_29) _
            have hki := ki_l (n := n) (l := (-(c (y + 10) k))) (by omega) (by omega) (by omega)
            have ek1 : ki_ n (-(c (y + 10) k)) = (-(c (y + 10) k)) - 1 := by unfold ki_; rw [if_pos (by omega)]
            have ep_ := nu_v (f := bx_ol n.toNat (-(c (y + 10) k))) (by omega) (by omega) hv1c_29 hv2c_29 (fun i k0 k1 => by rw [hv3c_29 i k0 k1]; exact pl_e (by omega) (by omega) (by omega) k0 k1)
            have evp : vc_29 = lb_ n ((-(c (y + 10) k)) - 1) := by unfold lb_; rw [← ek1, hki.2.2.1]; exact ep_.symm
            refine am_E.go (t2 := (121, [vR y, vI bits, vI n, vI b, vI mn, vI (pw + 1), vI k, vI 1, vI (-(c (y + 10) k)), vI vc_29], [], aq_h m s F c_29)) rfl rfl ?_
            refine am_E.go (t2 := (122, [vR y, vI bits, vI n, vI b, vI mn, vI (pw + 1), vI k, vI 1, vI (-(c (y + 10) k)), vI vc_29], [vR y], aq_h m s F c_29)) rfl rfl ?_
            refine am_E.go (t2 := (123, [vR y, vI bits, vI n, vI b, vI mn, vI (pw + 1), vI k, vI 1, vI (-(c (y + 10) k)), vI vc_29], [vI n, vR y], aq_h m s F c_29)) rfl rfl ?_
            refine am_E.go (t2 := (124, [vR y, vI bits, vI n, vI b, vI mn, vI (pw + 1), vI k, vI 1, vI (-(c (y + 10) k)), vI vc_29], [vI b, vI n, vR y], aq_h m s F c_29)) rfl rfl ?_
            refine am_E.go (t2 := (126, [vR y, vI bits, vI n, vI b, vI mn, vI (pw + 1), vI k, vI 1, vI (-(c (y + 10) k)), vI vc_29], [vI vc_29, vI b, vI n, vR y], aq_h m s F c_29)) rfl rfl ?_
            refine aq_callv (y := 4) (as2 := [vI n, vI b, vI vc_29]) (rest := []) rfl rfl (by decide) (Nat.le_of_ble_eq_true rfl) rfl rfl (Nat.le_of_ble_eq_true rfl) (by omega) hFo rfl (Nat.le_of_ble_eq_true rfl) (qz_stacked (S := fun a => a = y ∨ a = y + 12 ∨ a = y + 13) ⟨hm, hFo, hG5, hG6, hG7, hG8, hG9, hG10, hG11, hG12, hG13, hG14, hG15, hG16, hG17, hG18, hG19, hG20, hG21, hG22, hG23⟩ (Or.inl rfl) (Or.inr (Or.inl rfl)) (Or.inr (Or.inr rfl)) ⟨hT1, hTt⟩ (by omega) (by omega) (by omega) (by omega) (by omega) (by omega)) ?_
            rintro r5 h5 ⟨c_30, rfl, sc_30, vc_30, rfl, hv1c_30, hv2c_30, hr1c_30, hr2c_30, hkc_30, hrrc_30, hvvc_30⟩
            show am_E _ (129, [vR y, vI bits, vI n, vI b, vI mn, vI (pw + 1), vI k, vI 1, vI (-(c (y + 10) k)), vI vc_29], [vI vc_30], aq_h m s F c_30) _
            have e1 := sk_r (n := n) (x := b) (y := vc_29) (by omega) (by omega) (by omega) (by omega) (by omega) (by omega)
            have e2 := sk_v (n := n) (x := b) (y := vc_29) (by omega) (by omega) (by omega) (by omega) (by omega) (by omega) hv1c_30 hv2c_30 hvvc_30
            have e3 := bn_sk (n := n) (b := b) (k := (-(c (y + 10) k)) - 1) (by omega) (by omega) (by omega) (by omega) (by omega) (by omega)
            rw [← evp] at e3
            have e_bx : vc_30 = bn_ n b ((-(c (y + 10) k)) - 1) % 1000 := by rw [e2, e3]
            have e_rn : c_30 y 15 = bn_ n b ((-(c (y + 10) k)) - 1) / 1000 := by rw [e3, ← e1]; exact hrrc_30
            have e_U := tb_U_a (n := n) (x := b) (k := (-(c (y + 10) k)) - 1) (by omega) (by omega) (by omega) (by omega) (by omega) (by omega)
            have e_N := tb_N_a (n := n) (x := b) (k := (-(c (y + 10) k)) - 1) (by omega) (by omega) (by omega) (by omega) (by omega) (by omega) (by omega)
            refine am_E.go (t2 := (130, [vR y, vI bits, vI n, vI vc_30, vI mn, vI (pw + 1), vI k, vI 1, vI (-(c (y + 10) k)), vI vc_29], [], aq_h m s F c_30)) rfl rfl ?_
            refine am_E.go (t2 := (132, [vR y, vI bits, vI n, vI vc_30, vI mn, vI (pw + 1), vI k, vI 1, vI (-(c (y + 10) k)), vI vc_29], [vI mn], aq_h m s F c_30)) rfl rfl ?_
            refine am_E.go (t2 := (133, [vR y, vI bits, vI n, vI vc_30, vI mn, vI (pw + 1), vI k, vI 1, vI (-(c (y + 10) k)), vI vc_29], [vR y, vI mn], aq_h m s F c_30)) rfl rfl ?_
            refine aq_gf (v := vI (c_30 y 15)) rfl (by omega) hFo (by decide) rfl ?_
            show am_E _ (136, [vR y, vI bits, vI n, vI vc_30, vI mn, vI (pw + 1), vI k, vI 1, vI (-(c (y + 10) k)), vI vc_29], [vI (c_30 y 15), vI mn], aq_h m s F c_30) _
            skip
            refine ae_add rfl (am_ri (by omega) (by omega)) ?_
            show am_E _ (137, [vR y, vI bits, vI n, vI vc_30, vI mn, vI (pw + 1), vI k, vI 1, vI (-(c (y + 10) k)), vI vc_29], [vI (mn + (c_30 y 15))], aq_h m s F c_30) _
            refine am_E.go (t2 := (139, [vR y, vI bits, vI n, vI vc_30, vI (mn + (c_30 y 15)), vI (pw + 1), vI k, vI 1, vI (-(c (y + 10) k)), vI vc_29], [], aq_h m s F c_30)) rfl rfl ?_
            refine ae_iinc rfl rfl (am_ri (by omega) (by omega)) ?_
            show am_E _ (142, [vR y, vI bits, vI n, vI vc_30, vI (mn + (c_30 y 15)), vI (pw + 1), vI (k + 1), vI 1, vI (-(c (y + 10) k)), vI vc_29], [], aq_h m s F c_30) _
            refine am_E.go (t2 := (21, [vR y, vI bits, vI n, vI vc_30, vI (mn + (c_30 y 15)), vI (pw + 1), vI (k + 1), vI 1, vI (-(c (y + 10) k)), vI vc_29], [], aq_h m s F c_30)) rfl rfl ?_
            exact qx_addState_0 ⟨hm, hFo, hG5, hG6, hG7, hG8, hG9, hG10, hG11, hG12, hG13, hG14, hG15, hG16, hG17, hG18, hG19, hG20, hG21, hG22, hG23⟩ ⟨hT1, hTt⟩ hr hn d vc_30 (mn + (c_30 y 15)) (pw + 1) (k + 1) (vI 1) (vI (-(c (y + 10) k))) (vI vc_29) c_30 (aq_smt (aq_smt hs (aq_smi sc_29 (fun a h => by unfold mo_S; omega))) (aq_smi sc_30 (fun a h => by unfold mo_S; omega))) (by omega) (by omega) (by omega) (by omega) (by omega) (by omega) (by omega) (by omega) (mo_kt (mo_ks hob sc_29 (by omega)) hkc_30) (fun j j0 j1 => by rw [sc_30 (y + 21) (by omega) j, sc_29 (y + 21) (by omega) j]; exact hA j j0 j1) (by first | (exfalso; omega) | (rw [← hq, sw_, if_pos (show k < c0 y 10 by omega), if_pos (show am_and (am_shri bits k) 1 = 1 by omega), show (if c0 (y + 10) k < 0 then -(c0 (y + 10) k) else c0 (y + 10) k) = (-(c (y + 10) k)) by split <;> omega, if_pos (show c0 (y + 10) k < 0 by omega), e_bx, e_rn])) (by omega) K0

theorem qx_maddState {m s : Nat} {F : aq_F} {c : aq_C} {y : Nat} (hO : mo_0 m F y) {tbl : Int → Int} (hT : mo_T F y tbl) (hr : mo_r y c) {bits : Int} {A : Int → Int} (hA : ∀ j, 0 ≤ j → j < 201 → c (y + 21) j = A j) : am_E ac_X5_addState (0, [vR y, vI bits, vU, vU, vU, vU, vU, vU, vU, vU], [], aq_h m s F c) (aq_Z m s F (mo_S y) c (fun r d => r = none ∧ mo_k y c d ∧ ∀ j, 0 ≤ j → j < 201 → d (y + 21) j = am_w (A j + pB (st_t (c y 9) (st_ (c (y + 10)) (c y 9) (c y 10) bits)).toNat (j - 100 - (st_ (c (y + 10)) (c y 9) (c y 10) bits).2.2)))) := by
  obtain ⟨hm, hFo, hG5, hG6, hG7, hG8, hG9, hG10, hG11, hG12, hG13, hG14, hG15, hG16, hG17, hG18, hG19, hG20, hG21, hG22, hG23⟩ := hO
  obtain ⟨hT1, hTt⟩ := hT
  obtain ⟨hr0, hr1, hr2, hr3, hr4⟩ := id hr
  have hfs := mo_fs (c y 9)
  refine am_E.go (t2 := (1, [vR y, vI bits, vU, vU, vU, vU, vU, vU, vU, vU], [vR y], aq_h m s F c)) rfl rfl ?_
  refine aq_gf (v := vI (c y 9)) rfl (by omega) hFo (by decide) rfl ?_
  show am_E _ (4, [vR y, vI bits, vU, vU, vU, vU, vU, vU, vU, vU], [vI (c y 9)], aq_h m s F c) _
  have f_1 := ((mo_k0 (y := y) (c := c))).1
  refine am_E.go (t2 := (5, [vR y, vI bits, vI (c y 9), vU, vU, vU, vU, vU, vU, vU], [], aq_h m s F c)) rfl rfl ?_
  refine am_E.go (t2 := (6, [vR y, vI bits, vI (c y 9), vU, vU, vU, vU, vU, vU, vU], [vR y], aq_h m s F c)) rfl rfl ?_
  refine am_E.go (t2 := (7, [vR y, vI bits, vI (c y 9), vU, vU, vU, vU, vU, vU, vU], [vI (c y 9), vR y], aq_h m s F c)) rfl rfl ?_
  refine am_E.go (t2 := (8, [vR y, vI bits, vI (c y 9), vU, vU, vU, vU, vU, vU, vU], [vI 0, vI (c y 9), vR y], aq_h m s F c)) rfl rfl ?_
  refine aq_callv (y := 3) (as2 := [vI (c y 9), vI 0]) (rest := []) rfl rfl (by decide) (Nat.le_of_ble_eq_true rfl) rfl rfl (Nat.le_of_ble_eq_true rfl) (by omega) hFo rfl (Nat.le_of_ble_eq_true rfl) (qm_plainBox (S := fun a => a = y + 12) ⟨hm, hFo, hG5, hG6, hG7, hG8, hG9, hG10, hG11, hG12, hG13, hG14, hG15, hG16, hG17, hG18, hG19, hG20, hG21, hG22, hG23⟩ rfl ⟨hT1, hTt⟩ (by omega) (by omega) (by omega)) ?_
  rintro r5 h5 ⟨c_2, rfl, sc_2, vc_2, rfl, hv1c_2, hv2c_2, hv3c_2⟩
  show am_E _ (11, [vR y, vI bits, vI (c y 9), vU, vU, vU, vU, vU, vU, vU], [vI vc_2], aq_h m s F c_2) _
  have ep_ := nu_v (f := bx_ol (c y 9).toNat 0) (by omega) (by omega) hv1c_2 hv2c_2 (fun i k0 k1 => by rw [hv3c_2 i k0 k1]; exact pl_e (by omega) (by omega) (by omega) k0 k1)
  have e_st : vc_2 = fd_ (c y 9) 0 := by have t0 := (tb_0 (c y 9).toNat (by omega) (by omega)).1; rw [Int.toNat_of_nonneg (by omega)] at t0; rw [t0]; exact ep_.symm
  refine am_E.go (t2 := (12, [vR y, vI bits, vI (c y 9), vI vc_2, vU, vU, vU, vU, vU, vU], [], aq_h m s F c_2)) rfl rfl ?_
  refine am_E.go (t2 := (13, [vR y, vI bits, vI (c y 9), vI vc_2, vU, vU, vU, vU, vU, vU], [vI 0], aq_h m s F c_2)) rfl rfl ?_
  refine am_E.go (t2 := (15, [vR y, vI bits, vI (c y 9), vI vc_2, vI 0, vU, vU, vU, vU, vU], [], aq_h m s F c_2)) rfl rfl ?_
  refine am_E.go (t2 := (16, [vR y, vI bits, vI (c y 9), vI vc_2, vI 0, vU, vU, vU, vU, vU], [vI 0], aq_h m s F c_2)) rfl rfl ?_
  refine am_E.go (t2 := (18, [vR y, vI bits, vI (c y 9), vI vc_2, vI 0, vI 0, vU, vU, vU, vU], [], aq_h m s F c_2)) rfl rfl ?_
  refine am_E.go (t2 := (19, [vR y, vI bits, vI (c y 9), vI vc_2, vI 0, vI 0, vU, vU, vU, vU], [vI 0], aq_h m s F c_2)) rfl rfl ?_
  refine am_E.go (t2 := (21, [vR y, vI bits, vI (c y 9), vI vc_2, vI 0, vI 0, vI 0, vU, vU, vU], [], aq_h m s F c_2)) rfl rfl ?_
  refine qx_addState_0 ⟨hm, hFo, hG5, hG6, hG7, hG8, hG9, hG10, hG11, hG12, hG13, hG14, hG15, hG16, hG17, hG18, hG19, hG20, hG21, hG22, hG23⟩ ⟨hT1, hTt⟩ hr rfl (A := A) 9 vc_2 0 0 0 (vU) (vU) (vU) c_2 (aq_smt (aq_sm0 (c := c) (S := mo_S y)) (aq_smi sc_2 (fun a h => by unfold mo_S; omega))) (by omega) (by omega) (by omega) (by omega) (by omega) (by omega) (by omega) (by omega) (mo_ks (mo_k0 (y := y) (c := c)) sc_2 (by omega)) (fun j j0 j1 => by rw [sc_2 (y + 21) (by omega) j]; exact hA j j0 j1) rfl (by omega) ?_
  · intro b2_21 mn2_21 pw2_21 k2_21 v72_21 v82_21 v92_21 c_3 sc_3 f1_21 f2_21 f3_21 f4_21 f5_21 f6_21 hob2_21 hA2_21 fq_21
    refine am_E.go (t2 := (147, [vR y, vI bits, vI (c y 9), vI b2_21, vI mn2_21, vI pw2_21, vI k2_21, v72_21, v82_21, v92_21], [vI mn2_21], aq_h m s F c_3)) rfl rfl ?_
    refine am_E.go (t2 := (148, [vR y, vI bits, vI (c y 9), vI b2_21, vI mn2_21, vI pw2_21, vI k2_21, v72_21, v82_21, v92_21], [vR y, vI mn2_21], aq_h m s F c_3)) rfl rfl ?_
    refine am_E.go (t2 := (149, [vR y, vI bits, vI (c y 9), vI b2_21, vI mn2_21, vI pw2_21, vI k2_21, v72_21, v82_21, v92_21], [vI (c y 9), vR y, vI mn2_21], aq_h m s F c_3)) rfl rfl ?_
    refine am_E.go (t2 := (150, [vR y, vI bits, vI (c y 9), vI b2_21, vI mn2_21, vI pw2_21, vI k2_21, v72_21, v82_21, v92_21], [vI b2_21, vI (c y 9), vR y, vI mn2_21], aq_h m s F c_3)) rfl rfl ?_
    refine aq_callv (y := 3) (as2 := [vI (c y 9), vI b2_21]) (rest := [vI mn2_21]) rfl rfl (by decide) (Nat.le_of_ble_eq_true rfl) rfl rfl (Nat.le_of_ble_eq_true rfl) (by omega) hFo rfl (Nat.le_of_ble_eq_true rfl) (qy_mrings (S := fun a => a = y + 13) ⟨hm, hFo, hG5, hG6, hG7, hG8, hG9, hG10, hG11, hG12, hG13, hG14, hG15, hG16, hG17, hG18, hG19, hG20, hG21, hG22, hG23⟩ rfl ⟨hT1, hTt⟩ (by omega) (by omega) (by omega) (by omega)) ?_
    rintro r5 h5 ⟨c_r, rfl, s_r, rfl⟩
    show am_E _ (153, [vR y, vI bits, vI (c y 9), vI b2_21, vI mn2_21, vI pw2_21, vI k2_21, v72_21, v82_21, v92_21], [vI (ry_ (c y 9) (prt (c y 9) b2_21) 6 0 0 (fun _ => 0)), vI mn2_21], aq_h m s F c_r) _
    have e_r := ry_e (n := c y 9) (x := b2_21) (by omega) (by omega) f1_21 f2_21
    have e_g := tb_G_a (n := c y 9) (x := b2_21) (by omega) (by omega) f1_21 f2_21
    have hA_r : ∀ j, 0 ≤ j → j < 201 → c_r (y + 21) j = A j := fun j j0 j1 => by rw [s_r (y + 21) (by omega) j]; exact hA2_21 j j0 j1
    refine ae_add rfl (am_ri (by omega) (by omega)) ?_
    show am_E _ (154, [vR y, vI bits, vI (c y 9), vI b2_21, vI mn2_21, vI pw2_21, vI k2_21, v72_21, v82_21, v92_21], [vI (mn2_21 + (ry_ (c y 9) (prt (c y 9) b2_21) 6 0 0 (fun _ => 0)))], aq_h m s F c_r) _
    refine am_E.go (t2 := (156, [vR y, vI bits, vI (c y 9), vI b2_21, vI (mn2_21 + (ry_ (c y 9) (prt (c y 9) b2_21) 6 0 0 (fun _ => 0))), vI pw2_21, vI k2_21, v72_21, v82_21, v92_21], [], aq_h m s F c_r)) rfl rfl ?_
    refine am_E.go (t2 := (157, [vR y, vI bits, vI (c y 9), vI b2_21, vI (mn2_21 + (ry_ (c y 9) (prt (c y 9) b2_21) 6 0 0 (fun _ => 0))), vI pw2_21, vI k2_21, v72_21, v82_21, v92_21], [vI 0], aq_h m s F c_r)) rfl rfl ?_
    refine am_E.go (t2 := (159, [vR y, vI bits, vI (c y 9), vI b2_21, vI (mn2_21 + (ry_ (c y 9) (prt (c y 9) b2_21) 6 0 0 (fun _ => 0))), vI pw2_21, vI 0, v72_21, v82_21, v92_21], [], aq_h m s F c_r)) rfl rfl ?_
    have e8 : st_ (c (y + 10)) (c y 9) (c y 10) bits = (b2_21, mn2_21, pw2_21) := by unfold st_; rw [← e_st]; exact fq_21
    rw [e8]
    refine am_E.imp (qx_addState_1 ⟨hm, hFo, hG5, hG6, hG7, hG8, hG9, hG10, hG11, hG12, hG13, hG14, hG15, hG16, hG17, hG18, hG19, hG20, hG21, hG22, hG23⟩ (A := A) (by omega) (by omega) (by omega) (by omega) 203 0 (v72_21) (v82_21) (v92_21) c_r (aq_smt sc_3 (aq_smi s_r (fun a h => by unfold mo_S; omega))) (by omega) (by omega) (mo_ks hob2_21 s_r (by omega)) hA_r (fun j j0 j1 => absurd j1 (by omega)) (by omega)) ?_
    rintro r5 h5 ⟨d5, e5, s5, a1, a2, a3⟩
    refine ⟨d5, e5, s5, a1, a2, fun j j0 j1 => ?_⟩
    rw [a3 j j0 j1]
    unfold st_t
    rw [e_r]

theorem qx_power_2 {m s : Nat} {F : aq_F} {c0 : aq_C} {y : Nat} (hO : mo_0 m F y) {tbl : Int → Int} (hT : mo_T F y tbl) (hI : mo_I y c0) {k : Int} (hk0 : -40 ≤ k) (hk1 : k ≤ 40) {V : Int} : ∀ (d : Nat) (b : Int) (c : aq_C) (hs : aq_sm (mo_S y) c0 c) (h0 : 0 ≤ b) (h1 : b ≤ 256) (hob : mo_k y c0 c) (hV : pw_f (c0 (y + 10)) (c0 y 9) (c0 y 10) k d b (c (y + 21) (100 + k)) = V) (hd : 256 - b < (d : Int)), am_E ac_X5_power (41, [vR y, vI k, vI b], [], aq_h m s F c) (aq_Z m s F (fun a => y ≤ a ∧ a < y + 24) c0 (fun r d => r = some (vI V) ∧ mo_I y d ∧ d y 9 = c0 y 9 ∧ d y 10 = c0 y 10 ∧ ∀ i, d (y + 10) i = c0 (y + 10) i))
  | 0, b, c, hs, h0, h1, hob, hV, hd => by exfalso; omega
  | d + 1, b, c, hs, h0, h1, hob, hV, hd => by
    obtain ⟨hm, hFo, hG5, hG6, hG7, hG8, hG9, hG10, hG11, hG12, hG13, hG14, hG15, hG16, hG17, hG18, hG19, hG20, hG21, hG22, hG23⟩ := hO
    obtain ⟨hT1, hTt⟩ := hT
    have hr := hI.1
    obtain ⟨hr0, hr1, hr2, hr3, hr4⟩ := id hr
    refine am_E.go (t2 := (42, [vR y, vI k, vI b], [vI b], aq_h m s F c)) rfl rfl ?_
    refine am_E.go (t2 := (43, [vR y, vI k, vI b], [vI 1, vI b], aq_h m s F c)) rfl rfl ?_
    refine am_E.go (t2 := (44, [vR y, vI k, vI b], [vR y, vI 1, vI b], aq_h m s F c)) rfl rfl ?_
    refine aq_gf (v := vI (c y 10)) rfl (by omega) hFo (by decide) rfl ?_
    show am_E _ (47, [vR y, vI k, vI b], [vI (c y 10), vI 1, vI b], aq_h m s F c) _
    have f_1 := hob.2.1
    have e9 := am_shi1 (k := c0 y 10) (by omega) (by omega)
    have e_k : (c y 10) = c0 y 10 := hob.2.1
    rw [e_k]
    refine ae_bin (z := am_shi 1 (c0 y 10)) rfl rfl rfl ?_
    refine ae_icmp rfl (fun (q_2 : (am_shi 1 (c0 y 10)) ≤ b) => ?_) (fun (q_2 : b < (am_shi 1 (c0 y 10))) => ?_)
    · refine am_E.go (t2 := (63, [vR y, vI k, vI b], [vR y], aq_h m s F c)) rfl rfl ?_
      refine aq_gf (v := vR (y + 21)) rfl (by omega) hFo (by decide) rfl ?_
      show am_E _ (66, [vR y, vI k, vI b], [vR (y + 21)], aq_h m s F c) _
      refine am_E.go (t2 := (68, [vR y, vI k, vI b], [vI 100, vR (y + 21)], aq_h m s F c)) rfl rfl ?_
      refine am_E.go (t2 := (69, [vR y, vI k, vI b], [vI k, vI 100, vR (y + 21)], aq_h m s F c)) rfl rfl ?_
      refine ae_add rfl (am_ri (by omega) (by omega)) ?_
      show am_E _ (70, [vR y, vI k, vI b], [vI (100 + k), vR (y + 21)], aq_h m s F c) _
      refine aq_al (ok := fun k => k == 0) (v := vI (c (y + 21) (100 + k))) rfl rfl (by omega) hG21 rfl (by omega) (by omega) rfl ?_
      show am_E _ (71, [vR y, vI k, vI b], [vI (c (y + 21) (100 + k))], aq_h m s F c) _
      refine am_E.ret rfl rfl ?_
      rw [pw_f, if_neg (show ¬ b < am_shi 1 (c0 y 10) by omega)] at hV
      exact ⟨_, rfl, aq_smi hs (fun a h => mo_Sa h), by rw [hV], mo_Ik hI hs hob, hob.1, hob.2.1, fun i => hs _ (mo_n (by decide) (by decide)) i⟩
    · refine am_E.go (t2 := (52, [vR y, vI k, vI b], [vR y], aq_h m s F c)) rfl rfl ?_
      refine am_E.go (t2 := (53, [vR y, vI k, vI b], [vI b, vR y], aq_h m s F c)) rfl rfl ?_
      refine aq_callv (y := 2) (as2 := [vI b]) (rest := []) rfl rfl (by decide) (Nat.le_of_ble_eq_true rfl) rfl rfl (Nat.le_of_ble_eq_true rfl) (by omega) hFo rfl (Nat.le_of_ble_eq_true rfl) (qx_maddState ⟨hm, hFo, hG5, hG6, hG7, hG8, hG9, hG10, hG11, hG12, hG13, hG14, hG15, hG16, hG17, hG18, hG19, hG20, hG21, hG22, hG23⟩ ⟨hT1, hTt⟩ (mo_rc hob.1 hob.2.1 (hs _ (mo_n (by decide) (by decide))) hr) (A := fun j => c (y + 21) j) (fun _ _ _ => rfl)) ?_
      rintro r5 h5 ⟨c_a, rfl, s_a, rfl, k_a, v_a⟩
      show am_E _ (56, [vR y, vI k, vI b], [], aq_h m s F c_a) _
      have eL : c (y + 10) = c0 (y + 10) := funext (hs _ (mo_n (by decide) (by decide)))
      rw [eL, hob.1, hob.2.1] at v_a
      refine ae_iinc rfl rfl (am_ri (by omega) (by omega)) ?_
      show am_E _ (59, [vR y, vI k, vI (b + 1)], [], aq_h m s F c_a) _
      refine am_E.go (t2 := (41, [vR y, vI k, vI (b + 1)], [], aq_h m s F c_a)) rfl rfl ?_
      exact qx_power_2 ⟨hm, hFo, hG5, hG6, hG7, hG8, hG9, hG10, hG11, hG12, hG13, hG14, hG15, hG16, hG17, hG18, hG19, hG20, hG21, hG22, hG23⟩ ⟨hT1, hTt⟩ hI hk0 hk1 d (b + 1) c_a (aq_smt hs s_a) (by omega) (by omega) (mo_kt hob k_a) (by rw [pw_f, if_pos (show b < am_shi 1 (c0 y 10) by omega)] at hV; rw [v_a (100 + k) (by omega) (by omega), show 100 + k - 100 - (st_ (c0 (y + 10)) (c0 y 9) (c0 y 10) b).2.2 = k - (st_ (c0 (y + 10)) (c0 y 9) (c0 y 10) b).2.2 by omega]; exact hV) (by omega)

theorem qx_power_1 {m s : Nat} {F : aq_F} {c0 : aq_C} {y : Nat} (hO : mo_0 m F y) {tbl : Int → Int} (hT : mo_T F y tbl) (hI : mo_I y c0) {k : Int} (hk0 : -40 ≤ k) (hk1 : k ≤ 40) : ∀ (d : Nat) (i : Int) (c : aq_C) (hs : aq_sm (mo_S y) c0 c) (h0 : 0 ≤ i) (h1 : i ≤ 201) (hob : mo_k y c0 c) (hz : ∀ j, 0 ≤ j → j < i → c (y + 21) j = 0) (hd : 201 - i < (d : Int)), am_E ac_X5_power (19, [vR y, vI k, vI i], [], aq_h m s F c) (aq_Z m s F (fun a => y ≤ a ∧ a < y + 24) c0 (fun r d => r = some (vI (pw_v (c0 (y + 10)) (c0 y 9) (c0 y 10) k)) ∧ mo_I y d ∧ d y 9 = c0 y 9 ∧ d y 10 = c0 y 10 ∧ ∀ i, d (y + 10) i = c0 (y + 10) i))
  | 0, i, c, hs, h0, h1, hob, hz, hd => by exfalso; omega
  | d + 1, i, c, hs, h0, h1, hob, hz, hd => by
    obtain ⟨hm, hFo, hG5, hG6, hG7, hG8, hG9, hG10, hG11, hG12, hG13, hG14, hG15, hG16, hG17, hG18, hG19, hG20, hG21, hG22, hG23⟩ := hO
    obtain ⟨hT1, hTt⟩ := hT
    have hr := hI.1
    obtain ⟨hr0, hr1, hr2, hr3, hr4⟩ := id hr
    refine am_E.go (t2 := (20, [vR y, vI k, vI i], [vI i], aq_h m s F c)) rfl rfl ?_
    refine am_E.go (t2 := (23, [vR y, vI k, vI i], [vI 201, vI i], aq_h m s F c)) rfl rfl ?_
    refine ae_icmp rfl (fun (q_1 : 201 ≤ i) => ?_) (fun (q_1 : i < 201) => ?_)
    · refine am_E.go (t2 := (40, [vR y, vI k, vI i], [vI 0], aq_h m s F c)) rfl rfl ?_
      refine am_E.go (t2 := (41, [vR y, vI k, vI 0], [], aq_h m s F c)) rfl rfl ?_
      exact qx_power_2 ⟨hm, hFo, hG5, hG6, hG7, hG8, hG9, hG10, hG11, hG12, hG13, hG14, hG15, hG16, hG17, hG18, hG19, hG20, hG21, hG22, hG23⟩ ⟨hT1, hTt⟩ hI hk0 hk1 (V := pw_v (c0 (y + 10)) (c0 y 9) (c0 y 10) k) 258 0 c hs (by omega) (by omega) hob (by rw [hz (100 + k) (by omega) (by omega)]; rfl) (by omega)
    · refine am_E.go (t2 := (27, [vR y, vI k, vI i], [vR y], aq_h m s F c)) rfl rfl ?_
      refine aq_gf (v := vR (y + 21)) rfl (by omega) hFo (by decide) rfl ?_
      show am_E _ (30, [vR y, vI k, vI i], [vR (y + 21)], aq_h m s F c) _
      refine am_E.go (t2 := (31, [vR y, vI k, vI i], [vI i, vR (y + 21)], aq_h m s F c)) rfl rfl ?_
      refine am_E.go (t2 := (32, [vR y, vI k, vI i], [vI 0, vI i, vR (y + 21)], aq_h m s F c)) rfl rfl ?_
      refine aq_as (kd := 0) rfl rfl (by omega) hG21 (by omega) (by omega) rfl rfl ?_
      show am_E _ (33, [vR y, vI k, vI i], [], aq_h m s F (aq_u c (y + 21) i 0)) _
      generalize hdc_2 : aq_u c (y + 21) i 0 = c_2
      have sc_2 := aq_smu hs hdc_2 (mo_Sk (by decide) (by decide))
      refine ae_iinc rfl rfl (am_ri (by omega) (by omega)) ?_
      show am_E _ (36, [vR y, vI k, vI (i + 1)], [], aq_h m s F c_2) _
      refine am_E.go (t2 := (19, [vR y, vI k, vI (i + 1)], [], aq_h m s F c_2)) rfl rfl ?_
      exact qx_power_1 ⟨hm, hFo, hG5, hG6, hG7, hG8, hG9, hG10, hG11, hG12, hG13, hG14, hG15, hG16, hG17, hG18, hG19, hG20, hG21, hG22, hG23⟩ ⟨hT1, hTt⟩ hI hk0 hk1 d (i + 1) c_2 sc_2 (by omega) (by omega) (mo_ku hob hdc_2 (Or.inl (by omega))) (fun j j0 j1 => by by_cases e : j = i; (rw [e, ← hdc_2, aq_us]); rw [← hdc_2, aq_un (Or.inr e)]; exact hz j j0 (by omega)) (by omega)

theorem qp_X5_power {m s : Nat} {F : aq_F} {c : aq_C} {y : Nat} (hC : mo_C m F y) (hI : mo_I y c) {k : Int} : am_E ac_X5_power (0, [vR y, vI k, vU], [], aq_h m s F c) (aq_Z m s F (fun a => y ≤ a ∧ a < y + 24) c (fun r d => r = some (vI (pw_a (c (y + 10)) (c y 9) (c y 10) k)) ∧ mo_I y d ∧ d y 9 = c y 9 ∧ d y 10 = c y 10 ∧ ∀ i, d (y + 10) i = c (y + 10) i)) := by
  obtain ⟨⟨hm, hFo, hG5, hG6, hG7, hG8, hG9, hG10, hG11, hG12, hG13, hG14, hG15, hG16, hG17, hG18, hG19, hG20, hG21, hG22, hG23⟩, ⟨tbl, hT1, hTt⟩, ⟨tA, tB, tD, hL1, hL2, hL3, hLt⟩⟩ := hC
  refine am_E.go (t2 := (1, [vR y, vI k, vU], [vI k], aq_h m s F c)) rfl rfl ?_
  refine am_E.go (t2 := (2, [vR y, vI k, vU], [vL k], aq_h m s F c)) rfl rfl ?_
  refine am_E.go (t2 := (5, [vR y, vI k, vU], [vL (-40), vL k], aq_h m s F c)) rfl rfl ?_
  refine am_E.go (t2 := (8, [vR y, vI k, vU], [vL 40, vL (-40), vL k], aq_h m s F c)) rfl rfl ?_
  refine am_E.call rfl rfl rfl (Nat.le_of_ble_eq_true rfl) (qm_in) ?_
  rintro r5 h5 ⟨rfl, v_1, rfl, hv_1⟩
  show am_E _ (11, [vR y, vI k, vU], [vI v_1], aq_h m s F c) _
  refine ae_if0 rfl (fun (q_2 : v_1 ≠ 0) => ?_) (fun (q_2 : v_1 = 0) => ?_)
  · refine am_E.go (t2 := (18, [vR y, vI k, vU], [vI 0], aq_h m s F c)) rfl rfl ?_
    refine am_E.go (t2 := (19, [vR y, vI k, vI 0], [], aq_h m s F c)) rfl rfl ?_
    have e7 : pw_a (c (y + 10)) (c y 9) (c y 10) k = pw_v (c (y + 10)) (c y 9) (c y 10) k := by unfold pw_a; rw [if_pos (by omega)]
    rw [e7]
    exact qx_power_1 ⟨hm, hFo, hG5, hG6, hG7, hG8, hG9, hG10, hG11, hG12, hG13, hG14, hG15, hG16, hG17, hG18, hG19, hG20, hG21, hG22, hG23⟩ ⟨hT1, hTt⟩ hI (by omega) (by omega) 203 0 c (aq_sm0 (c := c) (S := mo_S y)) (by omega) (by omega) mo_k0 (fun j j0 j1 => absurd j1 (by omega)) (by omega)
  · refine am_E.go (t2 := (16, [vR y, vI k, vU], [vI (-1000000)], aq_h m s F c)) rfl rfl ?_
    refine am_E.ret rfl rfl ?_
    refine ⟨_, rfl, aq_sm0, ?_, hI, rfl, rfl, fun _ => rfl⟩
    unfold pw_a
    rw [if_neg (by omega)]

theorem qp_X5_row {m s : Nat} {F : aq_F} {c : aq_C} {y : Nat} (hC : mo_C m F y) (hI : mo_I y c) {nn : Int} : am_E ac_X5_row (0, [vR y, vI nn], [], aq_h m s F c) (aq_Z m s F (fun a => y ≤ a ∧ a < y + 24) c (fun r d => mo_I y d ∧ ((2 ≤ nn ∧ nn ≤ 4 ∧ r = some (vI 0) ∧ d y 9 = nn ∧ d y 10 = 0 ∧ ∀ i, d (y + 10) i = c (y + 10) i) ∨ (¬ (2 ≤ nn ∧ nn ≤ 4) ∧ r = some (vI (-1)) ∧ d = c)))) := by
  obtain ⟨⟨hm, hFo, hG5, hG6, hG7, hG8, hG9, hG10, hG11, hG12, hG13, hG14, hG15, hG16, hG17, hG18, hG19, hG20, hG21, hG22, hG23⟩, ⟨tbl, hT1, hTt⟩, ⟨tA, tB, tD, hL1, hL2, hL3, hLt⟩⟩ := hC
  obtain ⟨⟨hr0, hr1, hr2, hr3, hr4⟩, hIu⟩ := id hI
  refine am_E.go (t2 := (1, [vR y, vI nn], [vI nn], aq_h m s F c)) rfl rfl ?_
  refine am_E.go (t2 := (2, [vR y, vI nn], [vL nn], aq_h m s F c)) rfl rfl ?_
  refine am_E.go (t2 := (5, [vR y, vI nn], [vL 2, vL nn], aq_h m s F c)) rfl rfl ?_
  refine am_E.go (t2 := (8, [vR y, vI nn], [vL 4, vL 2, vL nn], aq_h m s F c)) rfl rfl ?_
  refine am_E.call rfl rfl rfl (Nat.le_of_ble_eq_true rfl) (qm_in) ?_
  rintro r5 h5 ⟨rfl, v_1, rfl, hv_1⟩
  show am_E _ (11, [vR y, vI nn], [vI v_1], aq_h m s F c) _
  refine ae_if0 rfl (fun (q_2 : v_1 ≠ 0) => ?_) (fun (q_2 : v_1 = 0) => ?_)
  · refine am_E.go (t2 := (17, [vR y, vI nn], [vR y], aq_h m s F c)) rfl rfl ?_
    refine am_E.go (t2 := (18, [vR y, vI nn], [vI nn, vR y], aq_h m s F c)) rfl rfl ?_
    refine aq_pf rfl (by omega) hFo (by decide) rfl rfl ?_
    show am_E _ (21, [vR y, vI nn], [], aq_h m s F (aq_u c y 9 nn)) _
    generalize hdc_3 : aq_u c y 9 nn = c_3
    have sc_3 := aq_smu (aq_sm0 (c := c) (S := fun a => a = y ∨ a = y + 10)) hdc_3 (Or.inl rfl)
    refine am_E.go (t2 := (22, [vR y, vI nn], [vR y], aq_h m s F c_3)) rfl rfl ?_
    refine am_E.go (t2 := (23, [vR y, vI nn], [vI 0, vR y], aq_h m s F c_3)) rfl rfl ?_
    refine aq_pf rfl (by omega) hFo (by decide) rfl rfl ?_
    show am_E _ (26, [vR y, vI nn], [], aq_h m s F (aq_u c_3 y 10 0)) _
    generalize hdc_4 : aq_u c_3 y 10 0 = c_4
    have sc_4 := aq_smu sc_3 hdc_4 (Or.inl rfl)
    refine am_E.go (t2 := (27, [vR y, vI nn], [vI 0], aq_h m s F c_4)) rfl rfl ?_
    refine am_E.ret rfl rfl ?_
    have g9 : c_4 y 9 = nn := by rw [← hdc_4, aq_un (Or.inr (by omega)), ← hdc_3, aq_us]
    have g10 : c_4 y 10 = 0 := by rw [← hdc_4, aq_us]
    exact ⟨_, rfl, aq_smi sc_4 (fun a h => by omega), mo_Ix hI sc_4 ⟨by omega, by omega, by omega, by omega, fun i h5 h6 => absurd h6 (by omega)⟩, Or.inl ⟨by omega, by omega, rfl, g9, g10, fun i => by rw [← hdc_4, aq_un (Or.inl (by omega)), ← hdc_3, aq_un (Or.inl (by omega))]⟩⟩
  · refine am_E.go (t2 := (15, [vR y, vI nn], [vI (-1)], aq_h m s F c)) rfl rfl ?_
    refine am_E.ret rfl rfl ?_
    exact ⟨_, rfl, aq_sm0, hI, Or.inr ⟨by omega, rfl, rfl⟩⟩

theorem qp_X5_cross {m s : Nat} {F : aq_F} {c : aq_C} {y : Nat} (hC : mo_C m F y) (hI : mo_I y c) {l : Int} (hl0 : -2147483648 ≤ l) (hl1 : l < 2147483648) : am_E ac_X5_cross (0, [vR y, vI l, vU], [], aq_h m s F c) (aq_Z m s F (fun a => y ≤ a ∧ a < y + 24) c (fun r d => mo_I y d ∧ ((¬ (l ≠ 0 ∧ -(c y 9) < l ∧ l < c y 9) ∧ r = some (vI (-1)) ∧ d = c) ∨ ((l ≠ 0 ∧ -(c y 9) < l ∧ l < c y 9) ∧ 8 ≤ c y 10 ∧ r = some (vI (-3)) ∧ d = c) ∨ ((l ≠ 0 ∧ -(c y 9) < l ∧ l < c y 9) ∧ c y 10 < 8 ∧ r = some (vI (c y 10 + 1)) ∧ d y 9 = c y 9 ∧ d y 10 = c y 10 + 1 ∧ d (y + 10) (c y 10) = l ∧ ∀ i, i ≠ c y 10 → d (y + 10) i = c (y + 10) i)))) := by
  obtain ⟨⟨hm, hFo, hG5, hG6, hG7, hG8, hG9, hG10, hG11, hG12, hG13, hG14, hG15, hG16, hG17, hG18, hG19, hG20, hG21, hG22, hG23⟩, ⟨tbl, hT1, hTt⟩, ⟨tA, tB, tD, hL1, hL2, hL3, hLt⟩⟩ := hC
  obtain ⟨⟨hr0, hr1, hr2, hr3, hr4⟩, hIu⟩ := id hI
  refine am_E.go (t2 := (1, [vR y, vI l, vU], [vI l], aq_h m s F c)) rfl rfl ?_
  refine ae_if0 rfl (fun (q_1 : 0 ≤ l) => ?_) (fun (q_1 : l < 0) => ?_)
  · refine am_E.go (t2 := (10, [vR y, vI l, vU], [vI l], aq_h m s F c)) rfl rfl ?_
    refine am_E.go (t2 := (11, [vR y, vI l, vI l], [], aq_h m s F c)) rfl rfl ?_
    refine am_E.go (t2 := (12, [vR y, vI l, vI l], [vI l], aq_h m s F c)) rfl rfl ?_
    refine am_E.go (t2 := (13, [vR y, vI l, vI l], [vL l], aq_h m s F c)) rfl rfl ?_
    refine am_E.go (t2 := (14, [vR y, vI l, vI l], [vL 1, vL l], aq_h m s F c)) rfl rfl ?_
    refine am_E.go (t2 := (15, [vR y, vI l, vI l], [vR y, vL 1, vL l], aq_h m s F c)) rfl rfl ?_
    refine aq_gf (v := vI (c y 9)) rfl (by omega) hFo (by decide) rfl ?_
    show am_E _ (18, [vR y, vI l, vI l], [vI (c y 9), vL 1, vL l], aq_h m s F c) _
    skip
    refine am_E.go (t2 := (19, [vR y, vI l, vI l], [vI 1, vI (c y 9), vL 1, vL l], aq_h m s F c)) rfl rfl ?_
    refine ae_sub rfl (am_ri (by omega) (by omega)) ?_
    show am_E _ (20, [vR y, vI l, vI l], [vI ((c y 9) - 1), vL 1, vL l], aq_h m s F c) _
    refine am_E.go (t2 := (21, [vR y, vI l, vI l], [vL ((c y 9) - 1), vL 1, vL l], aq_h m s F c)) rfl rfl ?_
    refine am_E.call rfl rfl rfl (Nat.le_of_ble_eq_true rfl) (qm_in) ?_
    rintro r5 h5 ⟨rfl, v_3, rfl, hv_3⟩
    show am_E _ (24, [vR y, vI l, vI l], [vI v_3], aq_h m s F c) _
    refine ae_if0 rfl (fun (q_4 : v_3 ≠ 0) => ?_) (fun (q_4 : v_3 = 0) => ?_)
    · refine am_E.go (t2 := (30, [vR y, vI l, vI l], [vR y], aq_h m s F c)) rfl rfl ?_
      refine aq_gf (v := vI (c y 10)) rfl (by omega) hFo (by decide) rfl ?_
      show am_E _ (33, [vR y, vI l, vI l], [vI (c y 10)], aq_h m s F c) _
      skip
      refine am_E.go (t2 := (35, [vR y, vI l, vI l], [vI 8, vI (c y 10)], aq_h m s F c)) rfl rfl ?_
      refine ae_icmp rfl (fun (q_6 : (c y 10) ≠ 8) => ?_) (fun (q_6 : (c y 10) = 8) => ?_)
      · refine am_E.go (t2 := (42, [vR y, vI l, vI l], [vR y], aq_h m s F c)) rfl rfl ?_
        refine aq_gf (v := vR (y + 10)) rfl (by omega) hFo (by decide) rfl ?_
        show am_E _ (45, [vR y, vI l, vI l], [vR (y + 10)], aq_h m s F c) _
        refine am_E.go (t2 := (46, [vR y, vI l, vI l], [vR y, vR (y + 10)], aq_h m s F c)) rfl rfl ?_
        refine aq_gf (v := vI (c y 10)) rfl (by omega) hFo (by decide) rfl ?_
        show am_E _ (49, [vR y, vI l, vI l], [vI (c y 10), vR (y + 10)], aq_h m s F c) _
        skip
        refine am_E.go (t2 := (50, [vR y, vI l, vI l], [vI l, vI (c y 10), vR (y + 10)], aq_h m s F c)) rfl rfl ?_
        refine aq_as (kd := 0) rfl rfl (by omega) hG10 (by omega) (by omega) rfl rfl ?_
        show am_E _ (51, [vR y, vI l, vI l], [], aq_h m s F (aq_u c (y + 10) (c y 10) l)) _
        generalize hdc_8 : aq_u c (y + 10) (c y 10) l = c_8
        have sc_8 := aq_smu (aq_sm0 (c := c) (S := fun a => a = y ∨ a = y + 10)) hdc_8 (Or.inr rfl)
        refine am_E.go (t2 := (52, [vR y, vI l, vI l], [vR y], aq_h m s F c_8)) rfl rfl ?_
        refine am_E.go (t2 := (53, [vR y, vI l, vI l], [vR y, vR y], aq_h m s F c_8)) rfl rfl ?_
        refine aq_gf (v := vI (c_8 y 10)) rfl (by omega) hFo (by decide) rfl ?_
        show am_E _ (56, [vR y, vI l, vI l], [vI (c_8 y 10), vR y], aq_h m s F c_8) _
        have f_9 : c_8 y 10 = c y 10 := by rw [← hdc_8, aq_un (Or.inl (by omega))]
        refine am_E.go (t2 := (57, [vR y, vI l, vI l], [vI 1, vI (c_8 y 10), vR y], aq_h m s F c_8)) rfl rfl ?_
        refine ae_add rfl (am_ri (by omega) (by omega)) ?_
        show am_E _ (58, [vR y, vI l, vI l], [vI ((c_8 y 10) + 1), vR y], aq_h m s F c_8) _
        refine aq_pf rfl (by omega) hFo (by decide) rfl rfl ?_
        show am_E _ (61, [vR y, vI l, vI l], [], aq_h m s F (aq_u c_8 y 10 ((c_8 y 10) + 1))) _
        generalize hdc_10 : aq_u c_8 y 10 ((c_8 y 10) + 1) = c_10
        have sc_10 := aq_smu sc_8 hdc_10 (Or.inl rfl)
        refine am_E.go (t2 := (62, [vR y, vI l, vI l], [vR y], aq_h m s F c_10)) rfl rfl ?_
        refine aq_gf (v := vI (c_10 y 10)) rfl (by omega) hFo (by decide) rfl ?_
        show am_E _ (65, [vR y, vI l, vI l], [vI (c_10 y 10)], aq_h m s F c_10) _
        skip
        refine am_E.ret rfl rfl ?_
        have g9 : c_10 y 9 = c y 9 := by rw [← hdc_10, aq_un (Or.inr (by omega)), ← hdc_8, aq_un (Or.inl (by omega))]
        have g10 : c_10 y 10 = c y 10 + 1 := by rw [← hdc_10, aq_us, ← hdc_8, aq_un (Or.inl (by omega))]
        have gl : c_10 (y + 10) (c y 10) = l := by rw [← hdc_10, aq_un (Or.inl (by omega)), ← hdc_8, aq_us]
        have gm : ∀ i, i ≠ c y 10 → c_10 (y + 10) i = c (y + 10) i := fun i hi => by rw [← hdc_10, aq_un (Or.inl (by omega)), ← hdc_8, aq_un (Or.inr hi)]
        refine ⟨_, rfl, aq_smi sc_10 (fun a h => by omega), mo_Ix hI sc_10 ⟨by omega, by omega, by omega, by omega, fun i h5 h6 => ?_⟩, Or.inr (Or.inr ⟨by omega, by omega, by rw [g10], g9, g10, gl, gm⟩)⟩
        by_cases e : i = c y 10
        · rw [e, gl]
          omega
        · rw [gm i e, g9]
          exact hr4 i h5 (by omega)
      · refine am_E.go (t2 := (40, [vR y, vI l, vI l], [vI (-3)], aq_h m s F c)) rfl rfl ?_
        refine am_E.ret rfl rfl ?_
        exact ⟨_, rfl, aq_sm0, hI, Or.inr (Or.inl ⟨by omega, by omega, rfl, rfl⟩)⟩
    · refine am_E.go (t2 := (28, [vR y, vI l, vI l], [vI (-1)], aq_h m s F c)) rfl rfl ?_
      refine am_E.ret rfl rfl ?_
      exact ⟨_, rfl, aq_sm0, hI, Or.inl ⟨by omega, rfl, rfl⟩⟩
  · refine am_E.go (t2 := (5, [vR y, vI l, vU], [vI l], aq_h m s F c)) rfl rfl ?_
    have e_n : am_w (-l) = -l ∨ l = -2147483648 := by by_cases e : l = -2147483648; exact Or.inr e; exact Or.inl (am_w_id (am_ri (by omega) (by omega)))
    have e_m : l = -2147483648 → am_w (-l) = -2147483648 := by intro e; rw [e]; rfl
    refine am_E.go (t2 := (6, [vR y, vI l, vU], [vI (am_w (-l))], aq_h m s F c)) rfl rfl ?_
    refine am_E.go (t2 := (10, [vR y, vI l, vU], [vI (am_w (-l))], aq_h m s F c)) rfl rfl ?_
    refine am_E.go (t2 := (11, [vR y, vI l, vI (am_w (-l))], [], aq_h m s F c)) rfl rfl ?_
    refine am_E.go (t2 := (12, [vR y, vI l, vI (am_w (-l))], [vI (am_w (-l))], aq_h m s F c)) rfl rfl ?_
    refine am_E.go (t2 := (13, [vR y, vI l, vI (am_w (-l))], [vL (am_w (-l))], aq_h m s F c)) rfl rfl ?_
    refine am_E.go (t2 := (14, [vR y, vI l, vI (am_w (-l))], [vL 1, vL (am_w (-l))], aq_h m s F c)) rfl rfl ?_
    refine am_E.go (t2 := (15, [vR y, vI l, vI (am_w (-l))], [vR y, vL 1, vL (am_w (-l))], aq_h m s F c)) rfl rfl ?_
    refine aq_gf (v := vI (c y 9)) rfl (by omega) hFo (by decide) rfl ?_
    show am_E _ (18, [vR y, vI l, vI (am_w (-l))], [vI (c y 9), vL 1, vL (am_w (-l))], aq_h m s F c) _
    skip
    refine am_E.go (t2 := (19, [vR y, vI l, vI (am_w (-l))], [vI 1, vI (c y 9), vL 1, vL (am_w (-l))], aq_h m s F c)) rfl rfl ?_
    refine ae_sub rfl (am_ri (by omega) (by omega)) ?_
    show am_E _ (20, [vR y, vI l, vI (am_w (-l))], [vI ((c y 9) - 1), vL 1, vL (am_w (-l))], aq_h m s F c) _
    refine am_E.go (t2 := (21, [vR y, vI l, vI (am_w (-l))], [vL ((c y 9) - 1), vL 1, vL (am_w (-l))], aq_h m s F c)) rfl rfl ?_
    refine am_E.call rfl rfl rfl (Nat.le_of_ble_eq_true rfl) (qm_in) ?_
    rintro r5 h5 ⟨rfl, v_13, rfl, hv_13⟩
    show am_E _ (24, [vR y, vI l, vI (am_w (-l))], [vI v_13], aq_h m s F c) _
    refine ae_if0 rfl (fun (q_14 : v_13 ≠ 0) => ?_) (fun (q_14 : v_13 = 0) => ?_)
    · refine am_E.go (t2 := (30, [vR y, vI l, vI (am_w (-l))], [vR y], aq_h m s F c)) rfl rfl ?_
      refine aq_gf (v := vI (c y 10)) rfl (by omega) hFo (by decide) rfl ?_
      show am_E _ (33, [vR y, vI l, vI (am_w (-l))], [vI (c y 10)], aq_h m s F c) _
      skip
      refine am_E.go (t2 := (35, [vR y, vI l, vI (am_w (-l))], [vI 8, vI (c y 10)], aq_h m s F c)) rfl rfl ?_
      refine ae_icmp rfl (fun (q_16 : (c y 10) ≠ 8) => ?_) (fun (q_16 : (c y 10) = 8) => ?_)
      · refine am_E.go (t2 := (42, [vR y, vI l, vI (am_w (-l))], [vR y], aq_h m s F c)) rfl rfl ?_
        refine aq_gf (v := vR (y + 10)) rfl (by omega) hFo (by decide) rfl ?_
        show am_E _ (45, [vR y, vI l, vI (am_w (-l))], [vR (y + 10)], aq_h m s F c) _
        refine am_E.go (t2 := (46, [vR y, vI l, vI (am_w (-l))], [vR y, vR (y + 10)], aq_h m s F c)) rfl rfl ?_
        refine aq_gf (v := vI (c y 10)) rfl (by omega) hFo (by decide) rfl ?_
        show am_E _ (49, [vR y, vI l, vI (am_w (-l))], [vI (c y 10), vR (y + 10)], aq_h m s F c) _
        skip
        refine am_E.go (t2 := (50, [vR y, vI l, vI (am_w (-l))], [vI l, vI (c y 10), vR (y + 10)], aq_h m s F c)) rfl rfl ?_
        refine aq_as (kd := 0) rfl rfl (by omega) hG10 (by omega) (by omega) rfl rfl ?_
        show am_E _ (51, [vR y, vI l, vI (am_w (-l))], [], aq_h m s F (aq_u c (y + 10) (c y 10) l)) _
        generalize hdc_18 : aq_u c (y + 10) (c y 10) l = c_18
        have sc_18 := aq_smu (aq_sm0 (c := c) (S := fun a => a = y ∨ a = y + 10)) hdc_18 (Or.inr rfl)
        refine am_E.go (t2 := (52, [vR y, vI l, vI (am_w (-l))], [vR y], aq_h m s F c_18)) rfl rfl ?_
        refine am_E.go (t2 := (53, [vR y, vI l, vI (am_w (-l))], [vR y, vR y], aq_h m s F c_18)) rfl rfl ?_
        refine aq_gf (v := vI (c_18 y 10)) rfl (by omega) hFo (by decide) rfl ?_
        show am_E _ (56, [vR y, vI l, vI (am_w (-l))], [vI (c_18 y 10), vR y], aq_h m s F c_18) _
        have f_19 : c_18 y 10 = c y 10 := by rw [← hdc_18, aq_un (Or.inl (by omega))]
        refine am_E.go (t2 := (57, [vR y, vI l, vI (am_w (-l))], [vI 1, vI (c_18 y 10), vR y], aq_h m s F c_18)) rfl rfl ?_
        refine ae_add rfl (am_ri (by omega) (by omega)) ?_
        show am_E _ (58, [vR y, vI l, vI (am_w (-l))], [vI ((c_18 y 10) + 1), vR y], aq_h m s F c_18) _
        refine aq_pf rfl (by omega) hFo (by decide) rfl rfl ?_
        show am_E _ (61, [vR y, vI l, vI (am_w (-l))], [], aq_h m s F (aq_u c_18 y 10 ((c_18 y 10) + 1))) _
        generalize hdc_20 : aq_u c_18 y 10 ((c_18 y 10) + 1) = c_20
        have sc_20 := aq_smu sc_18 hdc_20 (Or.inl rfl)
        refine am_E.go (t2 := (62, [vR y, vI l, vI (am_w (-l))], [vR y], aq_h m s F c_20)) rfl rfl ?_
        refine aq_gf (v := vI (c_20 y 10)) rfl (by omega) hFo (by decide) rfl ?_
        show am_E _ (65, [vR y, vI l, vI (am_w (-l))], [vI (c_20 y 10)], aq_h m s F c_20) _
        skip
        refine am_E.ret rfl rfl ?_
        have g9 : c_20 y 9 = c y 9 := by rw [← hdc_20, aq_un (Or.inr (by omega)), ← hdc_18, aq_un (Or.inl (by omega))]
        have g10 : c_20 y 10 = c y 10 + 1 := by rw [← hdc_20, aq_us, ← hdc_18, aq_un (Or.inl (by omega))]
        have gl : c_20 (y + 10) (c y 10) = l := by rw [← hdc_20, aq_un (Or.inl (by omega)), ← hdc_18, aq_us]
        have gm : ∀ i, i ≠ c y 10 → c_20 (y + 10) i = c (y + 10) i := fun i hi => by rw [← hdc_20, aq_un (Or.inl (by omega)), ← hdc_18, aq_un (Or.inr hi)]
        refine ⟨_, rfl, aq_smi sc_20 (fun a h => by omega), mo_Ix hI sc_20 ⟨by omega, by omega, by omega, by omega, fun i h5 h6 => ?_⟩, Or.inr (Or.inr ⟨by omega, by omega, by rw [g10], g9, g10, gl, gm⟩)⟩
        by_cases e : i = c y 10
        · rw [e, gl]
          omega
        · rw [gm i e, g9]
          exact hr4 i h5 (by omega)
      · refine am_E.go (t2 := (40, [vR y, vI l, vI (am_w (-l))], [vI (-3)], aq_h m s F c)) rfl rfl ?_
        refine am_E.ret rfl rfl ?_
        exact ⟨_, rfl, aq_sm0, hI, Or.inr (Or.inl ⟨by omega, by omega, rfl, rfl⟩)⟩
    · refine am_E.go (t2 := (28, [vR y, vI l, vI (am_w (-l))], [vI (-1)], aq_h m s F c)) rfl rfl ?_
      refine am_E.ret rfl rfl ?_
      exact ⟨_, rfl, aq_sm0, hI, Or.inl ⟨by omega, rfl, rfl⟩⟩

theorem qp_X5_back {m s : Nat} {F : aq_F} {c : aq_C} {y : Nat} (hC : mo_C m F y) (hI : mo_I y c) : am_E ac_X5_back (0, [vR y], [], aq_h m s F c) (aq_Z m s F (fun a => y ≤ a ∧ a < y + 24) c (fun r d => mo_I y d ∧ ((c y 10 ≤ 0 ∧ r = some (vI (-2)) ∧ d = c) ∨ (0 < c y 10 ∧ r = some (vI (c y 10 - 1)) ∧ d y 9 = c y 9 ∧ d y 10 = c y 10 - 1 ∧ ∀ i, d (y + 10) i = c (y + 10) i)))) := by
  obtain ⟨⟨hm, hFo, hG5, hG6, hG7, hG8, hG9, hG10, hG11, hG12, hG13, hG14, hG15, hG16, hG17, hG18, hG19, hG20, hG21, hG22, hG23⟩, ⟨tbl, hT1, hTt⟩, ⟨tA, tB, tD, hL1, hL2, hL3, hLt⟩⟩ := hC
  obtain ⟨⟨hr0, hr1, hr2, hr3, hr4⟩, hIu⟩ := id hI
  refine am_E.go (t2 := (1, [vR y], [vR y], aq_h m s F c)) rfl rfl ?_
  refine aq_gf (v := vI (c y 10)) rfl (by omega) hFo (by decide) rfl ?_
  show am_E _ (4, [vR y], [vI (c y 10)], aq_h m s F c) _
  skip
  refine ae_if0 rfl (fun (q_2 : (c y 10) ≠ 0) => ?_) (fun (q_2 : (c y 10) = 0) => ?_)
  · refine am_E.go (t2 := (11, [vR y], [vR y], aq_h m s F c)) rfl rfl ?_
    refine am_E.go (t2 := (12, [vR y], [vR y, vR y], aq_h m s F c)) rfl rfl ?_
    refine aq_gf (v := vI (c y 10)) rfl (by omega) hFo (by decide) rfl ?_
    show am_E _ (15, [vR y], [vI (c y 10), vR y], aq_h m s F c) _
    skip
    refine am_E.go (t2 := (16, [vR y], [vI 1, vI (c y 10), vR y], aq_h m s F c)) rfl rfl ?_
    refine ae_sub rfl (am_ri (by omega) (by omega)) ?_
    show am_E _ (17, [vR y], [vI ((c y 10) - 1), vR y], aq_h m s F c) _
    refine aq_pf rfl (by omega) hFo (by decide) rfl rfl ?_
    show am_E _ (20, [vR y], [], aq_h m s F (aq_u c y 10 ((c y 10) - 1))) _
    generalize hdc_4 : aq_u c y 10 ((c y 10) - 1) = c_4
    have sc_4 := aq_smu (aq_sm0 (c := c) (S := fun a => a = y ∨ a = y + 10)) hdc_4 (Or.inl rfl)
    refine am_E.go (t2 := (21, [vR y], [vR y], aq_h m s F c_4)) rfl rfl ?_
    refine aq_gf (v := vI (c_4 y 10)) rfl (by omega) hFo (by decide) rfl ?_
    show am_E _ (24, [vR y], [vI (c_4 y 10)], aq_h m s F c_4) _
    skip
    refine am_E.ret rfl rfl ?_
    have g9 : c_4 y 9 = c y 9 := by rw [← hdc_4, aq_un (Or.inr (by omega))]
    have g10 : c_4 y 10 = c y 10 - 1 := by rw [← hdc_4, aq_us]
    have gm : ∀ i, c_4 (y + 10) i = c (y + 10) i := fun i => by rw [← hdc_4, aq_un (Or.inl (by omega))]
    refine ⟨_, rfl, aq_smi sc_4 (fun a h => by omega), mo_Ix hI sc_4 ⟨by omega, by omega, by omega, by omega, fun i h5 h6 => ?_⟩, Or.inr ⟨by omega, by rw [g10], g9, g10, gm⟩⟩
    rw [g9, gm i]
    exact hr4 i h5 (by omega)
  · refine am_E.go (t2 := (9, [vR y], [vI (-2)], aq_h m s F c)) rfl rfl ?_
    refine am_E.ret rfl rfl ?_
    exact ⟨_, rfl, aq_sm0, hI, Or.inl ⟨by omega, rfl, rfl⟩⟩
