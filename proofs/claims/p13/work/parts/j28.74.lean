/-! The reference: decode. Printed by wip/p20/sx/gDEC.py. -/

theorem qm_dec_p {m s : Nat} {F : aq_F} {c0 : aq_C} {y : Nat} (hO : mo_0 m F y) (hG1 : F (y + 1) = (0, 992, fun _ => .inl 0)) {n b : Int} (hn1 : 1 ≤ n) (hn4 : n ≤ 4) (hb0 : 0 ≤ b) (hb1 : b < bx_K n) {w : Int → Int} {lf wy mn T : Int} {c : aq_C} : ∀ (d : Nat) (ch : Int) (p : Int) (v8 : am_V) (hw : ∀ i, 0 ≤ i → i < 8 → c (y + 11) i = w i) (h0 : 0 ≤ p) (hb : dc_pb w d p = true) (ht : dc_p w d p = T) (K0 : ∀ (p2 : Int) (ht : p2 = T), am_E ac_X5_decode (78, [vR y, vI n, vI b, vI lf, vI wy, vI mn, vI ch, vI p2, v8], [], aq_h m s F c) (aq_Z m s F (fun a => a = y + 1 ∨ a = y + 11) c0 (fun r d => r = none ∧ (∀ i, 0 ≤ i → i < 2 * n → d (y + 1) (8 * (mo_f n + b) + i) = prt n b i) ∧ ∀ j, (j < 8 * (mo_f n + b) ∨ 8 * (mo_f n + b) + 8 ≤ j) → d (y + 1) j = c0 (y + 1) j))), am_E ac_X5_decode (62, [vR y, vI n, vI b, vI lf, vI wy, vI mn, vI ch, vI p, v8], [], aq_h m s F c) (aq_Z m s F (fun a => a = y + 1 ∨ a = y + 11) c0 (fun r d => r = none ∧ (∀ i, 0 ≤ i → i < 2 * n → d (y + 1) (8 * (mo_f n + b) + i) = prt n b i) ∧ ∀ j, (j < 8 * (mo_f n + b) ∨ 8 * (mo_f n + b) + 8 ≤ j) → d (y + 1) j = c0 (y + 1) j))
  | 0, ch, p, v8, hw, h0, hb, ht, K0 => by cases hb
  | d + 1, ch, p, v8, hw, h0, hb, ht, K0 => by
    obtain ⟨hm, hFo, hG5, hG6, hG7, hG8, hG9, hG10, hG11, hG12, hG13, hG14, hG15, hG16, hG17, hG18, hG19, hG20, hG21, hG22, hG23⟩ := hO
    have hfs := mo_fs n
    rw [dc_pb, Bool.and_eq_true, Bool.or_eq_true] at hb
    obtain ⟨hb2, hb3⟩ := hb
    have hb2 := of_decide_eq_true hb2
    refine am_E.go (t2 := (63, [vR y, vI n, vI b, vI lf, vI wy, vI mn, vI ch, vI p, v8], [vR y], aq_h m s F c)) rfl rfl ?_
    refine aq_gf (v := vR (y + 11)) rfl (by omega) hFo (by decide) rfl ?_
    show am_E _ (66, [vR y, vI n, vI b, vI lf, vI wy, vI mn, vI ch, vI p, v8], [vR (y + 11)], aq_h m s F c) _
    refine am_E.go (t2 := (68, [vR y, vI n, vI b, vI lf, vI wy, vI mn, vI ch, vI p, v8], [vI p, vR (y + 11)], aq_h m s F c)) rfl rfl ?_
    refine aq_al (ok := fun k => k == 1) (v := vI (c (y + 11) p)) rfl rfl (by omega) hG11 rfl (by omega) (by omega) rfl ?_
    show am_E _ (69, [vR y, vI n, vI b, vI lf, vI wy, vI mn, vI ch, vI p, v8], [vI (c (y + 11) p)], aq_h m s F c) _
    refine ae_if0 rfl (fun (q_1 : (c (y + 11) p) = 0) => ?_) (fun (q_1 : (c (y + 11) p) ≠ 0) => ?_)
    · exact K0 p (by rw [← ht, dc_p, if_pos (by rw [← hw p (by omega) (by omega)]; assumption)])
    · refine ae_iinc rfl rfl (am_ri (by omega) (by omega)) ?_
      show am_E _ (75, [vR y, vI n, vI b, vI lf, vI wy, vI mn, vI ch, vI (p + 1), v8], [], aq_h m s F c) _
      refine am_E.go (t2 := (62, [vR y, vI n, vI b, vI lf, vI wy, vI mn, vI ch, vI (p + 1), v8], [], aq_h m s F c)) rfl rfl ?_
      exact qm_dec_p ⟨hm, hFo, hG5, hG6, hG7, hG8, hG9, hG10, hG11, hG12, hG13, hG14, hG15, hG16, hG17, hG18, hG19, hG20, hG21, hG22, hG23⟩ hG1 hn1 hn4 hb0 hb1 d ch (p + 1) (v8) hw (by omega) (hb3.resolve_left (fun h => absurd (of_decide_eq_true h) (by rw [← hw p (by omega) (by omega)]; assumption))) (by rw [← ht, dc_p, if_neg (by rw [← hw p (by omega) (by omega)]; assumption)]) K0

theorem qm_dec_q {m s : Nat} {F : aq_F} {c0 : aq_C} {y : Nat} (hO : mo_0 m F y) (hG1 : F (y + 1) = (0, 992, fun _ => .inl 0)) {n b : Int} (hn1 : 1 ≤ n) (hn4 : n ≤ 4) (hb0 : 0 ≤ b) (hb1 : b < bx_K n) {w : Int → Int} {lf wy mn T : Int} {c : aq_C} : ∀ (d : Nat) (ch : Int) (p : Int) (q : Int) (hw : ∀ i, 0 ≤ i → i < 8 → c (y + 11) i = w i) (h0 : 0 ≤ q) (h1 : ch ≤ 200) (h2 : 0 ≤ ch + q) (hb : dc_qb w d ch q = true) (ht : dc_q w d ch q = T) (K0 : ∀ (ch2 : Int) (q2 : Int) (ht : q2 = T), am_E ac_X5_decode (133, [vR y, vI n, vI b, vI lf, vI wy, vI mn, vI ch2, vI p, vI q2], [], aq_h m s F c) (aq_Z m s F (fun a => a = y + 1 ∨ a = y + 11) c0 (fun r d => r = none ∧ (∀ i, 0 ≤ i → i < 2 * n → d (y + 1) (8 * (mo_f n + b) + i) = prt n b i) ∧ ∀ j, (j < 8 * (mo_f n + b) ∨ 8 * (mo_f n + b) + 8 ≤ j) → d (y + 1) j = c0 (y + 1) j))), am_E ac_X5_decode (92, [vR y, vI n, vI b, vI lf, vI wy, vI mn, vI ch, vI p, vI q], [], aq_h m s F c) (aq_Z m s F (fun a => a = y + 1 ∨ a = y + 11) c0 (fun r d => r = none ∧ (∀ i, 0 ≤ i → i < 2 * n → d (y + 1) (8 * (mo_f n + b) + i) = prt n b i) ∧ ∀ j, (j < 8 * (mo_f n + b) ∨ 8 * (mo_f n + b) + 8 ≤ j) → d (y + 1) j = c0 (y + 1) j))
  | 0, ch, p, q, hw, h0, h1, h2, hb, ht, K0 => by cases hb
  | d + 1, ch, p, q, hw, h0, h1, h2, hb, ht, K0 => by
    obtain ⟨hm, hFo, hG5, hG6, hG7, hG8, hG9, hG10, hG11, hG12, hG13, hG14, hG15, hG16, hG17, hG18, hG19, hG20, hG21, hG22, hG23⟩ := hO
    have hfs := mo_fs n
    rw [dc_qb, Bool.and_eq_true, Bool.or_eq_true] at hb
    obtain ⟨hb2, hb3⟩ := hb
    have hb2 := of_decide_eq_true hb2
    have hwq := hw q h0 (by omega)
    refine am_E.go (t2 := (93, [vR y, vI n, vI b, vI lf, vI wy, vI mn, vI ch, vI p, vI q], [vR y], aq_h m s F c)) rfl rfl ?_
    refine aq_gf (v := vR (y + 11)) rfl (by omega) hFo (by decide) rfl ?_
    show am_E _ (96, [vR y, vI n, vI b, vI lf, vI wy, vI mn, vI ch, vI p, vI q], [vR (y + 11)], aq_h m s F c) _
    refine am_E.go (t2 := (98, [vR y, vI n, vI b, vI lf, vI wy, vI mn, vI ch, vI p, vI q], [vI q, vR (y + 11)], aq_h m s F c)) rfl rfl ?_
    refine aq_al (ok := fun k => k == 1) (v := vI (c (y + 11) q)) rfl rfl (by omega) hG11 rfl (by omega) (by omega) rfl ?_
    show am_E _ (99, [vR y, vI n, vI b, vI lf, vI wy, vI mn, vI ch, vI p, vI q], [vI (c (y + 11) q)], aq_h m s F c) _
    refine ae_if0 rfl (fun (q_1 : (c (y + 11) q) ≠ 0) => ?_) (fun (q_1 : (c (y + 11) q) = 0) => ?_)
    · refine am_E.go (t2 := (109, [vR y, vI n, vI b, vI lf, vI wy, vI mn, vI ch, vI p, vI q], [vI ch], aq_h m s F c)) rfl rfl ?_
      refine am_E.go (t2 := (110, [vR y, vI n, vI b, vI lf, vI wy, vI mn, vI ch, vI p, vI q], [vR y, vI ch], aq_h m s F c)) rfl rfl ?_
      refine aq_gf (v := vR (y + 11)) rfl (by omega) hFo (by decide) rfl ?_
      show am_E _ (113, [vR y, vI n, vI b, vI lf, vI wy, vI mn, vI ch, vI p, vI q], [vR (y + 11), vI ch], aq_h m s F c) _
      refine am_E.go (t2 := (115, [vR y, vI n, vI b, vI lf, vI wy, vI mn, vI ch, vI p, vI q], [vI q, vR (y + 11), vI ch], aq_h m s F c)) rfl rfl ?_
      refine aq_al (ok := fun k => k == 1) (v := vI (c (y + 11) q)) rfl rfl (by omega) hG11 rfl (by omega) (by omega) rfl ?_
      show am_E _ (116, [vR y, vI n, vI b, vI lf, vI wy, vI mn, vI ch, vI p, vI q], [vI (c (y + 11) q), vI ch], aq_h m s F c) _
      refine ae_if0 rfl (fun (q_2 : (c (y + 11) q) = 0) => ?_) (fun (q_2 : (c (y + 11) q) ≠ 0) => ?_)
      · refine am_E.go (t2 := (124, [vR y, vI n, vI b, vI lf, vI wy, vI mn, vI ch, vI p, vI q], [vI 1, vI ch], aq_h m s F c)) rfl rfl ?_
        refine ae_sub rfl (am_ri (by omega) (by omega)) ?_
        show am_E _ (125, [vR y, vI n, vI b, vI lf, vI wy, vI mn, vI ch, vI p, vI q], [vI (ch - 1)], aq_h m s F c) _
        refine am_E.go (t2 := (127, [vR y, vI n, vI b, vI lf, vI wy, vI mn, vI (ch - 1), vI p, vI q], [], aq_h m s F c)) rfl rfl ?_
        refine ae_iinc rfl rfl (am_ri (by omega) (by omega)) ?_
        show am_E _ (130, [vR y, vI n, vI b, vI lf, vI wy, vI mn, vI (ch - 1), vI p, vI (q + 1)], [], aq_h m s F c) _
        refine am_E.go (t2 := (92, [vR y, vI n, vI b, vI lf, vI wy, vI mn, vI (ch - 1), vI p, vI (q + 1)], [], aq_h m s F c)) rfl rfl ?_
        exact qm_dec_q ⟨hm, hFo, hG5, hG6, hG7, hG8, hG9, hG10, hG11, hG12, hG13, hG14, hG15, hG16, hG17, hG18, hG19, hG20, hG21, hG22, hG23⟩ hG1 hn1 hn4 hb0 hb1 d (ch - 1) p (q + 1) hw (by omega) (by omega) (by omega) (by have h9 := hb3.resolve_left (fun h => absurd (of_decide_eq_true h) (by omega)); first | (exfalso; omega) | (rw [if_pos (by omega)] at h9; exact h9) | (rw [if_neg (by omega)] at h9; exact h9)) (by first | (exfalso; omega) | (rw [← ht, dc_q, if_neg (by omega), if_pos (by omega)]) | (rw [← ht, dc_q, if_neg (by omega), if_neg (by omega)])) K0
      · refine am_E.go (t2 := (120, [vR y, vI n, vI b, vI lf, vI wy, vI mn, vI ch, vI p, vI q], [vI 0, vI ch], aq_h m s F c)) rfl rfl ?_
        refine am_E.go (t2 := (124, [vR y, vI n, vI b, vI lf, vI wy, vI mn, vI ch, vI p, vI q], [vI 0, vI ch], aq_h m s F c)) rfl rfl ?_
        refine ae_sub rfl (am_ri (by omega) (by omega)) ?_
        show am_E _ (125, [vR y, vI n, vI b, vI lf, vI wy, vI mn, vI ch, vI p, vI q], [vI (ch - 0)], aq_h m s F c) _
        refine am_E.go (t2 := (127, [vR y, vI n, vI b, vI lf, vI wy, vI mn, vI (ch - 0), vI p, vI q], [], aq_h m s F c)) rfl rfl ?_
        refine ae_iinc rfl rfl (am_ri (by omega) (by omega)) ?_
        show am_E _ (130, [vR y, vI n, vI b, vI lf, vI wy, vI mn, vI (ch - 0), vI p, vI (q + 1)], [], aq_h m s F c) _
        refine am_E.go (t2 := (92, [vR y, vI n, vI b, vI lf, vI wy, vI mn, vI (ch - 0), vI p, vI (q + 1)], [], aq_h m s F c)) rfl rfl ?_
        exact qm_dec_q ⟨hm, hFo, hG5, hG6, hG7, hG8, hG9, hG10, hG11, hG12, hG13, hG14, hG15, hG16, hG17, hG18, hG19, hG20, hG21, hG22, hG23⟩ hG1 hn1 hn4 hb0 hb1 d (ch - 0) p (q + 1) hw (by omega) (by omega) (by omega) (by have h9 := hb3.resolve_left (fun h => absurd (of_decide_eq_true h) (by omega)); first | (exfalso; omega) | (rw [if_pos (by omega)] at h9; exact h9) | (rw [if_neg (by omega)] at h9; exact h9)) (by first | (exfalso; omega) | (rw [← ht, dc_q, if_neg (by omega), if_pos (by omega)]) | (rw [← ht, dc_q, if_neg (by omega), if_neg (by omega)])) K0
    · refine am_E.go (t2 := (104, [vR y, vI n, vI b, vI lf, vI wy, vI mn, vI ch, vI p, vI q], [vI ch], aq_h m s F c)) rfl rfl ?_
      refine ae_if0 rfl (fun (q_3 : ch ≤ 0) => ?_) (fun (q_3 : 0 < ch) => ?_)
      · exact K0 ch q (by rw [← ht, dc_q, if_pos (by omega)])
      · refine am_E.go (t2 := (109, [vR y, vI n, vI b, vI lf, vI wy, vI mn, vI ch, vI p, vI q], [vI ch], aq_h m s F c)) rfl rfl ?_
        refine am_E.go (t2 := (110, [vR y, vI n, vI b, vI lf, vI wy, vI mn, vI ch, vI p, vI q], [vR y, vI ch], aq_h m s F c)) rfl rfl ?_
        refine aq_gf (v := vR (y + 11)) rfl (by omega) hFo (by decide) rfl ?_
        show am_E _ (113, [vR y, vI n, vI b, vI lf, vI wy, vI mn, vI ch, vI p, vI q], [vR (y + 11), vI ch], aq_h m s F c) _
        refine am_E.go (t2 := (115, [vR y, vI n, vI b, vI lf, vI wy, vI mn, vI ch, vI p, vI q], [vI q, vR (y + 11), vI ch], aq_h m s F c)) rfl rfl ?_
        refine aq_al (ok := fun k => k == 1) (v := vI (c (y + 11) q)) rfl rfl (by omega) hG11 rfl (by omega) (by omega) rfl ?_
        show am_E _ (116, [vR y, vI n, vI b, vI lf, vI wy, vI mn, vI ch, vI p, vI q], [vI (c (y + 11) q), vI ch], aq_h m s F c) _
        refine ae_if0 rfl (fun (q_4 : (c (y + 11) q) = 0) => ?_) (fun (q_4 : (c (y + 11) q) ≠ 0) => ?_)
        · refine am_E.go (t2 := (124, [vR y, vI n, vI b, vI lf, vI wy, vI mn, vI ch, vI p, vI q], [vI 1, vI ch], aq_h m s F c)) rfl rfl ?_
          refine ae_sub rfl (am_ri (by omega) (by omega)) ?_
          show am_E _ (125, [vR y, vI n, vI b, vI lf, vI wy, vI mn, vI ch, vI p, vI q], [vI (ch - 1)], aq_h m s F c) _
          refine am_E.go (t2 := (127, [vR y, vI n, vI b, vI lf, vI wy, vI mn, vI (ch - 1), vI p, vI q], [], aq_h m s F c)) rfl rfl ?_
          refine ae_iinc rfl rfl (am_ri (by omega) (by omega)) ?_
          show am_E _ (130, [vR y, vI n, vI b, vI lf, vI wy, vI mn, vI (ch - 1), vI p, vI (q + 1)], [], aq_h m s F c) _
          refine am_E.go (t2 := (92, [vR y, vI n, vI b, vI lf, vI wy, vI mn, vI (ch - 1), vI p, vI (q + 1)], [], aq_h m s F c)) rfl rfl ?_
          exact qm_dec_q ⟨hm, hFo, hG5, hG6, hG7, hG8, hG9, hG10, hG11, hG12, hG13, hG14, hG15, hG16, hG17, hG18, hG19, hG20, hG21, hG22, hG23⟩ hG1 hn1 hn4 hb0 hb1 d (ch - 1) p (q + 1) hw (by omega) (by omega) (by omega) (by have h9 := hb3.resolve_left (fun h => absurd (of_decide_eq_true h) (by omega)); first | (exfalso; omega) | (rw [if_pos (by omega)] at h9; exact h9) | (rw [if_neg (by omega)] at h9; exact h9)) (by first | (exfalso; omega) | (rw [← ht, dc_q, if_neg (by omega), if_pos (by omega)]) | (rw [← ht, dc_q, if_neg (by omega), if_neg (by omega)])) K0
        · refine am_E.go (t2 := (120, [vR y, vI n, vI b, vI lf, vI wy, vI mn, vI ch, vI p, vI q], [vI 0, vI ch], aq_h m s F c)) rfl rfl ?_
          refine am_E.go (t2 := (124, [vR y, vI n, vI b, vI lf, vI wy, vI mn, vI ch, vI p, vI q], [vI 0, vI ch], aq_h m s F c)) rfl rfl ?_
          refine ae_sub rfl (am_ri (by omega) (by omega)) ?_
          show am_E _ (125, [vR y, vI n, vI b, vI lf, vI wy, vI mn, vI ch, vI p, vI q], [vI (ch - 0)], aq_h m s F c) _
          refine am_E.go (t2 := (127, [vR y, vI n, vI b, vI lf, vI wy, vI mn, vI (ch - 0), vI p, vI q], [], aq_h m s F c)) rfl rfl ?_
          refine ae_iinc rfl rfl (am_ri (by omega) (by omega)) ?_
          show am_E _ (130, [vR y, vI n, vI b, vI lf, vI wy, vI mn, vI (ch - 0), vI p, vI (q + 1)], [], aq_h m s F c) _
          refine am_E.go (t2 := (92, [vR y, vI n, vI b, vI lf, vI wy, vI mn, vI (ch - 0), vI p, vI (q + 1)], [], aq_h m s F c)) rfl rfl ?_
          exact qm_dec_q ⟨hm, hFo, hG5, hG6, hG7, hG8, hG9, hG10, hG11, hG12, hG13, hG14, hG15, hG16, hG17, hG18, hG19, hG20, hG21, hG22, hG23⟩ hG1 hn1 hn4 hb0 hb1 d (ch - 0) p (q + 1) hw (by omega) (by omega) (by omega) (by have h9 := hb3.resolve_left (fun h => absurd (of_decide_eq_true h) (by omega)); first | (exfalso; omega) | (rw [if_pos (by omega)] at h9; exact h9) | (rw [if_neg (by omega)] at h9; exact h9)) (by first | (exfalso; omega) | (rw [← ht, dc_q, if_neg (by omega), if_pos (by omega)]) | (rw [← ht, dc_q, if_neg (by omega), if_neg (by omega)])) K0

theorem dc_ac {y : Nat} {w : Int → Int} {p : Int} {c d : aq_C} (hw : ∀ i, 0 ≤ i → i < 8 → c (y + 11) i = w i) (he : aq_u c (y + 11) p 1 = d) : ∀ i, 0 ≤ i → i < 8 → d (y + 11) i = dc_u w p i := fun i h0 h1 => by
  rw [← he]
  unfold aq_u dc_u
  by_cases e : i = p
  · rw [if_pos ⟨rfl, e⟩, if_pos e]
  · rw [if_neg (fun h => e h.2), if_neg e]
    exact hw i h0 h1

theorem qm_dec_o {m s : Nat} {F : aq_F} {c0 : aq_C} {y : Nat} (hO : mo_0 m F y) (hG1 : F (y + 1) = (0, 992, fun _ => .inl 0)) {n b : Int} (hn1 : 1 ≤ n) (hn4 : n ≤ 4) (hb0 : 0 ≤ b) (hb1 : b < bx_K n) : ∀ (d : Nat) (w : Int → Int) (lf : Int) (wy : Int) (mn : Int) (v6 : am_V) (v7 : am_V) (v8 : am_V) (c : aq_C) (hs : aq_sm (fun a => a = y + 1 ∨ a = y + 11) c0 c) (h0 : 0 ≤ lf) (h1 : lf ≤ 200) (h2 : 1 ≤ wy) (h3 : wy ≤ 105) (h4 : mn ≤ 8) (h5 : mn % 2 = 0) (h6 : -1 ≤ mn) (hw : ∀ i, 0 ≤ i → i < 8 → c (y + 11) i = w i) (htb : ∀ i, 0 ≤ i → i < 2 * n → w i = 1 → c (y + 1) (8 * (mo_f n + b) + i) = prt n b i) (hot : ∀ j, (j < 8 * (mo_f n + b) ∨ 8 * (mo_f n + b) + 8 ≤ j) → c (y + 1) j = c0 (y + 1) j) (hb : dc_b n b d mn lf wy w = true), am_E ac_X5_decode (34, [vR y, vI n, vI b, vI lf, vI wy, vI mn, v6, v7, v8], [], aq_h m s F c) (aq_Z m s F (fun a => a = y + 1 ∨ a = y + 11) c0 (fun r d => r = none ∧ (∀ i, 0 ≤ i → i < 2 * n → d (y + 1) (8 * (mo_f n + b) + i) = prt n b i) ∧ ∀ j, (j < 8 * (mo_f n + b) ∨ 8 * (mo_f n + b) + 8 ≤ j) → d (y + 1) j = c0 (y + 1) j))
  | 0, w, lf, wy, mn, v6, v7, v8, c, hs, h0, h1, h2, h3, h4, h5, h6, hw, htb, hot, hb => by cases hb
  | d + 1, w, lf, wy, mn, v6, v7, v8, c, hs, h0, h1, h2, h3, h4, h5, h6, hw, htb, hot, hb => by
    obtain ⟨hm, hFo, hG5, hG6, hG7, hG8, hG9, hG10, hG11, hG12, hG13, hG14, hG15, hG16, hG17, hG18, hG19, hG20, hG21, hG22, hG23⟩ := hO
    have hfs := mo_fs n
    rw [dc_b] at hb
    refine am_E.go (t2 := (36, [vR y, vI n, vI b, vI lf, vI wy, vI mn, v6, v7, v8], [vI mn], aq_h m s F c)) rfl rfl ?_
    refine ae_if0 rfl (fun (q_1 : mn ≤ 0) => ?_) (fun (q_1 : 0 < mn) => ?_)
    · refine am_E.ret rfl rfl ?_
      rw [if_pos (show mn ≤ 0 by omega)] at hb
      rw [List.all_eq_true] at hb
      exact ⟨_, rfl, hs, rfl, fun i h8 h9 => htb i h8 h9 (by have h10 := of_decide_eq_true (hb i.toNat (List.mem_range.mpr (by omega))); rw [Int.toNat_of_nonneg h8] at h10; exact h10), hot⟩
    · rw [if_neg (show ¬ mn ≤ 0 by omega)] at hb
      simp only [Bool.and_eq_true, decide_eq_true_eq] at hb
      obtain ⟨⟨⟨⟨⟨⟨⟨b1, b2⟩, b3⟩, b4⟩, b5⟩, b6⟩, b7⟩, b8⟩ := hb
      have pr := dc_pr 9 0 b2
      refine am_E.go (t2 := (41, [vR y, vI n, vI b, vI lf, vI wy, vI mn, v6, v7, v8], [vI wy], aq_h m s F c)) rfl rfl ?_
      refine am_E.go (t2 := (43, [vR y, vI n, vI b, vI lf, vI wy, vI mn, v6, v7, v8], [vI mn, vI wy], aq_h m s F c)) rfl rfl ?_
      refine am_E.go (t2 := (44, [vR y, vI n, vI b, vI lf, vI wy, vI mn, v6, v7, v8], [vI 1, vI mn, vI wy], aq_h m s F c)) rfl rfl ?_
      refine ae_sub rfl (am_ri (by omega) (by omega)) ?_
      show am_E _ (45, [vR y, vI n, vI b, vI lf, vI wy, vI mn, v6, v7, v8], [vI (mn - 1), vI wy], aq_h m s F c) _
      have u1 := Int.ediv_le_self (mn - 1) (show 0 ≤ wy by omega)
      refine ae_bin (z := wy / (mn - 1)) rfl rfl (am_div_e (by omega) (by omega) (by omega)) ?_
      generalize wy / (mn - 1) = wy2 at u1 b1 b3 b5 b6 b7 b8 ⊢
      refine am_E.go (t2 := (48, [vR y, vI n, vI b, vI lf, vI wy2, vI mn, v6, v7, v8], [], aq_h m s F c)) rfl rfl ?_
      refine am_E.go (t2 := (49, [vR y, vI n, vI b, vI lf, vI wy2, vI mn, v6, v7, v8], [vI lf], aq_h m s F c)) rfl rfl ?_
      refine am_E.go (t2 := (51, [vR y, vI n, vI b, vI lf, vI wy2, vI mn, v6, v7, v8], [vI wy2, vI lf], aq_h m s F c)) rfl rfl ?_
      have u2 := Int.ediv_le_self wy2 (show 0 ≤ lf by omega)
      have u3 := Int.ediv_nonneg (show 0 ≤ lf by omega) (show 0 ≤ wy2 by omega)
      refine ae_bin (z := lf / wy2) rfl rfl (am_div_e (by omega) (by omega) (by omega)) ?_
      generalize lf / wy2 = ch0 at u2 u3 b3 b5 b6 b7 b8 ⊢
      refine am_E.go (t2 := (54, [vR y, vI n, vI b, vI lf, vI wy2, vI mn, vI ch0, v7, v8], [], aq_h m s F c)) rfl rfl ?_
      refine am_E.go (t2 := (55, [vR y, vI n, vI b, vI lf, vI wy2, vI mn, vI ch0, v7, v8], [vI lf], aq_h m s F c)) rfl rfl ?_
      refine am_E.go (t2 := (57, [vR y, vI n, vI b, vI lf, vI wy2, vI mn, vI ch0, v7, v8], [vI wy2, vI lf], aq_h m s F c)) rfl rfl ?_
      have u4 := Int.emod_nonneg lf (show wy2 ≠ 0 by omega)
      have u5 := Int.emod_lt_of_pos lf (show 0 < wy2 by omega)
      refine ae_bin (z := lf % wy2) rfl rfl (am_rem_e (by omega) (by omega)) ?_
      generalize lf % wy2 = lf2 at u4 u5 b8 ⊢
      refine am_E.go (t2 := (59, [vR y, vI n, vI b, vI lf2, vI wy2, vI mn, vI ch0, v7, v8], [], aq_h m s F c)) rfl rfl ?_
      refine am_E.go (t2 := (60, [vR y, vI n, vI b, vI lf2, vI wy2, vI mn, vI ch0, v7, v8], [vI 0], aq_h m s F c)) rfl rfl ?_
      refine am_E.go (t2 := (62, [vR y, vI n, vI b, vI lf2, vI wy2, vI mn, vI ch0, vI 0, v8], [], aq_h m s F c)) rfl rfl ?_
      refine qm_dec_p ⟨hm, hFo, hG5, hG6, hG7, hG8, hG9, hG10, hG11, hG12, hG13, hG14, hG15, hG16, hG17, hG18, hG19, hG20, hG21, hG22, hG23⟩ hG1 hn1 hn4 hb0 hb1 (w := w) 9 ch0 0 (v8) hw (by omega) b2 rfl ?_
      · intro p2_62 ht_62
        rw [← ht_62] at b3 b4 b5 b6 b7 b8 pr
        refine am_E.go (t2 := (79, [vR y, vI n, vI b, vI lf2, vI wy2, vI mn, vI ch0, vI p2_62, (v8)], [vR y], aq_h m s F c)) rfl rfl ?_
        refine aq_gf (v := vR (y + 11)) rfl (by omega) hFo (by decide) rfl ?_
        show am_E _ (82, [vR y, vI n, vI b, vI lf2, vI wy2, vI mn, vI ch0, vI p2_62, (v8)], [vR (y + 11)], aq_h m s F c) _
        refine am_E.go (t2 := (84, [vR y, vI n, vI b, vI lf2, vI wy2, vI mn, vI ch0, vI p2_62, (v8)], [vI p2_62, vR (y + 11)], aq_h m s F c)) rfl rfl ?_
        refine am_E.go (t2 := (85, [vR y, vI n, vI b, vI lf2, vI wy2, vI mn, vI ch0, vI p2_62, (v8)], [vI 1, vI p2_62, vR (y + 11)], aq_h m s F c)) rfl rfl ?_
        refine aq_as (kd := 1) rfl rfl (by omega) hG11 (by omega) (by omega) rfl rfl ?_
        show am_E _ (86, [vR y, vI n, vI b, vI lf2, vI wy2, vI mn, vI ch0, vI p2_62, (v8)], [], aq_h m s F (aq_u c (y + 11) p2_62 1)) _
        generalize hdc_3 : aq_u c (y + 11) p2_62 1 = c_3
        have sc_3 := aq_smu hs hdc_3 (Or.inr rfl)
        refine am_E.go (t2 := (88, [vR y, vI n, vI b, vI lf2, vI wy2, vI mn, vI ch0, vI p2_62, (v8)], [vI p2_62], aq_h m s F c_3)) rfl rfl ?_
        refine am_E.go (t2 := (89, [vR y, vI n, vI b, vI lf2, vI wy2, vI mn, vI ch0, vI p2_62, (v8)], [vI 1, vI p2_62], aq_h m s F c_3)) rfl rfl ?_
        refine ae_add rfl (am_ri (by omega) (by omega)) ?_
        show am_E _ (90, [vR y, vI n, vI b, vI lf2, vI wy2, vI mn, vI ch0, vI p2_62, (v8)], [vI (p2_62 + 1)], aq_h m s F c_3) _
        refine am_E.go (t2 := (92, [vR y, vI n, vI b, vI lf2, vI wy2, vI mn, vI ch0, vI p2_62, vI (p2_62 + 1)], [], aq_h m s F c_3)) rfl rfl ?_
        refine qm_dec_q ⟨hm, hFo, hG5, hG6, hG7, hG8, hG9, hG10, hG11, hG12, hG13, hG14, hG15, hG16, hG17, hG18, hG19, hG20, hG21, hG22, hG23⟩ hG1 hn1 hn4 hb0 hb1 (w := dc_u w p2_62) 9 ch0 p2_62 (p2_62 + 1) (dc_ac hw hdc_3) (by omega) (by omega) (by omega) b3 rfl ?_
        · intro ch2_92 q2_92 ht_92
          have qr := dc_qr 9 ch0 (p2_62 + 1) b3
          rw [← ht_92] at b5 b6 b7 b8 qr
          refine am_E.go (t2 := (134, [vR y, vI n, vI b, vI lf2, vI wy2, vI mn, vI ch2_92, vI p2_62, vI q2_92], [vR y], aq_h m s F c_3)) rfl rfl ?_
          refine aq_gf (v := vR (y + 11)) rfl (by omega) hFo (by decide) rfl ?_
          show am_E _ (137, [vR y, vI n, vI b, vI lf2, vI wy2, vI mn, vI ch2_92, vI p2_62, vI q2_92], [vR (y + 11)], aq_h m s F c_3) _
          refine am_E.go (t2 := (139, [vR y, vI n, vI b, vI lf2, vI wy2, vI mn, vI ch2_92, vI p2_62, vI q2_92], [vI q2_92, vR (y + 11)], aq_h m s F c_3)) rfl rfl ?_
          refine am_E.go (t2 := (140, [vR y, vI n, vI b, vI lf2, vI wy2, vI mn, vI ch2_92, vI p2_62, vI q2_92], [vI 1, vI q2_92, vR (y + 11)], aq_h m s F c_3)) rfl rfl ?_
          refine aq_as (kd := 1) rfl rfl (by omega) hG11 (by omega) (by omega) rfl rfl ?_
          show am_E _ (141, [vR y, vI n, vI b, vI lf2, vI wy2, vI mn, vI ch2_92, vI p2_62, vI q2_92], [], aq_h m s F (aq_u c_3 (y + 11) q2_92 1)) _
          generalize hdc_5 : aq_u c_3 (y + 11) q2_92 1 = c_5
          have sc_5 := aq_smu sc_3 hdc_5 (Or.inr rfl)
          refine am_E.go (t2 := (142, [vR y, vI n, vI b, vI lf2, vI wy2, vI mn, vI ch2_92, vI p2_62, vI q2_92], [vR y], aq_h m s F c_5)) rfl rfl ?_
          refine aq_gf (v := vR (y + 1)) rfl (by omega) hFo (by decide) rfl ?_
          show am_E _ (145, [vR y, vI n, vI b, vI lf2, vI wy2, vI mn, vI ch2_92, vI p2_62, vI q2_92], [vR (y + 1)], aq_h m s F c_5) _
          refine am_E.go (t2 := (146, [vR y, vI n, vI b, vI lf2, vI wy2, vI mn, vI ch2_92, vI p2_62, vI q2_92], [vI n, vR (y + 1)], aq_h m s F c_5)) rfl rfl ?_
          refine am_E.go (t2 := (147, [vR y, vI n, vI b, vI lf2, vI wy2, vI mn, vI ch2_92, vI p2_62, vI q2_92], [vI b, vI n, vR (y + 1)], aq_h m s F c_5)) rfl rfl ?_
          refine am_E.call rfl rfl rfl (Nat.le_of_ble_eq_true rfl) (qm_at (by omega) (by omega)) ?_
          rintro r5 h5 ⟨rfl, xa, rfl, hxa⟩
          show am_E _ (150, [vR y, vI n, vI b, vI lf2, vI wy2, vI mn, vI ch2_92, vI p2_62, vI q2_92], [vI xa, vR (y + 1)], aq_h m s F c_5) _
          refine am_E.go (t2 := (152, [vR y, vI n, vI b, vI lf2, vI wy2, vI mn, vI ch2_92, vI p2_62, vI q2_92], [vI p2_62, vI xa, vR (y + 1)], aq_h m s F c_5)) rfl rfl ?_
          refine ae_add rfl (am_ri (by omega) (by omega)) ?_
          show am_E _ (153, [vR y, vI n, vI b, vI lf2, vI wy2, vI mn, vI ch2_92, vI p2_62, vI q2_92], [vI (xa + p2_62), vR (y + 1)], aq_h m s F c_5) _
          refine am_E.go (t2 := (155, [vR y, vI n, vI b, vI lf2, vI wy2, vI mn, vI ch2_92, vI p2_62, vI q2_92], [vI q2_92, vI (xa + p2_62), vR (y + 1)], aq_h m s F c_5)) rfl rfl ?_
          refine aq_as (kd := 0) rfl rfl (by omega) hG1 (by omega) (by omega) rfl rfl ?_
          show am_E _ (156, [vR y, vI n, vI b, vI lf2, vI wy2, vI mn, vI ch2_92, vI p2_62, vI q2_92], [], aq_h m s F (aq_u c_5 (y + 1) (xa + p2_62) q2_92)) _
          generalize hdc_6 : aq_u c_5 (y + 1) (xa + p2_62) q2_92 = c_6
          have sc_6 := aq_smu sc_5 hdc_6 (Or.inl rfl)
          refine am_E.go (t2 := (157, [vR y, vI n, vI b, vI lf2, vI wy2, vI mn, vI ch2_92, vI p2_62, vI q2_92], [vR y], aq_h m s F c_6)) rfl rfl ?_
          refine aq_gf (v := vR (y + 1)) rfl (by omega) hFo (by decide) rfl ?_
          show am_E _ (160, [vR y, vI n, vI b, vI lf2, vI wy2, vI mn, vI ch2_92, vI p2_62, vI q2_92], [vR (y + 1)], aq_h m s F c_6) _
          refine am_E.go (t2 := (161, [vR y, vI n, vI b, vI lf2, vI wy2, vI mn, vI ch2_92, vI p2_62, vI q2_92], [vI n, vR (y + 1)], aq_h m s F c_6)) rfl rfl ?_
          refine am_E.go (t2 := (162, [vR y, vI n, vI b, vI lf2, vI wy2, vI mn, vI ch2_92, vI p2_62, vI q2_92], [vI b, vI n, vR (y + 1)], aq_h m s F c_6)) rfl rfl ?_
          refine am_E.call rfl rfl rfl (Nat.le_of_ble_eq_true rfl) (qm_at (by omega) (by omega)) ?_
          rintro r5 h5 ⟨rfl, xb, rfl, hxb⟩
          show am_E _ (165, [vR y, vI n, vI b, vI lf2, vI wy2, vI mn, vI ch2_92, vI p2_62, vI q2_92], [vI xb, vR (y + 1)], aq_h m s F c_6) _
          refine am_E.go (t2 := (167, [vR y, vI n, vI b, vI lf2, vI wy2, vI mn, vI ch2_92, vI p2_62, vI q2_92], [vI q2_92, vI xb, vR (y + 1)], aq_h m s F c_6)) rfl rfl ?_
          refine ae_add rfl (am_ri (by omega) (by omega)) ?_
          show am_E _ (168, [vR y, vI n, vI b, vI lf2, vI wy2, vI mn, vI ch2_92, vI p2_62, vI q2_92], [vI (xb + q2_92), vR (y + 1)], aq_h m s F c_6) _
          refine am_E.go (t2 := (170, [vR y, vI n, vI b, vI lf2, vI wy2, vI mn, vI ch2_92, vI p2_62, vI q2_92], [vI p2_62, vI (xb + q2_92), vR (y + 1)], aq_h m s F c_6)) rfl rfl ?_
          refine aq_as (kd := 0) rfl rfl (by omega) hG1 (by omega) (by omega) rfl rfl ?_
          show am_E _ (171, [vR y, vI n, vI b, vI lf2, vI wy2, vI mn, vI ch2_92, vI p2_62, vI q2_92], [], aq_h m s F (aq_u c_6 (y + 1) (xb + q2_92) p2_62)) _
          generalize hdc_7 : aq_u c_6 (y + 1) (xb + q2_92) p2_62 = c_7
          have sc_7 := aq_smu sc_6 hdc_7 (Or.inl rfl)
          refine ae_iinc rfl rfl (am_ri (by omega) (by omega)) ?_
          show am_E _ (174, [vR y, vI n, vI b, vI lf2, vI wy2, vI (mn + (-2)), vI ch2_92, vI p2_62, vI q2_92], [], aq_h m s F c_7) _
          refine am_E.go (t2 := (34, [vR y, vI n, vI b, vI lf2, vI wy2, vI (mn + (-2)), vI ch2_92, vI p2_62, vI q2_92], [], aq_h m s F c_7)) rfl rfl ?_
          exact qm_dec_o ⟨hm, hFo, hG5, hG6, hG7, hG8, hG9, hG10, hG11, hG12, hG13, hG14, hG15, hG16, hG17, hG18, hG19, hG20, hG21, hG22, hG23⟩ hG1 hn1 hn4 hb0 hb1 d (dc_u (dc_u w p2_62) q2_92) lf2 wy2 (mn + (-2)) (vI ch2_92) (vI p2_62) (vI q2_92) c_7 sc_7 (by omega) (by omega) (by omega) (by omega) (by omega) (by omega) (by omega) (fun i h5 h6 => by rw [← hdc_7, aq_un (Or.inl (by omega)), ← hdc_6, aq_un (Or.inl (by omega))]; exact dc_ac (dc_ac hw hdc_3) hdc_5 i h5 h6) (fun i h5 h6 h7 => by
      rw [← hdc_7]
      by_cases e1 : i = q2_92
      · rw [e1, ← hxb, aq_us, b7]
      · rw [aq_un (Or.inr (by omega)), ← hdc_6]
        by_cases e2 : i = p2_62
        · rw [e2, ← hxa, aq_us, b6]
        · rw [aq_un (Or.inr (by omega)), ← hdc_5, aq_un (Or.inl (by omega)), ← hdc_3, aq_un (Or.inl (by omega))]
          unfold dc_u at h7
          rw [if_neg e1, if_neg e2] at h7
          exact htb i h5 h6 h7) (fun j h5 => by rw [← hdc_7, aq_un (Or.inr (by omega)), ← hdc_6, aq_un (Or.inr (by omega)), ← hdc_5, aq_un (Or.inl (by omega)), ← hdc_3, aq_un (Or.inl (by omega))]; exact hot j h5) b8

theorem qm_dec_z {m s : Nat} {F : aq_F} {c0 : aq_C} {y : Nat} (hO : mo_0 m F y) (hG1 : F (y + 1) = (0, 992, fun _ => .inl 0)) {n b : Int} (hn1 : 1 ≤ n) (hn4 : n ≤ 4) (hb0 : 0 ≤ b) (hb1 : b < bx_K n) : ∀ (d : Nat) (k : Int) (v4 : am_V) (v5 : am_V) (v6 : am_V) (v7 : am_V) (v8 : am_V) (c : aq_C) (hs : aq_sm (fun a => a = y + 1 ∨ a = y + 11) c0 c) (h0 : 0 ≤ k) (h1 : k ≤ 8) (hz : ∀ i, 0 ≤ i → i < k → c (y + 11) i = 0) (hot : ∀ j, c (y + 1) j = c0 (y + 1) j) (hd : 8 - k < (d : Int)), am_E ac_X5_decode (2, [vR y, vI n, vI b, vI k, v4, v5, v6, v7, v8], [], aq_h m s F c) (aq_Z m s F (fun a => a = y + 1 ∨ a = y + 11) c0 (fun r d => r = none ∧ (∀ i, 0 ≤ i → i < 2 * n → d (y + 1) (8 * (mo_f n + b) + i) = prt n b i) ∧ ∀ j, (j < 8 * (mo_f n + b) ∨ 8 * (mo_f n + b) + 8 ≤ j) → d (y + 1) j = c0 (y + 1) j))
  | 0, k, v4, v5, v6, v7, v8, c, hs, h0, h1, hz, hot, hd => by exfalso; omega
  | d + 1, k, v4, v5, v6, v7, v8, c, hs, h0, h1, hz, hot, hd => by
    obtain ⟨hm, hFo, hG5, hG6, hG7, hG8, hG9, hG10, hG11, hG12, hG13, hG14, hG15, hG16, hG17, hG18, hG19, hG20, hG21, hG22, hG23⟩ := hO
    have hfs := mo_fs n
    refine am_E.go (t2 := (3, [vR y, vI n, vI b, vI k, v4, v5, v6, v7, v8], [vI k], aq_h m s F c)) rfl rfl ?_
    refine am_E.go (t2 := (5, [vR y, vI n, vI b, vI k, v4, v5, v6, v7, v8], [vI 8, vI k], aq_h m s F c)) rfl rfl ?_
    refine ae_icmp rfl (fun (q_1 : 8 ≤ k) => ?_) (fun (q_1 : k < 8) => ?_)
    · refine am_E.go (t2 := (22, [vR y, vI n, vI b, vI k, v4, v5, v6, v7, v8], [vI b], aq_h m s F c)) rfl rfl ?_
      refine am_E.go (t2 := (23, [vR y, vI n, vI b, vI b, v4, v5, v6, v7, v8], [], aq_h m s F c)) rfl rfl ?_
      refine am_E.go (t2 := (24, [vR y, vI n, vI b, vI b, v4, v5, v6, v7, v8], [vI n], aq_h m s F c)) rfl rfl ?_
      refine am_E.call rfl rfl rfl (Nat.le_of_ble_eq_true rfl) (qm_boxes) ?_
      rintro r5 h5 ⟨rfl, v_bx, rfl, hv_bx⟩
      show am_E _ (27, [vR y, vI n, vI b, vI b, v4, v5, v6, v7, v8], [vI v_bx], aq_h m s F c) _
      refine am_E.go (t2 := (29, [vR y, vI n, vI b, vI b, vI v_bx, v5, v6, v7, v8], [], aq_h m s F c)) rfl rfl ?_
      refine am_E.go (t2 := (30, [vR y, vI n, vI b, vI b, vI v_bx, v5, v6, v7, v8], [vI 2], aq_h m s F c)) rfl rfl ?_
      refine am_E.go (t2 := (31, [vR y, vI n, vI b, vI b, vI v_bx, v5, v6, v7, v8], [vI n, vI 2], aq_h m s F c)) rfl rfl ?_
      refine ae_mul rfl (am_ri (by omega) (by omega)) ?_
      show am_E _ (32, [vR y, vI n, vI b, vI b, vI v_bx, v5, v6, v7, v8], [vI (2 * n)], aq_h m s F c) _
      refine am_E.go (t2 := (34, [vR y, vI n, vI b, vI b, vI v_bx, vI (2 * n), v6, v7, v8], [], aq_h m s F c)) rfl rfl ?_
      exact qm_dec_o ⟨hm, hFo, hG5, hG6, hG7, hG8, hG9, hG10, hG11, hG12, hG13, hG14, hG15, hG16, hG17, hG18, hG19, hG20, hG21, hG22, hG23⟩ hG1 hn1 hn4 hb0 hb1 5 (fun _ => 0) b v_bx (2 * n) (v6) (v7) (v8) c hs (by omega) (by omega) (by omega) (by omega) (by omega) (by omega) (by omega) (fun i h5 h6 => hz i h5 (by omega)) (fun i _ _ h7 => absurd h7 (by decide)) (fun j _ => hot j) (by have h9 := dc_n hn1 hn4 hb0 hb1; rw [← hv_bx] at h9; exact h9)
    · refine am_E.go (t2 := (9, [vR y, vI n, vI b, vI k, v4, v5, v6, v7, v8], [vR y], aq_h m s F c)) rfl rfl ?_
      refine aq_gf (v := vR (y + 11)) rfl (by omega) hFo (by decide) rfl ?_
      show am_E _ (12, [vR y, vI n, vI b, vI k, v4, v5, v6, v7, v8], [vR (y + 11)], aq_h m s F c) _
      refine am_E.go (t2 := (13, [vR y, vI n, vI b, vI k, v4, v5, v6, v7, v8], [vI k, vR (y + 11)], aq_h m s F c)) rfl rfl ?_
      refine am_E.go (t2 := (14, [vR y, vI n, vI b, vI k, v4, v5, v6, v7, v8], [vI 0, vI k, vR (y + 11)], aq_h m s F c)) rfl rfl ?_
      refine aq_as (kd := 1) rfl rfl (by omega) hG11 (by omega) (by omega) rfl rfl ?_
      show am_E _ (15, [vR y, vI n, vI b, vI k, v4, v5, v6, v7, v8], [], aq_h m s F (aq_u c (y + 11) k 0)) _
      generalize hdc_2 : aq_u c (y + 11) k 0 = c_2
      have sc_2 := aq_smu hs hdc_2 (Or.inr rfl)
      refine ae_iinc rfl rfl (am_ri (by omega) (by omega)) ?_
      show am_E _ (18, [vR y, vI n, vI b, vI (k + 1), v4, v5, v6, v7, v8], [], aq_h m s F c_2) _
      refine am_E.go (t2 := (2, [vR y, vI n, vI b, vI (k + 1), v4, v5, v6, v7, v8], [], aq_h m s F c_2)) rfl rfl ?_
      exact qm_dec_z ⟨hm, hFo, hG5, hG6, hG7, hG8, hG9, hG10, hG11, hG12, hG13, hG14, hG15, hG16, hG17, hG18, hG19, hG20, hG21, hG22, hG23⟩ hG1 hn1 hn4 hb0 hb1 d (k + 1) (v4) (v5) (v6) (v7) (v8) c_2 sc_2 (by omega) (by omega) (aq_fl (g := fun _ => 0) hz hdc_2 rfl) (fun j => by rw [← hdc_2, aq_un (Or.inl (by omega))]; exact hot j) (by omega)

theorem qm_decode {m s : Nat} {F : aq_F} {c : aq_C} {y : Nat} (hO : mo_0 m F y) (hG1 : F (y + 1) = (0, 992, fun _ => .inl 0)) {n b : Int} (hn1 : 1 ≤ n) (hn4 : n ≤ 4) (hb0 : 0 ≤ b) (hb1 : b < bx_K n) : am_E ac_X5_decode (0, [vR y, vI n, vI b, vU, vU, vU, vU, vU, vU], [], aq_h m s F c) (aq_Z m s F (fun a => a = y + 1 ∨ a = y + 11) c (fun r d => r = none ∧ (∀ i, 0 ≤ i → i < 2 * n → d (y + 1) (8 * (mo_f n + b) + i) = prt n b i) ∧ ∀ j, (j < 8 * (mo_f n + b) ∨ 8 * (mo_f n + b) + 8 ≤ j) → d (y + 1) j = c (y + 1) j)) := by
  obtain ⟨hm, hFo, hG5, hG6, hG7, hG8, hG9, hG10, hG11, hG12, hG13, hG14, hG15, hG16, hG17, hG18, hG19, hG20, hG21, hG22, hG23⟩ := hO
  have hfs := mo_fs n
  refine am_E.go (t2 := (1, [vR y, vI n, vI b, vU, vU, vU, vU, vU, vU], [vI 0], aq_h m s F c)) rfl rfl ?_
  refine am_E.go (t2 := (2, [vR y, vI n, vI b, vI 0, vU, vU, vU, vU, vU], [], aq_h m s F c)) rfl rfl ?_
  exact qm_dec_z ⟨hm, hFo, hG5, hG6, hG7, hG8, hG9, hG10, hG11, hG12, hG13, hG14, hG15, hG16, hG17, hG18, hG19, hG20, hG21, hG22, hG23⟩ hG1 hn1 hn4 hb0 hb1 10 0 (vU) (vU) (vU) (vU) (vU) c (aq_sm0 (c := c) (S := (fun a => a = y + 1 ∨ a = y + 11))) (by omega) (by omega) (fun i h1 h2 => absurd h2 (by omega)) (fun _ => rfl) (by omega)
/-! The reference's findWords: what holds on the way. -/
/-- how many of the first k are told -/
def fw_n (g : Int → Int) : Nat → Int
  | 0 => 0
  | k + 1 => fw_n g k + (if g (k : Int) = -4 then 0 else 1)
theorem fw_le {g : Int → Int} : ∀ k : Nat, fw_n g k ≤ (k : Int)
  | 0 => by simp [fw_n]
  | k + 1 => by
    have := fw_le (g := g) k
    rw [fw_n]
    split <;> omega
theorem fw_ne {g g2 : Int → Int} {b : Int} (hb : g b = -4) (hb2 : g2 b ≠ -4) (hg : ∀ i, i ≠ b → g2 i = g i) : ∀ k : Nat, fw_n g2 k = fw_n g k + (if 0 ≤ b ∧ b < (k : Int) then 1 else 0)
  | 0 => by
    rw [fw_n, fw_n, if_neg (by omega)]
    rfl
  | k + 1 => by
    rw [fw_n, fw_n, fw_ne hb hb2 hg k]
    by_cases e : (k : Int) = b
    · rw [e, if_neg hb2, if_pos hb, if_neg (by omega), if_pos (by omega)]
    · rw [hg (k : Int) e]
      by_cases e2 : 0 ≤ b ∧ b < (k : Int)
      · rw [if_pos e2, if_pos (show 0 ≤ b ∧ b < ((k + 1 : Nat) : Int) by omega)]
        omega
      · rw [if_neg e2, if_neg (show ¬ (0 ≤ b ∧ b < ((k + 1 : Nat) : Int)) by omega)]
        omega
theorem fw_z {g : Int → Int} : ∀ k : Nat, (∀ i, 0 ≤ i → i < (k : Int) → g i = -4) → fw_n g k = 0
  | 0, _ => rfl
  | k + 1, h => by
    rw [fw_n, fw_z k (fun i h0 h1 => h i h0 (by omega)), if_pos (h k (by omega) (by omega))]
    rfl
def fw_ (y : Nat) (f K many : Int) (c0 c : aq_C) : Prop := (∀ b, 0 ≤ b → b < K → c (y + 4) (f + b) = -4 ∨ (-3 ≤ c (y + 4) (f + b) ∧ c (y + 4) (f + b) < many)) ∧ (∀ b, 0 ≤ b → b < K → 0 ≤ c (y + 3) (f + b) ∧ c (y + 3) (f + b) < K) ∧ (∀ i, 0 ≤ i → i < many → 0 ≤ c (y + 14) i ∧ c (y + 14) i < K) ∧ fw_n (fun b => c (y + 4) (f + b)) K.toNat = many ∧ ∀ j, (j < f ∨ f + K ≤ j) → c (y + 3) j = c0 (y + 3) j ∧ c (y + 4) j = c0 (y + 4) j
theorem fw_s {S : Nat → Prop} {y : Nat} {f K many : Int} {c0 c d : aq_C} (h : fw_ y f K many c0 c) (hs : aq_sm S c d) (h3 : ¬ S (y + 3)) (h4 : ¬ S (y + 4)) (h14 : ¬ S (y + 14)) : fw_ y f K many c0 d := by
  unfold fw_ at *
  have e3 := hs _ h3
  have e4 := hs _ h4
  have e14 := hs _ h14
  simp only [e3, e4, e14]
  exact h
theorem fw_a {y : Nat} {f K many x bb x2 l : Int} {c0 c c1 c2 c3 c4 : aq_C} (h : fw_ y f K many c0 c) (hx0 : 0 ≤ x) (hx1 : x < K) (hm : c (y + 4) (f + x) = -4) (hb0 : 0 ≤ bb) (hb1 : bb < K) (hx2 : -3 ≤ x2) (hx3 : x2 ≤ many) (hd1 : aq_u c (y + 4) (f + x) x2 = c1) (hd2 : aq_u c1 (y + 2) (f + x) l = c2) (hd3 : aq_u c2 (y + 3) (f + x) bb = c3) (hd4 : aq_u c3 (y + 14) many x = c4) : fw_ y f K (many + 1) c0 c4 := by
  obtain ⟨w1, w2, w3, w4, w5⟩ := h
  subst hd1
  subst hd2
  subst hd3
  subst hd4
  have e4 : ∀ j, aq_u (aq_u (aq_u (aq_u c (y + 4) (f + x) x2) (y + 2) (f + x) l) (y + 3) (f + x) bb) (y + 14) many x (y + 4) j = if j = f + x then x2 else c (y + 4) j := fun j => by
    rw [aq_un (Or.inl (by omega)), aq_un (Or.inl (by omega)), aq_un (Or.inl (by omega))]
    unfold aq_u
    by_cases e : j = f + x
    · rw [if_pos ⟨rfl, e⟩, if_pos e]
    · rw [if_neg (fun q => e q.2), if_neg e]
  have e3 : ∀ j, aq_u (aq_u (aq_u (aq_u c (y + 4) (f + x) x2) (y + 2) (f + x) l) (y + 3) (f + x) bb) (y + 14) many x (y + 3) j = if j = f + x then bb else c (y + 3) j := fun j => by
    rw [aq_un (Or.inl (by omega))]
    by_cases e : j = f + x
    · rw [e, aq_us, if_pos rfl]
    · rw [aq_un (Or.inr e), aq_un (Or.inl (by omega)), aq_un (Or.inl (by omega)), if_neg e]
  have e14 : ∀ j, aq_u (aq_u (aq_u (aq_u c (y + 4) (f + x) x2) (y + 2) (f + x) l) (y + 3) (f + x) bb) (y + 14) many x (y + 14) j = if j = many then x else c (y + 14) j := fun j => by
    by_cases e : j = many
    · rw [e, aq_us, if_pos rfl]
    · rw [aq_un (Or.inr e), aq_un (Or.inl (by omega)), aq_un (Or.inl (by omega)), aq_un (Or.inl (by omega)), if_neg e]
  refine ⟨fun b k0 k1 => ?_, fun b k0 k1 => ?_, fun i k0 k1 => ?_, ?_, fun j k0 => ?_⟩
  · rw [e4]
    by_cases e : f + b = f + x
    · rw [if_pos e]
      exact Or.inr ⟨hx2, by omega⟩
    · rw [if_neg e]
      rcases w1 b k0 k1 with q | q
      · exact Or.inl q
      · exact Or.inr ⟨q.1, by omega⟩
  · rw [e3]
    split
    · exact ⟨hb0, hb1⟩
    · exact w2 b k0 k1
  · rw [e14]
    split
    · exact ⟨hx0, hx1⟩
    · exact w3 i k0 (by omega)
  · simp only [e4]
    rw [fw_ne (g := fun b => c (y + 4) (f + b)) (b := x) hm (by rw [if_pos rfl]; omega) (fun i hi => by rw [if_neg (by omega)]) K.toNat, w4, if_pos (by omega)]
  · rw [e3, e4, if_neg (by omega), if_neg (by omega)]
    exact w5 j k0
theorem fw_lt {y : Nat} {f K many x : Int} {c0 c : aq_C} (h : fw_ y f K many c0 c) (hx0 : 0 ≤ x) (hx1 : x < K) (hm : c (y + 4) (f + x) = -4) : many < K := by
  have h1 := fw_ne (g := fun b => c (y + 4) (f + b)) (g2 := fun b => if b = x then 0 else c (y + 4) (f + b)) (b := x) hm (by rw [if_pos rfl]; omega) (fun i hi => by rw [if_neg hi]) K.toNat
  have h2 := fw_le (g := fun b => if b = x then 0 else c (y + 4) (f + b)) K.toNat
  rw [h.2.2.2.1, if_pos (by omega)] at h1
  omega
/-! The reference: findWords. Printed by wip/p20/sx/gFW.py. -/

theorem qm_fw_l {m s : Nat} {F : aq_F} {c0 : aq_C} {y : Nat} (hO : mo_0 m F y) {tbl : Int → Int} (hT : mo_T F y tbl) (hG2 : F (y + 2) = (0, 124, fun _ => .inl 0)) (hG3 : F (y + 3) = (0, 124, fun _ => .inl 0)) (hG4 : F (y + 4) = (0, 124, fun _ => .inl 0)) {n fr : Int} (hn1 : 1 ≤ n) (hn4 : n ≤ 4) (hfr : fr = mo_f n) : ∀ (d : Nat) (v3 : Int) (mn : Int) (k : Int) (bb : Int) (l : Int) (v8 : am_V) (v9 : am_V) (c : aq_C) (hs : aq_sm (fun a => a = y ∨ a = y + 2 ∨ a = y + 3 ∨ a = y + 4 ∨ a = y + 12 ∨ a = y + 13 ∨ a = y + 14) c0 c) (h0 : 1 ≤ l) (h1 : l ≤ 10 + n) (h2 : 0 ≤ bb) (h3 : bb < bx_K n) (h4 : 0 ≤ k) (h5 : k < mn) (h6 : mn ≤ bx_K n) (h7 : c (y + 4) (fr + bb) ≠ -4 ∨ True) (hob : mo_k y c0 c) (hfw : fw_ y fr (bx_K n) mn c0 c) (hd : 10 + n - l < (d : Int)) (K0 : ∀ (mn2 : Int) (l2 : Int) (v82 : am_V) (v92 : am_V) (c2 : aq_C) (hs2 : aq_sm (fun a => a = y ∨ a = y + 2 ∨ a = y + 3 ∨ a = y + 4 ∨ a = y + 12 ∨ a = y + 13 ∨ a = y + 14) c0 c2) (f1 : k < mn2) (f2 : mn2 ≤ bx_K n) (hob2 : mo_k y c0 c2) (hfw2 : fw_ y fr (bx_K n) mn2 c0 c2), am_E ac_X5_findWords (198, [vR y, vI n, vI fr, vI v3, vI mn2, vI k, vI bb, vI l2, v82, v92], [], aq_h m s F c2) (aq_Z m s F (fun a => a = y ∨ a = y + 2 ∨ a = y + 3 ∨ a = y + 4 ∨ a = y + 12 ∨ a = y + 13 ∨ a = y + 14) c0 (fun r d => r = none ∧ mo_k y c0 d ∧ (∀ b, 0 ≤ b → b < bx_K n → -4 ≤ d (y + 4) (mo_f n + b) ∧ d (y + 4) (mo_f n + b) ≤ 105 ∧ 0 ≤ d (y + 3) (mo_f n + b) ∧ d (y + 3) (mo_f n + b) < bx_K n) ∧ ∀ j, (j < mo_f n ∨ mo_f n + bx_K n ≤ j) → d (y + 3) j = c0 (y + 3) j ∧ d (y + 4) j = c0 (y + 4) j))), am_E ac_X5_findWords (79, [vR y, vI n, vI fr, vI v3, vI mn, vI k, vI bb, vI l, v8, v9], [], aq_h m s F c) (aq_Z m s F (fun a => a = y ∨ a = y + 2 ∨ a = y + 3 ∨ a = y + 4 ∨ a = y + 12 ∨ a = y + 13 ∨ a = y + 14) c0 (fun r d => r = none ∧ mo_k y c0 d ∧ (∀ b, 0 ≤ b → b < bx_K n → -4 ≤ d (y + 4) (mo_f n + b) ∧ d (y + 4) (mo_f n + b) ≤ 105 ∧ 0 ≤ d (y + 3) (mo_f n + b) ∧ d (y + 3) (mo_f n + b) < bx_K n) ∧ ∀ j, (j < mo_f n ∨ mo_f n + bx_K n ≤ j) → d (y + 3) j = c0 (y + 3) j ∧ d (y + 4) j = c0 (y + 4) j))
  | 0, v3, mn, k, bb, l, v8, v9, c, hs, h0, h1, h2, h3, h4, h5, h6, h7, hob, hfw, hd, K0 => by exfalso; omega
  | d + 1, v3, mn, k, bb, l, v8, v9, c, hs, h0, h1, h2, h3, h4, h5, h6, h7, hob, hfw, hd, K0 => by
    obtain ⟨hm, hFo, hG5, hG6, hG7, hG8, hG9, hG10, hG11, hG12, hG13, hG14, hG15, hG16, hG17, hG18, hG19, hG20, hG21, hG22, hG23⟩ := hO
    obtain ⟨hT1, hTt⟩ := hT
    have hfs := mo_fs n
    refine am_E.go (t2 := (81, [vR y, vI n, vI fr, vI v3, vI mn, vI k, vI bb, vI l, v8, v9], [vI l], aq_h m s F c)) rfl rfl ?_
    refine am_E.go (t2 := (83, [vR y, vI n, vI fr, vI v3, vI mn, vI k, vI bb, vI l, v8, v9], [vI 10, vI l], aq_h m s F c)) rfl rfl ?_
    refine am_E.go (t2 := (84, [vR y, vI n, vI fr, vI v3, vI mn, vI k, vI bb, vI l, v8, v9], [vI n, vI 10, vI l], aq_h m s F c)) rfl rfl ?_
    refine ae_add rfl (am_ri (by omega) (by omega)) ?_
    show am_E _ (85, [vR y, vI n, vI fr, vI v3, vI mn, vI k, vI bb, vI l, v8, v9], [vI (10 + n), vI l], aq_h m s F c) _
    refine ae_icmp rfl (fun (q_1 : (10 + n) ≤ l) => ?_) (fun (q_1 : l < (10 + n)) => ?_)
    · exact K0 mn l (v8) (v9) c hs (by omega) (by omega) hob hfw
    · refine am_E.go (t2 := (89, [vR y, vI n, vI fr, vI v3, vI mn, vI k, vI bb, vI l, v8, v9], [vI n], aq_h m s F c)) rfl rfl ?_
      refine am_E.go (t2 := (91, [vR y, vI n, vI fr, vI v3, vI mn, vI k, vI bb, vI l, v8, v9], [vI l, vI n], aq_h m s F c)) rfl rfl ?_
      refine am_E.call rfl rfl rfl (Nat.le_of_ble_eq_true rfl) (qm_isLetter (by omega) (by omega)) ?_
      rintro r5 h5 ⟨rfl, v_2, rfl, hv_2⟩
      show am_E _ (94, [vR y, vI n, vI fr, vI v3, vI mn, vI k, vI bb, vI l, v8, v9], [vI v_2], aq_h m s F c) _
      refine ae_if0 rfl (fun (q_3 : v_2 = 0) => ?_) (fun (q_3 : v_2 ≠ 0) => ?_)
      · refine ae_iinc rfl rfl (am_ri (by omega) (by omega)) ?_
        show am_E _ (195, [vR y, vI n, vI fr, vI v3, vI mn, vI k, vI bb, vI (l + 1), v8, v9], [], aq_h m s F c) _
        refine am_E.go (t2 := (79, [vR y, vI n, vI fr, vI v3, vI mn, vI k, vI bb, vI (l + 1), v8, v9], [], aq_h m s F c)) rfl rfl ?_
        exact qm_fw_l ⟨hm, hFo, hG5, hG6, hG7, hG8, hG9, hG10, hG11, hG12, hG13, hG14, hG15, hG16, hG17, hG18, hG19, hG20, hG21, hG22, hG23⟩ ⟨hT1, hTt⟩ hG2 hG3 hG4 hn1 hn4 hfr d v3 mn k bb (l + 1) (v8) (v9) c hs (by omega) (by omega) (by omega) (by omega) (by omega) (by omega) (by omega) (Or.inr trivial) hob hfw (by omega) K0
      · refine am_E.go (t2 := (98, [vR y, vI n, vI fr, vI v3, vI mn, vI k, vI bb, vI l, v8, v9], [vR y], aq_h m s F c)) rfl rfl ?_
        refine am_E.go (t2 := (99, [vR y, vI n, vI fr, vI v3, vI mn, vI k, vI bb, vI l, v8, v9], [vI n, vR y], aq_h m s F c)) rfl rfl ?_
        refine am_E.go (t2 := (101, [vR y, vI n, vI fr, vI v3, vI mn, vI k, vI bb, vI l, v8, v9], [vI l, vI n, vR y], aq_h m s F c)) rfl rfl ?_
        refine aq_callv (y := 3) (as2 := [vI n, vI l]) (rest := []) rfl rfl (by decide) (Nat.le_of_ble_eq_true rfl) rfl rfl (Nat.le_of_ble_eq_true rfl) (by omega) hFo rfl (Nat.le_of_ble_eq_true rfl) (qm_plainBox (S := fun a => a = y + 12) ⟨hm, hFo, hG5, hG6, hG7, hG8, hG9, hG10, hG11, hG12, hG13, hG14, hG15, hG16, hG17, hG18, hG19, hG20, hG21, hG22, hG23⟩ rfl ⟨hT1, hTt⟩ (by omega) (by omega) (by omega)) ?_
        rintro r5 h5 ⟨c_4, rfl, sc_4, vc_4, rfl, hv1c_4, hv2c_4, _⟩
        show am_E _ (104, [vR y, vI n, vI fr, vI v3, vI mn, vI k, vI bb, vI l, v8, v9], [vI vc_4], aq_h m s F c_4) _
        refine am_E.go (t2 := (106, [vR y, vI n, vI fr, vI v3, vI mn, vI k, vI bb, vI l, vI vc_4, v9], [], aq_h m s F c_4)) rfl rfl ?_
        refine am_E.go (t2 := (107, [vR y, vI n, vI fr, vI v3, vI mn, vI k, vI bb, vI l, vI vc_4, v9], [vR y], aq_h m s F c_4)) rfl rfl ?_
        refine am_E.go (t2 := (108, [vR y, vI n, vI fr, vI v3, vI mn, vI k, vI bb, vI l, vI vc_4, v9], [vI n, vR y], aq_h m s F c_4)) rfl rfl ?_
        refine am_E.go (t2 := (110, [vR y, vI n, vI fr, vI v3, vI mn, vI k, vI bb, vI l, vI vc_4, v9], [vI bb, vI n, vR y], aq_h m s F c_4)) rfl rfl ?_
        refine am_E.go (t2 := (112, [vR y, vI n, vI fr, vI v3, vI mn, vI k, vI bb, vI l, vI vc_4, v9], [vI vc_4, vI bb, vI n, vR y], aq_h m s F c_4)) rfl rfl ?_
        refine aq_callv (y := 4) (as2 := [vI n, vI bb, vI vc_4]) (rest := []) rfl rfl (by decide) (Nat.le_of_ble_eq_true rfl) rfl rfl (Nat.le_of_ble_eq_true rfl) (by omega) hFo rfl (Nat.le_of_ble_eq_true rfl) (qm_stacked (S := fun a => a = y ∨ a = y + 12 ∨ a = y + 13) ⟨hm, hFo, hG5, hG6, hG7, hG8, hG9, hG10, hG11, hG12, hG13, hG14, hG15, hG16, hG17, hG18, hG19, hG20, hG21, hG22, hG23⟩ (Or.inl rfl) (Or.inr (Or.inl rfl)) (Or.inr (Or.inr rfl)) ⟨hT1, hTt⟩ (by omega) (by omega) (by omega) (by omega) (by omega) (by omega)) ?_
        rintro r5 h5 ⟨c_5, rfl, sc_5, vc_5, rfl, hv1c_5, hv2c_5, hr1c_5, hr2c_5, hkc_5, _⟩
        show am_E _ (115, [vR y, vI n, vI fr, vI v3, vI mn, vI k, vI bb, vI l, vI vc_4, v9], [vI vc_5], aq_h m s F c_5) _
        refine am_E.go (t2 := (117, [vR y, vI n, vI fr, vI v3, vI mn, vI k, vI bb, vI l, vI vc_4, vI vc_5], [], aq_h m s F c_5)) rfl rfl ?_
        refine am_E.go (t2 := (118, [vR y, vI n, vI fr, vI v3, vI mn, vI k, vI bb, vI l, vI vc_4, vI vc_5], [vR y], aq_h m s F c_5)) rfl rfl ?_
        refine aq_gf (v := vI (c_5 y 15)) rfl (by omega) hFo (by decide) rfl ?_
        show am_E _ (121, [vR y, vI n, vI fr, vI v3, vI mn, vI k, vI bb, vI l, vI vc_4, vI vc_5], [vI (c_5 y 15)], aq_h m s F c_5) _
        skip
        refine ae_if0 rfl (fun (q_7 : (c_5 y 15) ≠ 0) => ?_) (fun (q_7 : (c_5 y 15) = 0) => ?_)
        · refine ae_iinc rfl rfl (am_ri (by omega) (by omega)) ?_
          show am_E _ (195, [vR y, vI n, vI fr, vI v3, vI mn, vI k, vI bb, vI (l + 1), vI vc_4, vI vc_5], [], aq_h m s F c_5) _
          refine am_E.go (t2 := (79, [vR y, vI n, vI fr, vI v3, vI mn, vI k, vI bb, vI (l + 1), vI vc_4, vI vc_5], [], aq_h m s F c_5)) rfl rfl ?_
          exact qm_fw_l ⟨hm, hFo, hG5, hG6, hG7, hG8, hG9, hG10, hG11, hG12, hG13, hG14, hG15, hG16, hG17, hG18, hG19, hG20, hG21, hG22, hG23⟩ ⟨hT1, hTt⟩ hG2 hG3 hG4 hn1 hn4 hfr d v3 mn k bb (l + 1) (vI vc_4) (vI vc_5) c_5 (aq_smt (aq_smt hs (aq_smi sc_4 (fun a h => by omega))) (aq_smi sc_5 (fun a h => by omega))) (by omega) (by omega) (by omega) (by omega) (by omega) (by omega) (by omega) (Or.inr trivial) (mo_kt (mo_ks hob sc_4 (by omega)) hkc_5) (fw_s (fw_s hfw sc_4 (by omega) (by omega) (by omega)) sc_5 (by omega) (by omega) (by omega)) (by omega) K0
        · refine am_E.go (t2 := (125, [vR y, vI n, vI fr, vI v3, vI mn, vI k, vI bb, vI l, vI vc_4, vI vc_5], [vR y], aq_h m s F c_5)) rfl rfl ?_
          refine aq_gf (v := vR (y + 4)) rfl (by omega) hFo (by decide) rfl ?_
          show am_E _ (128, [vR y, vI n, vI fr, vI v3, vI mn, vI k, vI bb, vI l, vI vc_4, vI vc_5], [vR (y + 4)], aq_h m s F c_5) _
          refine am_E.go (t2 := (129, [vR y, vI n, vI fr, vI v3, vI mn, vI k, vI bb, vI l, vI vc_4, vI vc_5], [vI fr, vR (y + 4)], aq_h m s F c_5)) rfl rfl ?_
          refine am_E.go (t2 := (131, [vR y, vI n, vI fr, vI v3, vI mn, vI k, vI bb, vI l, vI vc_4, vI vc_5], [vI vc_5, vI fr, vR (y + 4)], aq_h m s F c_5)) rfl rfl ?_
          refine ae_add rfl (am_ri (by omega) (by omega)) ?_
          show am_E _ (132, [vR y, vI n, vI fr, vI v3, vI mn, vI k, vI bb, vI l, vI vc_4, vI vc_5], [vI (fr + vc_5), vR (y + 4)], aq_h m s F c_5) _
          refine aq_al (ok := fun k => k == 0) (v := vI (c_5 (y + 4) (fr + vc_5))) rfl rfl (by omega) hG4 rfl (by omega) (by omega) rfl ?_
          show am_E _ (133, [vR y, vI n, vI fr, vI v3, vI mn, vI k, vI bb, vI l, vI vc_4, vI vc_5], [vI (c_5 (y + 4) (fr + vc_5))], aq_h m s F c_5) _
          have f_8 := ((fw_s (fw_s hfw sc_4 (by omega) (by omega) (by omega)) sc_5 (by omega) (by omega) (by omega))).1 vc_5 (by omega) (by omega)
          refine am_E.go (t2 := (135, [vR y, vI n, vI fr, vI v3, vI mn, vI k, vI bb, vI l, vI vc_4, vI vc_5], [vI (-4), vI (c_5 (y + 4) (fr + vc_5))], aq_h m s F c_5)) rfl rfl ?_
          refine ae_icmp rfl (fun (q_9 : (c_5 (y + 4) (fr + vc_5)) ≠ (-4)) => ?_) (fun (q_9 : (c_5 (y + 4) (fr + vc_5)) = (-4)) => ?_)
          · refine ae_iinc rfl rfl (am_ri (by omega) (by omega)) ?_
            show am_E _ (195, [vR y, vI n, vI fr, vI v3, vI mn, vI k, vI bb, vI (l + 1), vI vc_4, vI vc_5], [], aq_h m s F c_5) _
            refine am_E.go (t2 := (79, [vR y, vI n, vI fr, vI v3, vI mn, vI k, vI bb, vI (l + 1), vI vc_4, vI vc_5], [], aq_h m s F c_5)) rfl rfl ?_
            exact qm_fw_l ⟨hm, hFo, hG5, hG6, hG7, hG8, hG9, hG10, hG11, hG12, hG13, hG14, hG15, hG16, hG17, hG18, hG19, hG20, hG21, hG22, hG23⟩ ⟨hT1, hTt⟩ hG2 hG3 hG4 hn1 hn4 hfr d v3 mn k bb (l + 1) (vI vc_4) (vI vc_5) c_5 (aq_smt (aq_smt hs (aq_smi sc_4 (fun a h => by omega))) (aq_smi sc_5 (fun a h => by omega))) (by omega) (by omega) (by omega) (by omega) (by omega) (by omega) (by omega) (Or.inr trivial) (mo_kt (mo_ks hob sc_4 (by omega)) hkc_5) (fw_s (fw_s hfw sc_4 (by omega) (by omega) (by omega)) sc_5 (by omega) (by omega) (by omega)) (by omega) K0
          · have hlt := fw_lt (fw_s (fw_s hfw sc_4 (by omega) (by omega) (by omega)) sc_5 (by omega) (by omega) (by omega)) (by omega) (by omega) q_9
            refine am_E.go (t2 := (139, [vR y, vI n, vI fr, vI v3, vI mn, vI k, vI bb, vI l, vI vc_4, vI vc_5], [vR y], aq_h m s F c_5)) rfl rfl ?_
            refine aq_gf (v := vR (y + 4)) rfl (by omega) hFo (by decide) rfl ?_
            show am_E _ (142, [vR y, vI n, vI fr, vI v3, vI mn, vI k, vI bb, vI l, vI vc_4, vI vc_5], [vR (y + 4)], aq_h m s F c_5) _
            refine am_E.go (t2 := (143, [vR y, vI n, vI fr, vI v3, vI mn, vI k, vI bb, vI l, vI vc_4, vI vc_5], [vI fr, vR (y + 4)], aq_h m s F c_5)) rfl rfl ?_
            refine am_E.go (t2 := (145, [vR y, vI n, vI fr, vI v3, vI mn, vI k, vI bb, vI l, vI vc_4, vI vc_5], [vI vc_5, vI fr, vR (y + 4)], aq_h m s F c_5)) rfl rfl ?_
            refine ae_add rfl (am_ri (by omega) (by omega)) ?_
            show am_E _ (146, [vR y, vI n, vI fr, vI v3, vI mn, vI k, vI bb, vI l, vI vc_4, vI vc_5], [vI (fr + vc_5), vR (y + 4)], aq_h m s F c_5) _
            refine am_E.go (t2 := (147, [vR y, vI n, vI fr, vI v3, vI mn, vI k, vI bb, vI l, vI vc_4, vI vc_5], [vR y, vI (fr + vc_5), vR (y + 4)], aq_h m s F c_5)) rfl rfl ?_
            refine aq_gf (v := vR (y + 4)) rfl (by omega) hFo (by decide) rfl ?_
            show am_E _ (150, [vR y, vI n, vI fr, vI v3, vI mn, vI k, vI bb, vI l, vI vc_4, vI vc_5], [vR (y + 4), vI (fr + vc_5), vR (y + 4)], aq_h m s F c_5) _
            refine am_E.go (t2 := (151, [vR y, vI n, vI fr, vI v3, vI mn, vI k, vI bb, vI l, vI vc_4, vI vc_5], [vI fr, vR (y + 4), vI (fr + vc_5), vR (y + 4)], aq_h m s F c_5)) rfl rfl ?_
            refine am_E.go (t2 := (153, [vR y, vI n, vI fr, vI v3, vI mn, vI k, vI bb, vI l, vI vc_4, vI vc_5], [vI bb, vI fr, vR (y + 4), vI (fr + vc_5), vR (y + 4)], aq_h m s F c_5)) rfl rfl ?_
            refine ae_add rfl (am_ri (by omega) (by omega)) ?_
            show am_E _ (154, [vR y, vI n, vI fr, vI v3, vI mn, vI k, vI bb, vI l, vI vc_4, vI vc_5], [vI (fr + bb), vR (y + 4), vI (fr + vc_5), vR (y + 4)], aq_h m s F c_5) _
            refine aq_al (ok := fun k => k == 0) (v := vI (c_5 (y + 4) (fr + bb))) rfl rfl (by omega) hG4 rfl (by omega) (by omega) rfl ?_
            show am_E _ (155, [vR y, vI n, vI fr, vI v3, vI mn, vI k, vI bb, vI l, vI vc_4, vI vc_5], [vI (c_5 (y + 4) (fr + bb)), vI (fr + vc_5), vR (y + 4)], aq_h m s F c_5) _
            have f_10 := ((fw_s (fw_s hfw sc_4 (by omega) (by omega) (by omega)) sc_5 (by omega) (by omega) (by omega))).1 bb (by omega) (by omega)
            refine am_E.go (t2 := (156, [vR y, vI n, vI fr, vI v3, vI mn, vI k, vI bb, vI l, vI vc_4, vI vc_5], [vI 1, vI (c_5 (y + 4) (fr + bb)), vI (fr + vc_5), vR (y + 4)], aq_h m s F c_5)) rfl rfl ?_
            refine ae_add rfl (am_ri (by omega) (by omega)) ?_
            show am_E _ (157, [vR y, vI n, vI fr, vI v3, vI mn, vI k, vI bb, vI l, vI vc_4, vI vc_5], [vI ((c_5 (y + 4) (fr + bb)) + 1), vI (fr + vc_5), vR (y + 4)], aq_h m s F c_5) _
            refine aq_as (kd := 0) rfl rfl (by omega) hG4 (by omega) (by omega) rfl rfl ?_
            show am_E _ (158, [vR y, vI n, vI fr, vI v3, vI mn, vI k, vI bb, vI l, vI vc_4, vI vc_5], [], aq_h m s F (aq_u c_5 (y + 4) (fr + vc_5) ((c_5 (y + 4) (fr + bb)) + 1))) _
            generalize hdc_11 : aq_u c_5 (y + 4) (fr + vc_5) ((c_5 (y + 4) (fr + bb)) + 1) = c_11
            have sc_11 := aq_smu (aq_smt (aq_smt hs (aq_smi sc_4 (fun a h => by omega))) (aq_smi sc_5 (fun a h => by omega))) hdc_11 (by omega)
            have hobc_11 := mo_ku (mo_kt (mo_ks hob sc_4 (by omega)) hkc_5) hdc_11 (Or.inl (by omega))
            refine am_E.go (t2 := (159, [vR y, vI n, vI fr, vI v3, vI mn, vI k, vI bb, vI l, vI vc_4, vI vc_5], [vR y], aq_h m s F c_11)) rfl rfl ?_
            refine aq_gf (v := vR (y + 2)) rfl (by omega) hFo (by decide) rfl ?_
            show am_E _ (162, [vR y, vI n, vI fr, vI v3, vI mn, vI k, vI bb, vI l, vI vc_4, vI vc_5], [vR (y + 2)], aq_h m s F c_11) _
            refine am_E.go (t2 := (163, [vR y, vI n, vI fr, vI v3, vI mn, vI k, vI bb, vI l, vI vc_4, vI vc_5], [vI fr, vR (y + 2)], aq_h m s F c_11)) rfl rfl ?_
            refine am_E.go (t2 := (165, [vR y, vI n, vI fr, vI v3, vI mn, vI k, vI bb, vI l, vI vc_4, vI vc_5], [vI vc_5, vI fr, vR (y + 2)], aq_h m s F c_11)) rfl rfl ?_
            refine ae_add rfl (am_ri (by omega) (by omega)) ?_
            show am_E _ (166, [vR y, vI n, vI fr, vI v3, vI mn, vI k, vI bb, vI l, vI vc_4, vI vc_5], [vI (fr + vc_5), vR (y + 2)], aq_h m s F c_11) _
            refine am_E.go (t2 := (168, [vR y, vI n, vI fr, vI v3, vI mn, vI k, vI bb, vI l, vI vc_4, vI vc_5], [vI l, vI (fr + vc_5), vR (y + 2)], aq_h m s F c_11)) rfl rfl ?_
            refine aq_as (kd := 0) rfl rfl (by omega) hG2 (by omega) (by omega) rfl rfl ?_
            show am_E _ (169, [vR y, vI n, vI fr, vI v3, vI mn, vI k, vI bb, vI l, vI vc_4, vI vc_5], [], aq_h m s F (aq_u c_11 (y + 2) (fr + vc_5) l)) _
            generalize hdc_12 : aq_u c_11 (y + 2) (fr + vc_5) l = c_12
            have sc_12 := aq_smu sc_11 hdc_12 (by omega)
            have hobc_12 := mo_ku hobc_11 hdc_12 (Or.inl (by omega))
            refine am_E.go (t2 := (170, [vR y, vI n, vI fr, vI v3, vI mn, vI k, vI bb, vI l, vI vc_4, vI vc_5], [vR y], aq_h m s F c_12)) rfl rfl ?_
            refine aq_gf (v := vR (y + 3)) rfl (by omega) hFo (by decide) rfl ?_
            show am_E _ (173, [vR y, vI n, vI fr, vI v3, vI mn, vI k, vI bb, vI l, vI vc_4, vI vc_5], [vR (y + 3)], aq_h m s F c_12) _
            refine am_E.go (t2 := (174, [vR y, vI n, vI fr, vI v3, vI mn, vI k, vI bb, vI l, vI vc_4, vI vc_5], [vI fr, vR (y + 3)], aq_h m s F c_12)) rfl rfl ?_
            refine am_E.go (t2 := (176, [vR y, vI n, vI fr, vI v3, vI mn, vI k, vI bb, vI l, vI vc_4, vI vc_5], [vI vc_5, vI fr, vR (y + 3)], aq_h m s F c_12)) rfl rfl ?_
            refine ae_add rfl (am_ri (by omega) (by omega)) ?_
            show am_E _ (177, [vR y, vI n, vI fr, vI v3, vI mn, vI k, vI bb, vI l, vI vc_4, vI vc_5], [vI (fr + vc_5), vR (y + 3)], aq_h m s F c_12) _
            refine am_E.go (t2 := (179, [vR y, vI n, vI fr, vI v3, vI mn, vI k, vI bb, vI l, vI vc_4, vI vc_5], [vI bb, vI (fr + vc_5), vR (y + 3)], aq_h m s F c_12)) rfl rfl ?_
            refine aq_as (kd := 0) rfl rfl (by omega) hG3 (by omega) (by omega) rfl rfl ?_
            show am_E _ (180, [vR y, vI n, vI fr, vI v3, vI mn, vI k, vI bb, vI l, vI vc_4, vI vc_5], [], aq_h m s F (aq_u c_12 (y + 3) (fr + vc_5) bb)) _
            generalize hdc_13 : aq_u c_12 (y + 3) (fr + vc_5) bb = c_13
            have sc_13 := aq_smu sc_12 hdc_13 (by omega)
            have hobc_13 := mo_ku hobc_12 hdc_13 (Or.inl (by omega))
            refine am_E.go (t2 := (181, [vR y, vI n, vI fr, vI v3, vI mn, vI k, vI bb, vI l, vI vc_4, vI vc_5], [vR y], aq_h m s F c_13)) rfl rfl ?_
            refine aq_gf (v := vR (y + 14)) rfl (by omega) hFo (by decide) rfl ?_
            show am_E _ (184, [vR y, vI n, vI fr, vI v3, vI mn, vI k, vI bb, vI l, vI vc_4, vI vc_5], [vR (y + 14)], aq_h m s F c_13) _
            refine am_E.go (t2 := (186, [vR y, vI n, vI fr, vI v3, vI mn, vI k, vI bb, vI l, vI vc_4, vI vc_5], [vI mn, vR (y + 14)], aq_h m s F c_13)) rfl rfl ?_
            refine am_E.go (t2 := (188, [vR y, vI n, vI fr, vI v3, vI mn, vI k, vI bb, vI l, vI vc_4, vI vc_5], [vI vc_5, vI mn, vR (y + 14)], aq_h m s F c_13)) rfl rfl ?_
            refine aq_as (kd := 0) rfl rfl (by omega) hG14 (by omega) (by omega) rfl rfl ?_
            show am_E _ (189, [vR y, vI n, vI fr, vI v3, vI mn, vI k, vI bb, vI l, vI vc_4, vI vc_5], [], aq_h m s F (aq_u c_13 (y + 14) mn vc_5)) _
            generalize hdc_14 : aq_u c_13 (y + 14) mn vc_5 = c_14
            have sc_14 := aq_smu sc_13 hdc_14 (by omega)
            have hobc_14 := mo_ku hobc_13 hdc_14 (Or.inl (by omega))
            have fwc_14 : fw_ y fr (bx_K n) (mn + 1) c0 c_14 := fw_a (fw_s (fw_s hfw sc_4 (by omega) (by omega) (by omega)) sc_5 (by omega) (by omega) (by omega)) (by omega) (by omega) (by assumption) (by omega) (by omega) (by omega) (by omega) hdc_11 hdc_12 hdc_13 hdc_14
            refine ae_iinc rfl rfl (am_ri (by omega) (by omega)) ?_
            show am_E _ (192, [vR y, vI n, vI fr, vI v3, vI (mn + 1), vI k, vI bb, vI l, vI vc_4, vI vc_5], [], aq_h m s F c_14) _
            refine ae_iinc rfl rfl (am_ri (by omega) (by omega)) ?_
            show am_E _ (195, [vR y, vI n, vI fr, vI v3, vI (mn + 1), vI k, vI bb, vI (l + 1), vI vc_4, vI vc_5], [], aq_h m s F c_14) _
            refine am_E.go (t2 := (79, [vR y, vI n, vI fr, vI v3, vI (mn + 1), vI k, vI bb, vI (l + 1), vI vc_4, vI vc_5], [], aq_h m s F c_14)) rfl rfl ?_
            exact qm_fw_l ⟨hm, hFo, hG5, hG6, hG7, hG8, hG9, hG10, hG11, hG12, hG13, hG14, hG15, hG16, hG17, hG18, hG19, hG20, hG21, hG22, hG23⟩ ⟨hT1, hTt⟩ hG2 hG3 hG4 hn1 hn4 hfr d v3 (mn + 1) k bb (l + 1) (vI vc_4) (vI vc_5) c_14 sc_14 (by omega) (by omega) (by omega) (by omega) (by omega) (by omega) (by omega) (Or.inr trivial) hobc_14 fwc_14 (by omega) K0

theorem qm_fw_k {m s : Nat} {F : aq_F} {c0 : aq_C} {y : Nat} (hO : mo_0 m F y) {tbl : Int → Int} (hT : mo_T F y tbl) (hG2 : F (y + 2) = (0, 124, fun _ => .inl 0)) (hG3 : F (y + 3) = (0, 124, fun _ => .inl 0)) (hG4 : F (y + 4) = (0, 124, fun _ => .inl 0)) {n fr : Int} (hn1 : 1 ≤ n) (hn4 : n ≤ 4) (hfr : fr = mo_f n) : ∀ (d : Nat) (v3 : Int) (mn : Int) (k : Int) (v6 : am_V) (v7 : am_V) (v8 : am_V) (v9 : am_V) (c : aq_C) (hs : aq_sm (fun a => a = y ∨ a = y + 2 ∨ a = y + 3 ∨ a = y + 4 ∨ a = y + 12 ∨ a = y + 13 ∨ a = y + 14) c0 c) (h0 : 0 ≤ k) (h1 : k ≤ mn) (h2 : mn ≤ bx_K n) (hob : mo_k y c0 c) (hfw : fw_ y fr (bx_K n) mn c0 c) (hd : bx_K n - k < (d : Int)), am_E ac_X5_findWords (60, [vR y, vI n, vI fr, vI v3, vI mn, vI k, v6, v7, v8, v9], [], aq_h m s F c) (aq_Z m s F (fun a => a = y ∨ a = y + 2 ∨ a = y + 3 ∨ a = y + 4 ∨ a = y + 12 ∨ a = y + 13 ∨ a = y + 14) c0 (fun r d => r = none ∧ mo_k y c0 d ∧ (∀ b, 0 ≤ b → b < bx_K n → -4 ≤ d (y + 4) (mo_f n + b) ∧ d (y + 4) (mo_f n + b) ≤ 105 ∧ 0 ≤ d (y + 3) (mo_f n + b) ∧ d (y + 3) (mo_f n + b) < bx_K n) ∧ ∀ j, (j < mo_f n ∨ mo_f n + bx_K n ≤ j) → d (y + 3) j = c0 (y + 3) j ∧ d (y + 4) j = c0 (y + 4) j))
  | 0, v3, mn, k, v6, v7, v8, v9, c, hs, h0, h1, h2, hob, hfw, hd => by exfalso; omega
  | d + 1, v3, mn, k, v6, v7, v8, v9, c, hs, h0, h1, h2, hob, hfw, hd => by
    obtain ⟨hm, hFo, hG5, hG6, hG7, hG8, hG9, hG10, hG11, hG12, hG13, hG14, hG15, hG16, hG17, hG18, hG19, hG20, hG21, hG22, hG23⟩ := hO
    obtain ⟨hT1, hTt⟩ := hT
    have hfs := mo_fs n
    refine am_E.go (t2 := (62, [vR y, vI n, vI fr, vI v3, vI mn, vI k, v6, v7, v8, v9], [vI k], aq_h m s F c)) rfl rfl ?_
    refine am_E.go (t2 := (64, [vR y, vI n, vI fr, vI v3, vI mn, vI k, v6, v7, v8, v9], [vI mn, vI k], aq_h m s F c)) rfl rfl ?_
    refine ae_icmp rfl (fun (q_1 : mn ≤ k) => ?_) (fun (q_1 : k < mn) => ?_)
    · refine am_E.ret rfl rfl ?_
      obtain ⟨w1, w2, w3, w4, w5⟩ := hfw
      rw [hfr] at w1 w2 w5
      refine ⟨_, rfl, hs, rfl, hob, fun b k0 k1 => ?_, w5⟩
      have q1 := w1 b k0 k1
      have q2 := w2 b k0 k1
      exact ⟨by omega, by omega, q2.1, q2.2⟩
    · refine am_E.go (t2 := (68, [vR y, vI n, vI fr, vI v3, vI mn, vI k, v6, v7, v8, v9], [vR y], aq_h m s F c)) rfl rfl ?_
      refine aq_gf (v := vR (y + 14)) rfl (by omega) hFo (by decide) rfl ?_
      show am_E _ (71, [vR y, vI n, vI fr, vI v3, vI mn, vI k, v6, v7, v8, v9], [vR (y + 14)], aq_h m s F c) _
      refine am_E.go (t2 := (73, [vR y, vI n, vI fr, vI v3, vI mn, vI k, v6, v7, v8, v9], [vI k, vR (y + 14)], aq_h m s F c)) rfl rfl ?_
      refine aq_al (ok := fun k => k == 0) (v := vI (c (y + 14) k)) rfl rfl (by omega) hG14 rfl (by omega) (by omega) rfl ?_
      show am_E _ (74, [vR y, vI n, vI fr, vI v3, vI mn, vI k, v6, v7, v8, v9], [vI (c (y + 14) k)], aq_h m s F c) _
      have f_2 := (hfw).2.2.1 k (by omega) (by omega)
      refine am_E.go (t2 := (76, [vR y, vI n, vI fr, vI v3, vI mn, vI k, vI (c (y + 14) k), v7, v8, v9], [], aq_h m s F c)) rfl rfl ?_
      refine am_E.go (t2 := (77, [vR y, vI n, vI fr, vI v3, vI mn, vI k, vI (c (y + 14) k), v7, v8, v9], [vI 1], aq_h m s F c)) rfl rfl ?_
      refine am_E.go (t2 := (79, [vR y, vI n, vI fr, vI v3, vI mn, vI k, vI (c (y + 14) k), vI 1, v8, v9], [], aq_h m s F c)) rfl rfl ?_
      refine qm_fw_l ⟨hm, hFo, hG5, hG6, hG7, hG8, hG9, hG10, hG11, hG12, hG13, hG14, hG15, hG16, hG17, hG18, hG19, hG20, hG21, hG22, hG23⟩ ⟨hT1, hTt⟩ hG2 hG3 hG4 hn1 hn4 hfr 15 v3 mn k (c (y + 14) k) 1 (v8) (v9) c hs (by omega) (by omega) (by omega) (by omega) (by omega) (by omega) (by omega) (Or.inr trivial) hob hfw (by omega) ?_
      · intro mn2_79 l2_79 v82_79 v92_79 c_3 sc_3 f1_79 f2_79 hob2_79 hfw2_79
        refine ae_iinc rfl rfl (am_ri (by omega) (by omega)) ?_
        show am_E _ (201, [vR y, vI n, vI fr, vI v3, vI mn2_79, vI (k + 1), vI (c (y + 14) k), vI l2_79, v82_79, v92_79], [], aq_h m s F c_3) _
        refine am_E.go (t2 := (60, [vR y, vI n, vI fr, vI v3, vI mn2_79, vI (k + 1), vI (c (y + 14) k), vI l2_79, v82_79, v92_79], [], aq_h m s F c_3)) rfl rfl ?_
        exact qm_fw_k ⟨hm, hFo, hG5, hG6, hG7, hG8, hG9, hG10, hG11, hG12, hG13, hG14, hG15, hG16, hG17, hG18, hG19, hG20, hG21, hG22, hG23⟩ ⟨hT1, hTt⟩ hG2 hG3 hG4 hn1 hn4 hfr d v3 mn2_79 (k + 1) (vI (c (y + 14) k)) (vI l2_79) (v82_79) (v92_79) c_3 sc_3 (by omega) (by omega) (by omega) hob2_79 hfw2_79 (by omega)

theorem qm_fw_z {m s : Nat} {F : aq_F} {c0 : aq_C} {y : Nat} (hO : mo_0 m F y) {tbl : Int → Int} (hT : mo_T F y tbl) (hG2 : F (y + 2) = (0, 124, fun _ => .inl 0)) (hG3 : F (y + 3) = (0, 124, fun _ => .inl 0)) (hG4 : F (y + 4) = (0, 124, fun _ => .inl 0)) {n fr : Int} (hn1 : 1 ≤ n) (hn4 : n ≤ 4) (hfr : fr = mo_f n) (hA0 : ∀ b, 0 ≤ b → b < bx_K n → 0 ≤ c0 (y + 3) (fr + b) ∧ c0 (y + 3) (fr + b) < bx_K n) : ∀ (d : Nat) (b : Int) (v4 : am_V) (v5 : am_V) (v6 : am_V) (v7 : am_V) (v8 : am_V) (v9 : am_V) (c : aq_C) (hs : aq_sm (fun a => a = y ∨ a = y + 2 ∨ a = y + 3 ∨ a = y + 4 ∨ a = y + 12 ∨ a = y + 13 ∨ a = y + 14) c0 c) (h0 : 0 ≤ b) (h1 : b ≤ bx_K n) (hz : ∀ i, 0 ≤ i → i < b → c (y + 4) (fr + i) = -4) (h3 : ∀ j, c (y + 3) j = c0 (y + 3) j) (h4 : ∀ j, (j < fr ∨ fr + bx_K n ≤ j) → c (y + 4) j = c0 (y + 4) j) (hob : mo_k y c0 c) (hd : bx_K n - b < (d : Int)), am_E ac_X5_findWords (7, [vR y, vI n, vI fr, vI b, v4, v5, v6, v7, v8, v9], [], aq_h m s F c) (aq_Z m s F (fun a => a = y ∨ a = y + 2 ∨ a = y + 3 ∨ a = y + 4 ∨ a = y + 12 ∨ a = y + 13 ∨ a = y + 14) c0 (fun r d => r = none ∧ mo_k y c0 d ∧ (∀ b, 0 ≤ b → b < bx_K n → -4 ≤ d (y + 4) (mo_f n + b) ∧ d (y + 4) (mo_f n + b) ≤ 105 ∧ 0 ≤ d (y + 3) (mo_f n + b) ∧ d (y + 3) (mo_f n + b) < bx_K n) ∧ ∀ j, (j < mo_f n ∨ mo_f n + bx_K n ≤ j) → d (y + 3) j = c0 (y + 3) j ∧ d (y + 4) j = c0 (y + 4) j))
  | 0, b, v4, v5, v6, v7, v8, v9, c, hs, h0, h1, hz, h3, h4, hob, hd => by exfalso; omega
  | d + 1, b, v4, v5, v6, v7, v8, v9, c, hs, h0, h1, hz, h3, h4, hob, hd => by
    obtain ⟨hm, hFo, hG5, hG6, hG7, hG8, hG9, hG10, hG11, hG12, hG13, hG14, hG15, hG16, hG17, hG18, hG19, hG20, hG21, hG22, hG23⟩ := hO
    obtain ⟨hT1, hTt⟩ := hT
    have hfs := mo_fs n
    refine am_E.go (t2 := (8, [vR y, vI n, vI fr, vI b, v4, v5, v6, v7, v8, v9], [vI b], aq_h m s F c)) rfl rfl ?_
    refine am_E.go (t2 := (9, [vR y, vI n, vI fr, vI b, v4, v5, v6, v7, v8, v9], [vI n, vI b], aq_h m s F c)) rfl rfl ?_
    refine am_E.call rfl rfl rfl (Nat.le_of_ble_eq_true rfl) (qm_boxes) ?_
    rintro r5 h5 ⟨rfl, v_1, rfl, hv_1⟩
    show am_E _ (12, [vR y, vI n, vI fr, vI b, v4, v5, v6, v7, v8, v9], [vI v_1, vI b], aq_h m s F c) _
    refine ae_icmp rfl (fun (q_2 : v_1 ≤ b) => ?_) (fun (q_2 : b < v_1) => ?_)
    · refine am_E.go (t2 := (32, [vR y, vI n, vI fr, vI b, v4, v5, v6, v7, v8, v9], [vR y], aq_h m s F c)) rfl rfl ?_
      refine am_E.go (t2 := (33, [vR y, vI n, vI fr, vI b, v4, v5, v6, v7, v8, v9], [vI n, vR y], aq_h m s F c)) rfl rfl ?_
      refine am_E.go (t2 := (34, [vR y, vI n, vI fr, vI b, v4, v5, v6, v7, v8, v9], [vI 0, vI n, vR y], aq_h m s F c)) rfl rfl ?_
      refine aq_callv (y := 3) (as2 := [vI n, vI 0]) (rest := []) rfl rfl (by decide) (Nat.le_of_ble_eq_true rfl) rfl rfl (Nat.le_of_ble_eq_true rfl) (by omega) hFo rfl (Nat.le_of_ble_eq_true rfl) (qm_plainBox (S := fun a => a = y + 12) ⟨hm, hFo, hG5, hG6, hG7, hG8, hG9, hG10, hG11, hG12, hG13, hG14, hG15, hG16, hG17, hG18, hG19, hG20, hG21, hG22, hG23⟩ rfl ⟨hT1, hTt⟩ (by omega) (by omega) (by omega)) ?_
      rintro r5 h5 ⟨c_3, rfl, sc_3, vc_3, rfl, hv1c_3, hv2c_3, _⟩
      show am_E _ (37, [vR y, vI n, vI fr, vI b, v4, v5, v6, v7, v8, v9], [vI vc_3], aq_h m s F c_3) _
      refine am_E.go (t2 := (38, [vR y, vI n, vI fr, vI vc_3, v4, v5, v6, v7, v8, v9], [], aq_h m s F c_3)) rfl rfl ?_
      refine am_E.go (t2 := (39, [vR y, vI n, vI fr, vI vc_3, v4, v5, v6, v7, v8, v9], [vR y], aq_h m s F c_3)) rfl rfl ?_
      refine aq_gf (v := vR (y + 4)) rfl (by omega) hFo (by decide) rfl ?_
      show am_E _ (42, [vR y, vI n, vI fr, vI vc_3, v4, v5, v6, v7, v8, v9], [vR (y + 4)], aq_h m s F c_3) _
      refine am_E.go (t2 := (43, [vR y, vI n, vI fr, vI vc_3, v4, v5, v6, v7, v8, v9], [vI fr, vR (y + 4)], aq_h m s F c_3)) rfl rfl ?_
      refine am_E.go (t2 := (44, [vR y, vI n, vI fr, vI vc_3, v4, v5, v6, v7, v8, v9], [vI vc_3, vI fr, vR (y + 4)], aq_h m s F c_3)) rfl rfl ?_
      refine ae_add rfl (am_ri (by omega) (by omega)) ?_
      show am_E _ (45, [vR y, vI n, vI fr, vI vc_3, v4, v5, v6, v7, v8, v9], [vI (fr + vc_3), vR (y + 4)], aq_h m s F c_3) _
      refine am_E.go (t2 := (46, [vR y, vI n, vI fr, vI vc_3, v4, v5, v6, v7, v8, v9], [vI 0, vI (fr + vc_3), vR (y + 4)], aq_h m s F c_3)) rfl rfl ?_
      refine aq_as (kd := 0) rfl rfl (by omega) hG4 (by omega) (by omega) rfl rfl ?_
      show am_E _ (47, [vR y, vI n, vI fr, vI vc_3, v4, v5, v6, v7, v8, v9], [], aq_h m s F (aq_u c_3 (y + 4) (fr + vc_3) 0)) _
      generalize hdc_4 : aq_u c_3 (y + 4) (fr + vc_3) 0 = c_4
      have sc_4 := aq_smu (aq_smt hs (aq_smi sc_3 (fun a h => by omega))) hdc_4 (by omega)
      have hobc_4 := mo_ku (mo_ks hob sc_3 (by omega)) hdc_4 (Or.inl (by omega))
      refine am_E.go (t2 := (48, [vR y, vI n, vI fr, vI vc_3, v4, v5, v6, v7, v8, v9], [vR y], aq_h m s F c_4)) rfl rfl ?_
      refine aq_gf (v := vR (y + 14)) rfl (by omega) hFo (by decide) rfl ?_
      show am_E _ (51, [vR y, vI n, vI fr, vI vc_3, v4, v5, v6, v7, v8, v9], [vR (y + 14)], aq_h m s F c_4) _
      refine am_E.go (t2 := (52, [vR y, vI n, vI fr, vI vc_3, v4, v5, v6, v7, v8, v9], [vI 0, vR (y + 14)], aq_h m s F c_4)) rfl rfl ?_
      refine am_E.go (t2 := (53, [vR y, vI n, vI fr, vI vc_3, v4, v5, v6, v7, v8, v9], [vI vc_3, vI 0, vR (y + 14)], aq_h m s F c_4)) rfl rfl ?_
      refine aq_as (kd := 0) rfl rfl (by omega) hG14 (by omega) (by omega) rfl rfl ?_
      show am_E _ (54, [vR y, vI n, vI fr, vI vc_3, v4, v5, v6, v7, v8, v9], [], aq_h m s F (aq_u c_4 (y + 14) 0 vc_3)) _
      generalize hdc_5 : aq_u c_4 (y + 14) 0 vc_3 = c_5
      have sc_5 := aq_smu sc_4 hdc_5 (by omega)
      have hobc_5 := mo_ku hobc_4 hdc_5 (Or.inl (by omega))
      refine am_E.go (t2 := (55, [vR y, vI n, vI fr, vI vc_3, v4, v5, v6, v7, v8, v9], [vI 1], aq_h m s F c_5)) rfl rfl ?_
      refine am_E.go (t2 := (57, [vR y, vI n, vI fr, vI vc_3, vI 1, v5, v6, v7, v8, v9], [], aq_h m s F c_5)) rfl rfl ?_
      refine am_E.go (t2 := (58, [vR y, vI n, vI fr, vI vc_3, vI 1, v5, v6, v7, v8, v9], [vI 0], aq_h m s F c_5)) rfl rfl ?_
      refine am_E.go (t2 := (60, [vR y, vI n, vI fr, vI vc_3, vI 1, vI 0, v6, v7, v8, v9], [], aq_h m s F c_5)) rfl rfl ?_
      have e4 : ∀ j, c_5 (y + 4) j = if j = fr + vc_3 then 0 else c (y + 4) j := fun j => by
        rw [← hdc_5, aq_un (Or.inl (by omega)), ← hdc_4]
        by_cases e : j = fr + vc_3
        · rw [e, aq_us, if_pos rfl]
        · rw [aq_un (Or.inr e), if_neg e, sc_3 _ (by omega)]
      have e3 : ∀ j, c_5 (y + 3) j = c0 (y + 3) j := fun j => by rw [← hdc_5, aq_un (Or.inl (by omega)), ← hdc_4, aq_un (Or.inl (by omega)), sc_3 _ (by omega)]; exact h3 j
      have fw1 : fw_ y fr (bx_K n) 1 c0 c_5 := by
        refine ⟨fun b5 k0 k1 => ?_, fun b5 k0 k1 => by rw [e3]; exact hA0 b5 k0 k1, fun i k0 k1 => ?_, ?_, fun j k0 => ⟨e3 j, by rw [e4, if_neg (by omega)]; exact h4 j k0⟩⟩
        · rw [e4]
          split
          · exact Or.inr ⟨by omega, by omega⟩
          · exact Or.inl (hz b5 k0 (by omega))
        · have e5 : i = 0 := by omega
          rw [e5, ← hdc_5, aq_us]
          exact ⟨by omega, by omega⟩
        · simp only [e4]
          rw [fw_ne (g := fun b => c (y + 4) (fr + b)) (b := vc_3) (hz _ (by omega) (by omega)) (by rw [if_pos rfl]; omega) (fun i hi => by rw [if_neg (by omega)]) (bx_K n).toNat, fw_z _ (fun i k0 k1 => hz i k0 (by omega)), if_pos (by omega)]
          rfl
      exact qm_fw_k ⟨hm, hFo, hG5, hG6, hG7, hG8, hG9, hG10, hG11, hG12, hG13, hG14, hG15, hG16, hG17, hG18, hG19, hG20, hG21, hG22, hG23⟩ ⟨hT1, hTt⟩ hG2 hG3 hG4 hn1 hn4 hfr 106 vc_3 1 0 (v6) (v7) (v8) (v9) c_5 sc_5 (by omega) (by omega) (by omega) hobc_5 fw1 (by omega)
    · refine am_E.go (t2 := (16, [vR y, vI n, vI fr, vI b, v4, v5, v6, v7, v8, v9], [vR y], aq_h m s F c)) rfl rfl ?_
      refine aq_gf (v := vR (y + 4)) rfl (by omega) hFo (by decide) rfl ?_
      show am_E _ (19, [vR y, vI n, vI fr, vI b, v4, v5, v6, v7, v8, v9], [vR (y + 4)], aq_h m s F c) _
      refine am_E.go (t2 := (20, [vR y, vI n, vI fr, vI b, v4, v5, v6, v7, v8, v9], [vI fr, vR (y + 4)], aq_h m s F c)) rfl rfl ?_
      refine am_E.go (t2 := (21, [vR y, vI n, vI fr, vI b, v4, v5, v6, v7, v8, v9], [vI b, vI fr, vR (y + 4)], aq_h m s F c)) rfl rfl ?_
      refine ae_add rfl (am_ri (by omega) (by omega)) ?_
      show am_E _ (22, [vR y, vI n, vI fr, vI b, v4, v5, v6, v7, v8, v9], [vI (fr + b), vR (y + 4)], aq_h m s F c) _
      refine am_E.go (t2 := (24, [vR y, vI n, vI fr, vI b, v4, v5, v6, v7, v8, v9], [vI (-4), vI (fr + b), vR (y + 4)], aq_h m s F c)) rfl rfl ?_
      refine aq_as (kd := 0) rfl rfl (by omega) hG4 (by omega) (by omega) rfl rfl ?_
      show am_E _ (25, [vR y, vI n, vI fr, vI b, v4, v5, v6, v7, v8, v9], [], aq_h m s F (aq_u c (y + 4) (fr + b) (-4))) _
      generalize hdc_6 : aq_u c (y + 4) (fr + b) (-4) = c_6
      have sc_6 := aq_smu hs hdc_6 (by omega)
      have hobc_6 := mo_ku hob hdc_6 (Or.inl (by omega))
      refine ae_iinc rfl rfl (am_ri (by omega) (by omega)) ?_
      show am_E _ (28, [vR y, vI n, vI fr, vI (b + 1), v4, v5, v6, v7, v8, v9], [], aq_h m s F c_6) _
      refine am_E.go (t2 := (7, [vR y, vI n, vI fr, vI (b + 1), v4, v5, v6, v7, v8, v9], [], aq_h m s F c_6)) rfl rfl ?_
      exact qm_fw_z ⟨hm, hFo, hG5, hG6, hG7, hG8, hG9, hG10, hG11, hG12, hG13, hG14, hG15, hG16, hG17, hG18, hG19, hG20, hG21, hG22, hG23⟩ ⟨hT1, hTt⟩ hG2 hG3 hG4 hn1 hn4 hfr hA0 d (b + 1) (v4) (v5) (v6) (v7) (v8) (v9) c_6 sc_6 (by omega) (by omega) (fun i h5 h6 => by rw [← hdc_6]; by_cases e : i = b; (rw [e, aq_us]); rw [aq_un (Or.inr (by omega))]; exact hz i h5 (by omega)) (fun j => by rw [← hdc_6, aq_un (Or.inl (by omega))]; exact h3 j) (fun j h5 => by rw [← hdc_6, aq_un (Or.inr (by omega))]; exact h4 j h5) hobc_6 (by omega)

theorem qm_findWords {m s : Nat} {F : aq_F} {c : aq_C} {y : Nat} (hO : mo_0 m F y) {tbl : Int → Int} (hT : mo_T F y tbl) (hG2 : F (y + 2) = (0, 124, fun _ => .inl 0)) (hG3 : F (y + 3) = (0, 124, fun _ => .inl 0)) (hG4 : F (y + 4) = (0, 124, fun _ => .inl 0)) {n : Int} (hn1 : 1 ≤ n) (hn4 : n ≤ 4) (hA0 : ∀ b, 0 ≤ b → b < bx_K n → 0 ≤ c (y + 3) (mo_f n + b) ∧ c (y + 3) (mo_f n + b) < bx_K n) : am_E ac_X5_findWords (0, [vR y, vI n, vU, vU, vU, vU, vU, vU, vU, vU], [], aq_h m s F c) (aq_Z m s F (fun a => a = y ∨ a = y + 2 ∨ a = y + 3 ∨ a = y + 4 ∨ a = y + 12 ∨ a = y + 13 ∨ a = y + 14) c (fun r d => r = none ∧ mo_k y c d ∧ (∀ b, 0 ≤ b → b < bx_K n → -4 ≤ d (y + 4) (mo_f n + b) ∧ d (y + 4) (mo_f n + b) ≤ 105 ∧ 0 ≤ d (y + 3) (mo_f n + b) ∧ d (y + 3) (mo_f n + b) < bx_K n) ∧ ∀ j, (j < mo_f n ∨ mo_f n + bx_K n ≤ j) → d (y + 3) j = c (y + 3) j ∧ d (y + 4) j = c (y + 4) j)) := by
  obtain ⟨hm, hFo, hG5, hG6, hG7, hG8, hG9, hG10, hG11, hG12, hG13, hG14, hG15, hG16, hG17, hG18, hG19, hG20, hG21, hG22, hG23⟩ := hO
  obtain ⟨hT1, hTt⟩ := hT
  have hfs := mo_fs n
  refine am_E.go (t2 := (1, [vR y, vI n, vU, vU, vU, vU, vU, vU, vU, vU], [vI n], aq_h m s F c)) rfl rfl ?_
  refine am_E.call rfl rfl rfl (Nat.le_of_ble_eq_true rfl) (qm_first) ?_
  rintro r5 h5 ⟨rfl, fr, rfl, hfr⟩
  show am_E _ (4, [vR y, vI n, vU, vU, vU, vU, vU, vU, vU, vU], [vI fr], aq_h m s F c) _
  refine am_E.go (t2 := (5, [vR y, vI n, vI fr, vU, vU, vU, vU, vU, vU, vU], [], aq_h m s F c)) rfl rfl ?_
  refine am_E.go (t2 := (6, [vR y, vI n, vI fr, vU, vU, vU, vU, vU, vU, vU], [vI 0], aq_h m s F c)) rfl rfl ?_
  refine am_E.go (t2 := (7, [vR y, vI n, vI fr, vI 0, vU, vU, vU, vU, vU, vU], [], aq_h m s F c)) rfl rfl ?_
  exact qm_fw_z ⟨hm, hFo, hG5, hG6, hG7, hG8, hG9, hG10, hG11, hG12, hG13, hG14, hG15, hG16, hG17, hG18, hG19, hG20, hG21, hG22, hG23⟩ ⟨hT1, hTt⟩ hG2 hG3 hG4 hn1 hn4 hfr (by rw [hfr]; exact hA0) 107 0 (vU) (vU) (vU) (vU) (vU) (vU) c (aq_sm0 (c := c) (S := (fun a => a = y ∨ a = y + 2 ∨ a = y + 3 ∨ a = y + 4 ∨ a = y + 12 ∨ a = y + 13 ∨ a = y + 14))) (by omega) (by omega) (fun i h5 h6 => absurd h6 (by omega)) (fun _ => rfl) (fun _ _ => rfl) (mo_k0 (y := y) (c := c)) (by omega)
/-! New arrays and references put into fields, in heaps of a shape. -/
theorem aq_mk {m s kd n : Nat} {F : aq_F} {c : aq_C} (hkd : kd ≤ 2) : am_mk (aq_h m s F c) kd n (fun _ => am_dv kd) = aq_h (m + 1) (s + n) (am_up F m (kd, n, fun _ => .inl (if kd = 2 then 2 else 0))) (fun a i => if a = m then 0 else c a i) := by
  unfold am_mk
  show (m + 1, s + n, am_up (aq_h m s F c).2.2 m (kd, n, fun _ => am_dv kd)) = (m + 1, s + n, (aq_h (m + 1) (s + n) (am_up F m (kd, n, fun _ => .inl (if kd = 2 then 2 else 0))) (fun a i => if a = m then 0 else c a i)).2.2)
  refine congrArg (fun f => (m + 1, s + n, f)) ?_
  funext a
  by_cases e : a = m
  · subst e
    rw [am_up_s, aq_hc (am_up_s)]
    refine congrArg (fun f => (kd, n, f)) ?_
    funext i
    rw [if_pos rfl]
    have h : kd = 0 ∨ kd = 1 ∨ kd = 2 := by omega
    rcases h with h | h | h <;> subst h <;> rfl
  · rw [am_up_n e]
    show ((F a).1, (F a).2.1, fun i => aq_w ((F a).2.2 i) (c a (i : Int))) = ((am_up F m _ a).1, (am_up F m _ a).2.1, fun i => aq_w ((am_up F m _ a).2.2 i) (if a = m then 0 else c a (i : Int)))
    rw [am_up_n e]
    simp only [if_neg e]
theorem aq_wp {m s o k n a : Nat} {F : aq_F} {c : aq_C} {kd : Nat} {tg : Nat → aq_T} (hF : F o = (kd, n, tg)) : am_wr (aq_h m s F c) o k (vR a) = aq_h m s (am_up F o (kd, n, am_up tg k (.inr (vR a)))) c := by
  unfold am_wr
  show (m, s, am_up (aq_h m s F c).2.2 o _) = (m, s, (aq_h m s (am_up F o (kd, n, am_up tg k (.inr (vR a)))) c).2.2)
  refine congrArg (fun f => (m, s, f)) ?_
  funext b
  by_cases e : b = o
  · subst e
    rw [am_up_s, aq_hc hF, aq_hc am_up_s]
    refine congrArg (fun f => (kd, n, f)) ?_
    funext i
    by_cases ei : i = k
    · rw [ei, am_up_s, am_up_s]
      rfl
    · rw [am_up_n ei, am_up_n ei]
  · rw [am_up_n e]
    show ((F b).1, (F b).2.1, fun i => aq_w ((F b).2.2 i) (c b (i : Int))) = ((am_up F o _ b).1, (am_up F o _ b).2.1, fun i => aq_w ((am_up F o _ b).2.2 i) (c b (i : Int)))
    rw [am_up_n e]
section AE
variable {C : am_C} {pc : Nat} {ls st : List am_V} {Z : Option am_V → am_H → Prop} {m s : Nat} {F : aq_F} {c : aq_C}
/-- a new array of numbers, put into a field of the object at o -/
theorem aq_step {ty : Jvm.ClassFile.ArrayType} {kd y1 i x fl o n N : Nat} {v : Int} {tg : Nat → aq_T} (hr1 : am_row C pc = some (.newarray ty, 2, kd, y1)) (hr2 : am_row C (pc + 2) = some (.putfield i, 3, x, fl)) (hF : F o = (10 + x, N, tg)) (ho : o < m) (hkd : kd ≤ 2) (hv : v = (n : Int)) (hn : n ≤ 1024) (hft : ac_ft x fl = 3) (hfl : fl < N) (k : ∀ (F2 : aq_F) (c2 : aq_C), F2 o = (10 + x, N, am_up tg fl (.inr (vR m))) → F2 m = (kd, n, fun _ => .inl (if kd = 2 then 2 else 0)) → (∀ a, a ≠ o → a ≠ m → F2 a = F a) → (∀ j, c2 m j = 0) → (∀ a, a ≠ m → ∀ j, c2 a j = c a j) → am_E C (pc + 5, ls, st, aq_h (m + 1) (s + n) F2 c2) Z) : am_E C (pc, ls, vI v :: vR o :: st, aq_h m s F c) Z := by
  refine ae_newa (h := aq_h m s F c) (lo := 0) (top := 2) (n := n) hr1 rfl hv hn ⟨by omega, hkd⟩ ?_
  rw [aq_mk hkd]
  have e1 : am_up F m (kd, n, fun _ => Sum.inl (if kd = 2 then 2 else 0)) o = (10 + x, N, tg) := by
    rw [am_up_n (by omega)]
    exact hF
  refine ae_pf (h := aq_h (m + 1) (s + n) _ _) (x := x) (y := fl) hr2 (show o < m + 1 by omega) (aq_hc e1) hfl (by rw [hft]; rfl) ?_
  show am_E C (pc + 2 + 3, ls, st, am_wr (aq_h (m + 1) (s + n) _ _) o fl (vR m)) Z
  rw [aq_wp e1]
  refine k _ _ am_up_s ?_ (fun a h1 h2 => ?_) (fun j => if_pos rfl) (fun a h1 j => if_neg h1)
  · rw [am_up_n (by omega), am_up_s]
  · rw [am_up_n h1, am_up_n h2]
end AE
/-! The reference's constructor: its parts. -/
theorem aq_frz {m s a n : Nat} {F : aq_F} {c : aq_C} (hF : F a = (0, n, fun _ => .inl 0)) : aq_h m s F c = aq_h m s (am_up F a (0, n, fun j => .inr (vI (c a (j : Int))))) c := by
  show (m, s, (aq_h m s F c).2.2) = (m, s, (aq_h m s (am_up F a (0, n, fun j => .inr (vI (c a (j : Int))))) c).2.2)
  refine congrArg (fun f => (m, s, f)) ?_
  funext b
  by_cases e : b = a
  · subst e
    rw [aq_hc hF, aq_hc am_up_s]
    rfl
  · show ((F b).1, (F b).2.1, fun i => aq_w ((F b).2.2 i) (c b (i : Int))) = ((am_up F a _ b).1, (am_up F a _ b).2.1, fun i => aq_w ((am_up F a _ b).2.2 i) (c b (i : Int)))
    rw [am_up_n e]
theorem mo_0f {m y a : Nat} {F : aq_F} {q : Nat × Nat × (Nat → aq_T)} (h : mo_0 m F y) (h1 : y + 1 ≤ a) (h4 : a ≤ y + 4) : mo_0 m (am_up F a q) y := by
  unfold mo_0 at *
  repeat rw [am_up_n (by omega)]
  exact h
theorem mo_fm {a b : Int} (h1 : 1 ≤ a) (h : a < b) (h4 : b ≤ 4) : mo_f a + bx_K a ≤ mo_f b := by
  have ha : a = 1 ∨ a = 2 ∨ a = 3 := by omega
  have hb : b = 2 ∨ b = 3 ∨ b = 4 := by omega
  rcases ha with ha | ha | ha <;> rcases hb with hb | hb | hb <;> subst ha <;> subst hb <;> first | decide | omega
/-- the row's strands, the crossings, the sums as a new object has them -/
def mo_b (y : Nat) (c : aq_C) : Prop := c y 9 = 2 ∧ c y 10 = 0 ∧ (∀ s, 0 ≤ s → s < 8 → c (y + 5) s = 2) ∧ ∀ s, c (y + 6) s = 0
theorem mo_bI {y : Nat} {c : aq_C} (h : mo_b y c) : mo_I y c := by
  obtain ⟨h1, h2, h3, h4⟩ := h
  refine ⟨⟨by omega, by omega, by omega, by omega, fun i h5 h6 => absurd h6 (by omega)⟩, fun s s0 s1 => ?_⟩
  have e3 := h3 s s0 s1
  have e4 := h4 s
  exact ⟨by omega, by omega, by omega, by omega, fun k k0 k1 => absurd k1 (by omega)⟩
theorem mo_bs {S : Nat → Prop} {y : Nat} {c d : aq_C} (h : mo_b y c) (hs : aq_sm S c d) (hk : mo_k y c d) (h5 : ¬ S (y + 5)) (h6 : ¬ S (y + 6)) : mo_b y d :=
  ⟨by rw [hk.1]; exact h.1, by rw [hk.2.1]; exact h.2.1, fun s s0 s1 => by rw [hs _ h5]; exact h.2.2.1 s s0 s1, fun s => by rw [hs _ h6]; exact h.2.2.2 s⟩
def mo_Z (y sT : Nat) (F0 : aq_F) (c0 : aq_C) : Option am_V → am_H → Prop := fun r h2 => ∃ F2 c2, r = none ∧ h2 = aq_h (y + 24) sT F2 c2 ∧ mo_C (y + 24) F2 y ∧ (mo_I y c2 ∧ mo_b y c2) ∧ ∀ a, a < y → F2 a = F0 a ∧ ∀ i, c2 a i = c0 a i
/-! Halves: methods of its constructor. Printed by wip/p20/sx/gHC.py. -/

/-- an object of Halves while it is made: size, left and partners are contents still -/
def hc_t (o n : Nat) : Nat → aq_T := fun y => match y with
  | 0 => .inr (vI (n : Int))
  | 1 => .inr (vR (o + 9))
  | 2 => .inr (vR (o + 1))
  | 3 => .inr (vR (o + 2))
  | 4 => .inr (vR (o + 16))
  | 5 => .inr (vR (o + 17))
  | _ => .inl 0
def hc_0 (m : Nat) (F : aq_F) (o n : Nat) : Prop := o + 18 ≤ m ∧ 1 ≤ n ∧ n ≤ 4 ∧ F o = (12, 7, hc_t o n) ∧ F (o + 1) = (0, 6, fun _ => .inl 0) ∧ F (o + 2) = (3, 6, fun j => aq_g 6 j (o + 3 + j)) ∧ (∀ j, j < 6 → F (o + 3 + j) = (0, 6, fun _ => .inl 0)) ∧ F (o + 9) = (3, 6, fun j => aq_g 6 j (o + 10 + j)) ∧ (∀ h, h < 6 → F (o + 10 + h) = (0, n, fun _ => .inl 0)) ∧ F (o + 16) = (0, n, fun _ => .inl 0) ∧ F (o + 17) = (1, n, fun _ => .inl 0)
/-- draft and partners lie in range, size too -/
def hc_I (o n : Nat) (c : aq_C) : Prop := aq_rg (o + 16) (n : Int) 0 ((n : Int) + 1) c ∧ (∀ h, h < 6 → aq_rg (o + 10 + h) (n : Int) 0 ((n : Int) + 1) c) ∧ 0 ≤ c o 6 ∧ c o 6 ≤ 6
theorem hc_u {o n a : Nat} {i x : Int} {c d : aq_C} (h : hc_I o n c) (he : aq_u c a i x = d) (h0 : 0 ≤ x) (h1 : x < (n : Int) + 1) (ha : a ≠ o) : hc_I o n d := by
  obtain ⟨k1, k2, k3, k4⟩ := h
  refine ⟨?_, fun h hh => ?_, ?_, ?_⟩
  · by_cases e : o + 16 = a
    · subst e
      exact aq_rgu k1 he h0 h1
    · exact aq_rgn k1 he e
  · by_cases e : o + 10 + h = a
    · subst e
      exact aq_rgu (k2 h hh) he h0 h1
    · exact aq_rgn (k2 h hh) he e
  · rw [← he, aq_un (Or.inl (Ne.symm ha))]; exact k3
  · rw [← he, aq_un (Or.inl (Ne.symm ha))]; exact k4
theorem hc_l {o n : Nat} {i x : Int} {c d : aq_C} (h : hc_I o n c) (he : aq_u c (o + 1) i x = d) : hc_I o n d := by
  obtain ⟨k1, k2, k3, k4⟩ := h
  refine ⟨aq_rgn k1 he (by omega), fun h hh => aq_rgn (k2 h hh) he (by omega), ?_, ?_⟩
  · rw [← he, aq_un (Or.inl (by omega))]; exact k3
  · rw [← he, aq_un (Or.inl (by omega))]; exact k4

theorem qc_keeps_l {m s : Nat} {F : aq_F} {c : aq_C} {o n : Nat} (hH : hc_0 m F o n) (hc : hc_I o n c) {p q : Int} (hp : 0 ≤ p) (hq : q ≤ (n : Int)) : ∀ (d : Nat) (r : Int) (h0 : 0 ≤ r) (hd : max 0 (q - r) < (d : Int)), am_E ac_X2_keepsWithin (4, [vR (o + 16), vI p, vI q, vI r], [], aq_h m s F c) (aq_P m s F c aq_vb)
  | 0, r, h0, hd => by exfalso; omega
  | d + 1, r, h0, hd => by
    obtain ⟨hm, hn1, hn4, hFo, hFl, hFg, hFt, hFp, hFq, hFd, hFs⟩ := hH
    refine am_E.go (t2 := (5, [vR (o + 16), vI p, vI q, vI r], [vI r], aq_h m s F c)) rfl rfl ?_
    refine am_E.go (t2 := (6, [vR (o + 16), vI p, vI q, vI r], [vI q, vI r], aq_h m s F c)) rfl rfl ?_
    refine ae_icmp rfl (fun (q_1 : q ≤ r) => ?_) (fun (q_1 : r < q) => ?_)
    · refine am_E.go (t2 := (32, [vR (o + 16), vI p, vI q, vI r], [vI 1], aq_h m s F c)) rfl rfl ?_
      refine am_E.ret rfl rfl ?_
      exact ⟨rfl, _, rfl, by omega⟩
    · refine am_E.go (t2 := (10, [vR (o + 16), vI p, vI q, vI r], [vR (o + 16)], aq_h m s F c)) rfl rfl ?_
      refine am_E.go (t2 := (11, [vR (o + 16), vI p, vI q, vI r], [vI r, vR (o + 16)], aq_h m s F c)) rfl rfl ?_
      refine aq_al (ok := fun k => k == 0) (v := vI (c (o + 16) r)) rfl rfl (by omega) hFd rfl (by omega) (by omega) rfl ?_
      show am_E _ (12, [vR (o + 16), vI p, vI q, vI r], [vI (c (o + 16) r)], aq_h m s F c) _
      have f_2 := (hc).1 r (by omega) (by omega)
      refine am_E.go (t2 := (13, [vR (o + 16), vI p, vI q, vI r], [vI p, vI (c (o + 16) r)], aq_h m s F c)) rfl rfl ?_
      refine ae_icmp rfl (fun (q_3 : (c (o + 16) r) ≤ p) => ?_) (fun (q_3 : p < (c (o + 16) r)) => ?_)
      · refine am_E.go (t2 := (24, [vR (o + 16), vI p, vI q, vI r], [vI 0], aq_h m s F c)) rfl rfl ?_
        refine am_E.ret rfl rfl ?_
        exact ⟨rfl, _, rfl, by omega⟩
      · refine am_E.go (t2 := (17, [vR (o + 16), vI p, vI q, vI r], [vR (o + 16)], aq_h m s F c)) rfl rfl ?_
        refine am_E.go (t2 := (18, [vR (o + 16), vI p, vI q, vI r], [vI r, vR (o + 16)], aq_h m s F c)) rfl rfl ?_
        refine aq_al (ok := fun k => k == 0) (v := vI (c (o + 16) r)) rfl rfl (by omega) hFd rfl (by omega) (by omega) rfl ?_
        show am_E _ (19, [vR (o + 16), vI p, vI q, vI r], [vI (c (o + 16) r)], aq_h m s F c) _
        have f_4 := (hc).1 r (by omega) (by omega)
        refine am_E.go (t2 := (20, [vR (o + 16), vI p, vI q, vI r], [vI q, vI (c (o + 16) r)], aq_h m s F c)) rfl rfl ?_
        refine ae_icmp rfl (fun (q_5 : (c (o + 16) r) < q) => ?_) (fun (q_5 : q ≤ (c (o + 16) r)) => ?_)
        · refine ae_iinc rfl rfl (am_ri (by omega) (by omega)) ?_
          show am_E _ (28, [vR (o + 16), vI p, vI q, vI (r + 1)], [], aq_h m s F c) _
          refine am_E.go (t2 := (4, [vR (o + 16), vI p, vI q, vI (r + 1)], [], aq_h m s F c)) rfl rfl ?_
          exact qc_keeps_l ⟨hm, hn1, hn4, hFo, hFl, hFg, hFt, hFp, hFq, hFd, hFs⟩ hc hp hq d (r + 1) (by omega) (by omega)
        · refine am_E.go (t2 := (24, [vR (o + 16), vI p, vI q, vI r], [vI 0], aq_h m s F c)) rfl rfl ?_
          refine am_E.ret rfl rfl ?_
          exact ⟨rfl, _, rfl, by omega⟩

theorem qc_keepsWithin {m s : Nat} {F : aq_F} {c : aq_C} {o n : Nat} (hH : hc_0 m F o n) (hc : hc_I o n c) {p q : Int} (hp : 0 ≤ p) (hp2 : p < (n : Int)) (hq : q ≤ (n : Int)) : am_E ac_X2_keepsWithin (0, [vR (o + 16), vI p, vI q, vU], [], aq_h m s F c) (aq_P m s F c aq_vb) := by
  obtain ⟨hm, hn1, hn4, hFo, hFl, hFg, hFt, hFp, hFq, hFd, hFs⟩ := hH
  refine am_E.go (t2 := (1, [vR (o + 16), vI p, vI q, vU], [vI p], aq_h m s F c)) rfl rfl ?_
  refine am_E.go (t2 := (2, [vR (o + 16), vI p, vI q, vU], [vI 1, vI p], aq_h m s F c)) rfl rfl ?_
  refine ae_add rfl (am_ri (by omega) (by omega)) ?_
  show am_E _ (3, [vR (o + 16), vI p, vI q, vU], [vI (p + 1)], aq_h m s F c) _
  refine am_E.go (t2 := (4, [vR (o + 16), vI p, vI q, vI (p + 1)], [], aq_h m s F c)) rfl rfl ?_
  exact qc_keeps_l ⟨hm, hn1, hn4, hFo, hFl, hFg, hFt, hFp, hFq, hFd, hFs⟩ hc hp hq 6 (p + 1) (by omega) (by omega)

theorem qc_isHalf_l {m s : Nat} {F : aq_F} {c : aq_C} {o n : Nat} (hH : hc_0 m F o n) (hc : hc_I o n c) : ∀ (d : Nat) (p : Int) (v3 : am_V) (h0 : 0 ≤ p) (h1 : p ≤ (n : Int)) (hd : (n : Int) - p < (d : Int)), am_E ac_X2_isHalf (2, [vR o, vR (o + 16), vI p, v3], [], aq_h m s F c) (aq_P m s F c aq_vb)
  | 0, p, v3, h0, h1, hd => by exfalso; omega
  | d + 1, p, v3, h0, h1, hd => by
    obtain ⟨hm, hn1, hn4, hFo, hFl, hFg, hFt, hFp, hFq, hFd, hFs⟩ := hH
    refine am_E.go (t2 := (3, [vR o, vR (o + 16), vI p, v3], [vI p], aq_h m s F c)) rfl rfl ?_
    refine am_E.go (t2 := (4, [vR o, vR (o + 16), vI p, v3], [vR o, vI p], aq_h m s F c)) rfl rfl ?_
    refine aq_gf (v := vI (n : Int)) rfl (by omega) hFo (by decide) rfl ?_
    show am_E _ (7, [vR o, vR (o + 16), vI p, v3], [vI (n : Int), vI p], aq_h m s F c) _
    refine ae_icmp rfl (fun (q_1 : (n : Int) ≤ p) => ?_) (fun (q_1 : p < (n : Int)) => ?_)
    · refine am_E.go (t2 := (62, [vR o, vR (o + 16), vI p, v3], [vI 1], aq_h m s F c)) rfl rfl ?_
      refine am_E.ret rfl rfl ?_
      exact ⟨rfl, _, rfl, by omega⟩
    · refine am_E.go (t2 := (11, [vR o, vR (o + 16), vI p, v3], [vR (o + 16)], aq_h m s F c)) rfl rfl ?_
      refine am_E.go (t2 := (12, [vR o, vR (o + 16), vI p, v3], [vI p, vR (o + 16)], aq_h m s F c)) rfl rfl ?_
      refine aq_al (ok := fun k => k == 0) (v := vI (c (o + 16) p)) rfl rfl (by omega) hFd rfl (by omega) (by omega) rfl ?_
      show am_E _ (13, [vR o, vR (o + 16), vI p, v3], [vI (c (o + 16) p)], aq_h m s F c) _
      have f_2 := (hc).1 p (by omega) (by omega)
      refine am_E.go (t2 := (14, [vR o, vR (o + 16), vI p, vI (c (o + 16) p)], [], aq_h m s F c)) rfl rfl ?_
      refine am_E.go (t2 := (15, [vR o, vR (o + 16), vI p, vI (c (o + 16) p)], [vI (c (o + 16) p)], aq_h m s F c)) rfl rfl ?_
      refine am_E.go (t2 := (16, [vR o, vR (o + 16), vI p, vI (c (o + 16) p)], [vR o, vI (c (o + 16) p)], aq_h m s F c)) rfl rfl ?_
      refine aq_gf (v := vI (n : Int)) rfl (by omega) hFo (by decide) rfl ?_
      show am_E _ (19, [vR o, vR (o + 16), vI p, vI (c (o + 16) p)], [vI (n : Int), vI (c (o + 16) p)], aq_h m s F c) _
      refine ae_icmp rfl (fun (q_3 : (n : Int) ≤ (c (o + 16) p)) => ?_) (fun (q_3 : (c (o + 16) p) < (n : Int)) => ?_)
      · refine am_E.go (t2 := (37, [vR o, vR (o + 16), vI p, vI (c (o + 16) p)], [vI (c (o + 16) p)], aq_h m s F c)) rfl rfl ?_
        refine am_E.go (t2 := (38, [vR o, vR (o + 16), vI p, vI (c (o + 16) p)], [vR o, vI (c (o + 16) p)], aq_h m s F c)) rfl rfl ?_
        refine aq_gf (v := vI (n : Int)) rfl (by omega) hFo (by decide) rfl ?_
        show am_E _ (41, [vR o, vR (o + 16), vI p, vI (c (o + 16) p)], [vI (n : Int), vI (c (o + 16) p)], aq_h m s F c) _
        refine ae_icmp rfl (fun (q_4 : (n : Int) ≤ (c (o + 16) p)) => ?_) (fun (q_4 : (c (o + 16) p) < (n : Int)) => ?_)
        · refine ae_iinc rfl rfl (am_ri (by omega) (by omega)) ?_
          show am_E _ (58, [vR o, vR (o + 16), vI (p + 1), vI (c (o + 16) p)], [], aq_h m s F c) _
          refine am_E.go (t2 := (2, [vR o, vR (o + 16), vI (p + 1), vI (c (o + 16) p)], [], aq_h m s F c)) rfl rfl ?_
          exact qc_isHalf_l ⟨hm, hn1, hn4, hFo, hFl, hFg, hFt, hFp, hFq, hFd, hFs⟩ hc d (p + 1) (vI (c (o + 16) p)) (by omega) (by omega) (by omega)
        · refine am_E.go (t2 := (45, [vR o, vR (o + 16), vI p, vI (c (o + 16) p)], [vR (o + 16)], aq_h m s F c)) rfl rfl ?_
          refine am_E.go (t2 := (46, [vR o, vR (o + 16), vI p, vI (c (o + 16) p)], [vI p, vR (o + 16)], aq_h m s F c)) rfl rfl ?_
          refine am_E.go (t2 := (47, [vR o, vR (o + 16), vI p, vI (c (o + 16) p)], [vI (c (o + 16) p), vI p, vR (o + 16)], aq_h m s F c)) rfl rfl ?_
          refine am_E.call rfl rfl rfl (Nat.le_of_ble_eq_true rfl) (qc_keepsWithin ⟨hm, hn1, hn4, hFo, hFl, hFg, hFt, hFp, hFq, hFd, hFs⟩ hc (by omega) (by omega) (by omega)) ?_
          rintro r5 h5 ⟨rfl, v_5, rfl, hv_5⟩
          show am_E _ (50, [vR o, vR (o + 16), vI p, vI (c (o + 16) p)], [vI v_5], aq_h m s F c) _
          refine ae_if0 rfl (fun (q_6 : v_5 ≠ 0) => ?_) (fun (q_6 : v_5 = 0) => ?_)
          · refine ae_iinc rfl rfl (am_ri (by omega) (by omega)) ?_
            show am_E _ (58, [vR o, vR (o + 16), vI (p + 1), vI (c (o + 16) p)], [], aq_h m s F c) _
            refine am_E.go (t2 := (2, [vR o, vR (o + 16), vI (p + 1), vI (c (o + 16) p)], [], aq_h m s F c)) rfl rfl ?_
            exact qc_isHalf_l ⟨hm, hn1, hn4, hFo, hFl, hFg, hFt, hFp, hFq, hFd, hFs⟩ hc d (p + 1) (vI (c (o + 16) p)) (by omega) (by omega) (by omega)
          · refine am_E.go (t2 := (54, [vR o, vR (o + 16), vI p, vI (c (o + 16) p)], [vI 0], aq_h m s F c)) rfl rfl ?_
            refine am_E.ret rfl rfl ?_
            exact ⟨rfl, _, rfl, by omega⟩
      · refine am_E.go (t2 := (23, [vR o, vR (o + 16), vI p, vI (c (o + 16) p)], [vI (c (o + 16) p)], aq_h m s F c)) rfl rfl ?_
        refine am_E.go (t2 := (24, [vR o, vR (o + 16), vI p, vI (c (o + 16) p)], [vI p, vI (c (o + 16) p)], aq_h m s F c)) rfl rfl ?_
        refine ae_icmp rfl (fun (q_7 : (c (o + 16) p) = p) => ?_) (fun (q_7 : (c (o + 16) p) ≠ p) => ?_)
        · refine am_E.go (t2 := (35, [vR o, vR (o + 16), vI p, vI (c (o + 16) p)], [vI 0], aq_h m s F c)) rfl rfl ?_
          refine am_E.ret rfl rfl ?_
          exact ⟨rfl, _, rfl, by omega⟩
        · refine am_E.go (t2 := (28, [vR o, vR (o + 16), vI p, vI (c (o + 16) p)], [vR (o + 16)], aq_h m s F c)) rfl rfl ?_
          refine am_E.go (t2 := (29, [vR o, vR (o + 16), vI p, vI (c (o + 16) p)], [vI (c (o + 16) p), vR (o + 16)], aq_h m s F c)) rfl rfl ?_
          refine aq_al (ok := fun k => k == 0) (v := vI (c (o + 16) (c (o + 16) p))) rfl rfl (by omega) hFd rfl (by omega) (by omega) rfl ?_
          show am_E _ (30, [vR o, vR (o + 16), vI p, vI (c (o + 16) p)], [vI (c (o + 16) (c (o + 16) p))], aq_h m s F c) _
          have f_8 := (hc).1 (c (o + 16) p) (by omega) (by omega)
          refine am_E.go (t2 := (31, [vR o, vR (o + 16), vI p, vI (c (o + 16) p)], [vI p, vI (c (o + 16) (c (o + 16) p))], aq_h m s F c)) rfl rfl ?_
          refine ae_icmp rfl (fun (q_9 : (c (o + 16) (c (o + 16) p)) = p) => ?_) (fun (q_9 : (c (o + 16) (c (o + 16) p)) ≠ p) => ?_)
          · refine am_E.go (t2 := (37, [vR o, vR (o + 16), vI p, vI (c (o + 16) p)], [vI (c (o + 16) p)], aq_h m s F c)) rfl rfl ?_
            refine am_E.go (t2 := (38, [vR o, vR (o + 16), vI p, vI (c (o + 16) p)], [vR o, vI (c (o + 16) p)], aq_h m s F c)) rfl rfl ?_
            refine aq_gf (v := vI (n : Int)) rfl (by omega) hFo (by decide) rfl ?_
            show am_E _ (41, [vR o, vR (o + 16), vI p, vI (c (o + 16) p)], [vI (n : Int), vI (c (o + 16) p)], aq_h m s F c) _
            refine ae_icmp rfl (fun (q_10 : (n : Int) ≤ (c (o + 16) p)) => ?_) (fun (q_10 : (c (o + 16) p) < (n : Int)) => ?_)
            · refine ae_iinc rfl rfl (am_ri (by omega) (by omega)) ?_
              show am_E _ (58, [vR o, vR (o + 16), vI (p + 1), vI (c (o + 16) p)], [], aq_h m s F c) _
              refine am_E.go (t2 := (2, [vR o, vR (o + 16), vI (p + 1), vI (c (o + 16) p)], [], aq_h m s F c)) rfl rfl ?_
              exact qc_isHalf_l ⟨hm, hn1, hn4, hFo, hFl, hFg, hFt, hFp, hFq, hFd, hFs⟩ hc d (p + 1) (vI (c (o + 16) p)) (by omega) (by omega) (by omega)
            · refine am_E.go (t2 := (45, [vR o, vR (o + 16), vI p, vI (c (o + 16) p)], [vR (o + 16)], aq_h m s F c)) rfl rfl ?_
              refine am_E.go (t2 := (46, [vR o, vR (o + 16), vI p, vI (c (o + 16) p)], [vI p, vR (o + 16)], aq_h m s F c)) rfl rfl ?_
              refine am_E.go (t2 := (47, [vR o, vR (o + 16), vI p, vI (c (o + 16) p)], [vI (c (o + 16) p), vI p, vR (o + 16)], aq_h m s F c)) rfl rfl ?_
              refine am_E.call rfl rfl rfl (Nat.le_of_ble_eq_true rfl) (qc_keepsWithin ⟨hm, hn1, hn4, hFo, hFl, hFg, hFt, hFp, hFq, hFd, hFs⟩ hc (by omega) (by omega) (by omega)) ?_
              rintro r5 h5 ⟨rfl, v_11, rfl, hv_11⟩
              show am_E _ (50, [vR o, vR (o + 16), vI p, vI (c (o + 16) p)], [vI v_11], aq_h m s F c) _
              refine ae_if0 rfl (fun (q_12 : v_11 ≠ 0) => ?_) (fun (q_12 : v_11 = 0) => ?_)
              · refine ae_iinc rfl rfl (am_ri (by omega) (by omega)) ?_
                show am_E _ (58, [vR o, vR (o + 16), vI (p + 1), vI (c (o + 16) p)], [], aq_h m s F c) _
                refine am_E.go (t2 := (2, [vR o, vR (o + 16), vI (p + 1), vI (c (o + 16) p)], [], aq_h m s F c)) rfl rfl ?_
                exact qc_isHalf_l ⟨hm, hn1, hn4, hFo, hFl, hFg, hFt, hFp, hFq, hFd, hFs⟩ hc d (p + 1) (vI (c (o + 16) p)) (by omega) (by omega) (by omega)
              · refine am_E.go (t2 := (54, [vR o, vR (o + 16), vI p, vI (c (o + 16) p)], [vI 0], aq_h m s F c)) rfl rfl ?_
                refine am_E.ret rfl rfl ?_
                exact ⟨rfl, _, rfl, by omega⟩
          · refine am_E.go (t2 := (35, [vR o, vR (o + 16), vI p, vI (c (o + 16) p)], [vI 0], aq_h m s F c)) rfl rfl ?_
            refine am_E.ret rfl rfl ?_
            exact ⟨rfl, _, rfl, by omega⟩

theorem qc_isHalf {m s : Nat} {F : aq_F} {c : aq_C} {o n : Nat} (hH : hc_0 m F o n) (hc : hc_I o n c) : am_E ac_X2_isHalf (0, [vR o, vR (o + 16), vU, vU], [], aq_h m s F c) (aq_P m s F c aq_vb) := by
  obtain ⟨hm, hn1, hn4, hFo, hFl, hFg, hFt, hFp, hFq, hFd, hFs⟩ := hH
  refine am_E.go (t2 := (1, [vR o, vR (o + 16), vU, vU], [vI 0], aq_h m s F c)) rfl rfl ?_
  refine am_E.go (t2 := (2, [vR o, vR (o + 16), vI 0, vU], [], aq_h m s F c)) rfl rfl ?_
  exact qc_isHalf_l ⟨hm, hn1, hn4, hFo, hFl, hFg, hFt, hFp, hFq, hFd, hFs⟩ hc 6 0 (vU) (by omega) (by omega) (by omega)

theorem qc_nextDraft_l {m s : Nat} {F : aq_F} {c0 : aq_C} {o n : Nat} (hH : hc_0 m F o n) : ∀ (d : Nat) (p : Int) (c : aq_C) (hs : aq_sm (fun a => o ≤ a ∧ a < o + 18) c0 c) (h0 : -1 ≤ p) (h1 : p < (n : Int)) (hc : hc_I o n c) (hd : p + 1 < (d : Int)), am_E ac_X2_nextDraft (7, [vR o, vI p], [], aq_h m s F c) (aq_Z m s F (fun a => o ≤ a ∧ a < o + 18) c0 (fun r d => r = none ∧ hc_I o n d))
  | 0, p, c, hs, h0, h1, hc, hd => by exfalso; omega
  | d + 1, p, c, hs, h0, h1, hc, hd => by
    obtain ⟨hm, hn1, hn4, hFo, hFl, hFg, hFt, hFp, hFq, hFd, hFs⟩ := hH
    refine am_E.go (t2 := (8, [vR o, vI p], [vI p], aq_h m s F c)) rfl rfl ?_
    refine ae_if0 rfl (fun (q_1 : p < 0) => ?_) (fun (q_1 : 0 ≤ p) => ?_)
    · refine am_E.go (t2 := (38, [vR o, vI p], [vI p], aq_h m s F c)) rfl rfl ?_
      refine ae_if0 rfl (fun (q_2 : p < 0) => ?_) (fun (q_2 : 0 ≤ p) => ?_)
      · refine am_E.ret rfl rfl ?_
        exact ⟨_, rfl, hs, rfl, hc⟩
      · refine am_E.go (t2 := (42, [vR o, vI p], [vR o], aq_h m s F c)) rfl rfl ?_
        refine aq_gf (v := vR (o + 16)) rfl (by omega) hFo (by decide) rfl ?_
        show am_E _ (45, [vR o, vI p], [vR (o + 16)], aq_h m s F c) _
        refine am_E.go (t2 := (46, [vR o, vI p], [vI p, vR (o + 16)], aq_h m s F c)) rfl rfl ?_
        refine am_E.go (t2 := (47, [vR o, vI p], [vI p, vR (o + 16), vI p, vR (o + 16)], aq_h m s F c)) rfl rfl ?_
        refine aq_al (ok := fun k => k == 0) (v := vI (c (o + 16) p)) rfl rfl (by omega) hFd rfl (by omega) (by omega) rfl ?_
        show am_E _ (48, [vR o, vI p], [vI (c (o + 16) p), vI p, vR (o + 16)], aq_h m s F c) _
        have f_3 := (hc).1 p (by omega) (by omega)
        refine am_E.go (t2 := (49, [vR o, vI p], [vI 1, vI (c (o + 16) p), vI p, vR (o + 16)], aq_h m s F c)) rfl rfl ?_
        refine ae_add rfl (am_ri (by omega) (by omega)) ?_
        show am_E _ (50, [vR o, vI p], [vI ((c (o + 16) p) + 1), vI p, vR (o + 16)], aq_h m s F c) _
        refine aq_as (kd := 0) rfl rfl (by omega) hFd (by omega) (by omega) rfl rfl ?_
        show am_E _ (51, [vR o, vI p], [], aq_h m s F (aq_u c (o + 16) p ((c (o + 16) p) + 1))) _
        generalize hdc_4 : aq_u c (o + 16) p ((c (o + 16) p) + 1) = c_4
        have sc_4 := aq_smu hs hdc_4 (by omega)
        have hhcc_4 := hc_u hc hdc_4 (by omega) (by omega) (by omega)
        refine am_E.ret rfl rfl ?_
        exact ⟨_, rfl, sc_4, rfl, hhcc_4⟩
    · refine am_E.go (t2 := (12, [vR o, vI p], [vR o], aq_h m s F c)) rfl rfl ?_
      refine aq_gf (v := vR (o + 16)) rfl (by omega) hFo (by decide) rfl ?_
      show am_E _ (15, [vR o, vI p], [vR (o + 16)], aq_h m s F c) _
      refine am_E.go (t2 := (16, [vR o, vI p], [vI p, vR (o + 16)], aq_h m s F c)) rfl rfl ?_
      refine aq_al (ok := fun k => k == 0) (v := vI (c (o + 16) p)) rfl rfl (by omega) hFd rfl (by omega) (by omega) rfl ?_
      show am_E _ (17, [vR o, vI p], [vI (c (o + 16) p)], aq_h m s F c) _
      have f_5 := (hc).1 p (by omega) (by omega)
      refine am_E.go (t2 := (18, [vR o, vI p], [vR o, vI (c (o + 16) p)], aq_h m s F c)) rfl rfl ?_
      refine aq_gf (v := vI (n : Int)) rfl (by omega) hFo (by decide) rfl ?_
      show am_E _ (21, [vR o, vI p], [vI (n : Int), vI (c (o + 16) p)], aq_h m s F c) _
      refine ae_icmp rfl (fun (q_6 : (c (o + 16) p) ≠ (n : Int)) => ?_) (fun (q_6 : (c (o + 16) p) = (n : Int)) => ?_)
      · refine am_E.go (t2 := (38, [vR o, vI p], [vI p], aq_h m s F c)) rfl rfl ?_
        refine ae_if0 rfl (fun (q_7 : p < 0) => ?_) (fun (q_7 : 0 ≤ p) => ?_)
        · refine am_E.ret rfl rfl ?_
          exact ⟨_, rfl, hs, rfl, hc⟩
        · refine am_E.go (t2 := (42, [vR o, vI p], [vR o], aq_h m s F c)) rfl rfl ?_
          refine aq_gf (v := vR (o + 16)) rfl (by omega) hFo (by decide) rfl ?_
          show am_E _ (45, [vR o, vI p], [vR (o + 16)], aq_h m s F c) _
          refine am_E.go (t2 := (46, [vR o, vI p], [vI p, vR (o + 16)], aq_h m s F c)) rfl rfl ?_
          refine am_E.go (t2 := (47, [vR o, vI p], [vI p, vR (o + 16), vI p, vR (o + 16)], aq_h m s F c)) rfl rfl ?_
          refine aq_al (ok := fun k => k == 0) (v := vI (c (o + 16) p)) rfl rfl (by omega) hFd rfl (by omega) (by omega) rfl ?_
          show am_E _ (48, [vR o, vI p], [vI (c (o + 16) p), vI p, vR (o + 16)], aq_h m s F c) _
          have f_8 := (hc).1 p (by omega) (by omega)
          refine am_E.go (t2 := (49, [vR o, vI p], [vI 1, vI (c (o + 16) p), vI p, vR (o + 16)], aq_h m s F c)) rfl rfl ?_
          refine ae_add rfl (am_ri (by omega) (by omega)) ?_
          show am_E _ (50, [vR o, vI p], [vI ((c (o + 16) p) + 1), vI p, vR (o + 16)], aq_h m s F c) _
          refine aq_as (kd := 0) rfl rfl (by omega) hFd (by omega) (by omega) rfl rfl ?_
          show am_E _ (51, [vR o, vI p], [], aq_h m s F (aq_u c (o + 16) p ((c (o + 16) p) + 1))) _
          generalize hdc_9 : aq_u c (o + 16) p ((c (o + 16) p) + 1) = c_9
          have sc_9 := aq_smu hs hdc_9 (by omega)
          have hhcc_9 := hc_u hc hdc_9 (by omega) (by omega) (by omega)
          refine am_E.ret rfl rfl ?_
          exact ⟨_, rfl, sc_9, rfl, hhcc_9⟩
      · refine am_E.go (t2 := (25, [vR o, vI p], [vR o], aq_h m s F c)) rfl rfl ?_
        refine aq_gf (v := vR (o + 16)) rfl (by omega) hFo (by decide) rfl ?_
        show am_E _ (28, [vR o, vI p], [vR (o + 16)], aq_h m s F c) _
        refine am_E.go (t2 := (29, [vR o, vI p], [vI p, vR (o + 16)], aq_h m s F c)) rfl rfl ?_
        refine am_E.go (t2 := (30, [vR o, vI p], [vI 0, vI p, vR (o + 16)], aq_h m s F c)) rfl rfl ?_
        refine aq_as (kd := 0) rfl rfl (by omega) hFd (by omega) (by omega) rfl rfl ?_
        show am_E _ (31, [vR o, vI p], [], aq_h m s F (aq_u c (o + 16) p 0)) _
        generalize hdc_10 : aq_u c (o + 16) p 0 = c_10
        have sc_10 := aq_smu hs hdc_10 (by omega)
        have hhcc_10 := hc_u hc hdc_10 (by omega) (by omega) (by omega)
        refine ae_iinc rfl rfl (am_ri (by omega) (by omega)) ?_
        show am_E _ (34, [vR o, vI (p + (-1))], [], aq_h m s F c_10) _
        refine am_E.go (t2 := (7, [vR o, vI (p + (-1))], [], aq_h m s F c_10)) rfl rfl ?_
        exact qc_nextDraft_l ⟨hm, hn1, hn4, hFo, hFl, hFg, hFt, hFp, hFq, hFd, hFs⟩ d (p + (-1)) c_10 sc_10 (by omega) (by omega) hhcc_10 (by omega)

theorem qc_nextDraft {m s : Nat} {F : aq_F} {c : aq_C} {o n : Nat} (hH : hc_0 m F o n) (hc : hc_I o n c) : am_E ac_X2_nextDraft (0, [vR o, vU], [], aq_h m s F c) (aq_Z m s F (fun a => o ≤ a ∧ a < o + 18) c (fun r d => r = none ∧ hc_I o n d)) := by
  obtain ⟨hm, hn1, hn4, hFo, hFl, hFg, hFt, hFp, hFq, hFd, hFs⟩ := hH
  refine am_E.go (t2 := (1, [vR o, vU], [vR o], aq_h m s F c)) rfl rfl ?_
  refine aq_gf (v := vI (n : Int)) rfl (by omega) hFo (by decide) rfl ?_
  show am_E _ (4, [vR o, vU], [vI (n : Int)], aq_h m s F c) _
  refine am_E.go (t2 := (5, [vR o, vU], [vI 1, vI (n : Int)], aq_h m s F c)) rfl rfl ?_
  refine ae_sub rfl (am_ri (by omega) (by omega)) ?_
  show am_E _ (6, [vR o, vU], [vI ((n : Int) - 1)], aq_h m s F c) _
  refine am_E.go (t2 := (7, [vR o, vI ((n : Int) - 1)], [], aq_h m s F c)) rfl rfl ?_
  exact qc_nextDraft_l ⟨hm, hn1, hn4, hFo, hFl, hFg, hFt, hFp, hFq, hFd, hFs⟩ 6 ((n : Int) - 1) c (aq_sm0 (c := c) (S := (fun a => o ≤ a ∧ a < o + 18))) (by omega) (by omega) hc (by omega)
/-! numberOf gives a pairing its place in the list. -/
theorem nu_1 : ∀ b : Nat, b < 1 → nu_o (prt 1 b) (2 * 1) 9 0 0 (2 * 1 - 1) = b := by decide +kernel
theorem nu_2 : ∀ b : Nat, b < 3 → nu_o (prt 2 b) (2 * 2) 9 0 0 (2 * 2 - 1) = b := by decide +kernel
theorem nu_3 : ∀ b : Nat, b < 15 → nu_o (prt 3 b) (2 * 3) 9 0 0 (2 * 3 - 1) = b := by decide +kernel
theorem nu_4 : ∀ b : Nat, b < 105 → nu_o (prt 4 b) (2 * 4) 9 0 0 (2 * 4 - 1) = b := by decide +kernel
theorem nu_b {n b : Int} (h1 : 1 ≤ n) (h4 : n ≤ 4) (h0 : 0 ≤ b) (hb : b < bx_K n) : nu_o (prt n b) (2 * n) 9 0 0 (2 * n - 1) = b := by
  have h : n = 1 ∨ n = 2 ∨ n = 3 ∨ n = 4 := by omega
  have eb : ((b.toNat : Nat) : Int) = b := Int.toNat_of_nonneg h0
  rcases h with h | h | h | h <;> subst h
  · have hk : bx_K 1 = 1 := rfl
    have := nu_1 b.toNat (by omega)
    rw [eb] at this
    exact this
  · have hk : bx_K 2 = 3 := rfl
    have := nu_2 b.toNat (by omega)
    rw [eb] at this
    exact this
  · have hk : bx_K 3 = 15 := rfl
    have := nu_3 b.toNat (by omega)
    rw [eb] at this
    exact this
  · have hk : bx_K 4 = 105 := rfl
    have := nu_4 b.toNat (by omega)
    rw [eb] at this
    exact this
theorem nu_fi {n : Int} {f : Int → Int} (h1 : 1 ≤ n) (h4 : n ≤ 4) (hf : fi n f) : 0 ≤ nu_o f (2 * n) 9 0 0 (2 * n - 1) ∧ nu_o f (2 * n) 9 0 0 (2 * n - 1) < bx_K n := by
  obtain ⟨b, b0, b1, b2⟩ := pr_c h1 h4 hf
  have e := nu_oc (N := 2 * n) b2 (fun i k0 k1 => by have := pr_fi h1 h4 b0 b1 i k0 k1; omega) 9 0 0 (2 * n - 1) (by omega)
  rw [← e, nu_b h1 h4 b0 b1]
  exact ⟨b0, b1⟩
theorem ldr_le {n : Int} {f g : Int → Int} : ∀ (d k : Nat) (u : Bool) (p : Int), exd n f g d u p → ldr n f g (d + k) u p = ldr n f g d u p
  | 0, k, u, p, h => h.elim
  | d + 1, k, true, p, h => by
    rw [show d + 1 + k = (d + k) + 1 by omega, ldr, ldr]
    by_cases e : n ≤ f p
    · rw [if_pos e, if_pos e, ldr_le d k false _ (h e)]
    · rw [if_neg e, if_neg e]
  | d + 1, k, false, p, h => by
    rw [show d + 1 + k = (d + k) + 1 by omega, ldr, ldr]
    by_cases e : g p < n
    · rw [if_pos e, if_pos e, ldr_le d k true _ (h e)]
    · rw [if_neg e, if_neg e]
/-- one strand: two steps are enough -/
theorem ld_ex1 {f g : Int → Int} (hf : fi 1 f) (hg : fi 1 g) {p : Int} (h0 : 0 ≤ p) (h1 : p < 2) : exd 1 f g 3 (decide (p < 1)) p := by
  have a := hf 0 (by omega) (by omega)
  have b := hf 1 (by omega) (by omega)
  have c := hg 0 (by omega) (by omega)
  have d := hg 1 (by omega) (by omega)
  have e : p = 0 ∨ p = 1 := by omega
  rcases e with e | e <;> subst e
  · intro k1
    intro k2
    have e1 : f 0 = 1 := by omega
    rw [e1] at k2
    exfalso
    have : (1 : Int) - 1 = 0 := rfl
    rw [this] at k2
    omega
  · intro k1
    intro k2
    have e1 : g 1 = 0 := by omega
    rw [e1] at k2
    exfalso
    have : (1 : Int) + 0 = 1 := rfl
    rw [this] at k2
    omega
