/-! The reference: decode. Printed by wip/p20/sx/gDEC.py. -/

theorem qm_dec_p {m s : Nat} {F : aq_F} {c0 : aq_C} {y : Nat} (hO : mo_0 m F y) (hG1 : F (y + 1) = (0, 992, fun _ => .inl 0)) {n b : Int} (hn1 : 1 ≤ n) (hn4 : n ≤ 4) (hb0 : 0 ≤ b) (hb1 : b < bx_K n) {w : Int → Int} {lf wy mn T : Int} {c : aq_C} : ∀ (d : Nat) (ch : Int) (p : Int) (v8 : am_V) (hw : ∀ i, 0 ≤ i → i < 8 → c (y + 11) i = w i) (h0 : 0 ≤ p) (hb : dc_pb w d p = true) (ht : dc_p w d p = T) (K0 : ∀ (p2 : Int) (ht : p2 = T), am_E ac_X5_decode (78, [vR y, vI n, vI b, vI lf, vI wy, vI mn, vI ch, vI p2, v8], [], aq_h m s F c) (aq_Z m s F (fun a => a = y + 1 ∨ a = y + 11) c0 (fun r d => r = none ∧ (∀ i, 0 ≤ i → i < 2 * n → d (y + 1) (8 * (mo_f n + b) + i) = prt n b i) ∧ ∀ j, (j < 8 * (mo_f n + b) ∨ 8 * (mo_f n + b) + 8 ≤ j) → d (y + 1) j = c0 (y + 1) j))), am_E ac_X5_decode (62, [vR y, vI n, vI b, vI lf, vI wy, vI mn, vI ch, vI p, v8], [], aq_h m s F c) (aq_Z m s F (fun a => a = y + 1 ∨ a = y + 11) c0 (fun r d => r = none ∧ (∀ i, 0 ≤ i → i < 2 * n → d (y + 1) (8 * (mo_f n + b) + i) = prt n b i) ∧ ∀ j, (j < 8 * (mo_f n + b) ∨ 8 * (mo_f n + b) + 8 ≤ j) → d (y + 1) j = c0 (y + 1) j))
  | 0, ch, p, v8, hw, h0, hb, ht, K0 => by cases hb
  | d + 1, ch, p, v8, hw, h0, hb, ht, K0 => by
    obtain ⟨hm, hFo, hG5, hG6, hG7, hG8, hG9, hG10, hG11, hG12, hG13, hG14, hG15, hG16, hG17, hG18, hG19, hG20, hG21, hG22, hG23⟩ := hO
    have hfs := mo_fs n
    rw [dc_pb, Bool.and_eq_true, Bool.or_eq_true] at hb
    obtain ⟨hb2, hb3⟩ := hb
    have hb2 := of_decide_eq_true hb2
    refine am_E.go (t2 := (63, [vR y, vI n, vI b, vI lf, vI wy, vI mn, vI ch, vI p, v8], [vR y], aq_h m s F c)) rfl rfl ?_
    refine aq_gf (v := vR (y + 11)) rfl (by omega) hFo (by decide) rfl ?_
    show am_E _ (66, [vR y, vI n, vI b, vI lf, vI wy, vI mn, vI ch, vI p, v8], [vR (y + 11)], aq_h m s F c) _
    refine am_E.go (t2 := (68, [vR y, vI n, vI b, vI lf, vI wy, vI mn, vI ch, vI p, v8], [vI p, vR (y + 11)], aq_h m s F c)) rfl rfl ?_
    refine aq_al (ok := fun k => k == 1) (v := vI (c (y + 11) p)) rfl rfl (by omega) hG11 rfl (by omega) (by omega) rfl ?_
    show am_E _ (69, [vR y, vI n, vI b, vI lf, vI wy, vI mn, vI ch, vI p, v8], [vI (c (y + 11) p)], aq_h m s F c) _
    refine ae_if0 rfl (fun (q_1 : (c (y + 11) p) = 0) => ?_) (fun (q_1 : (c (y + 11) p) ≠ 0) => ?_)
    · exact K0 p (by rw [← ht, dc_p, if_pos (by rw [← hw p (by omega) (by omega)]; assumption)])
    · refine ae_iinc rfl rfl (am_ri (by omega) (by omega)) ?_
      show am_E _ (75, [vR y, vI n, vI b, vI lf, vI wy, vI mn, vI ch, vI (p + 1), v8], [], aq_h m s F c) _
      refine am_E.go (t2 := (62, [vR y, vI n, vI b, vI lf, vI wy, vI mn, vI ch, vI (p + 1), v8], [], aq_h m s F c)) rfl rfl ?_
      exact qm_dec_p ⟨hm, hFo, hG5, hG6, hG7, hG8, hG9, hG10, hG11, hG12, hG13, hG14, hG15, hG16, hG17, hG18, hG19, hG20, hG21, hG22, hG23⟩ hG1 hn1 hn4 hb0 hb1 d ch (p + 1) (v8) hw (by omega) (hb3.resolve_left (fun h => absurd (of_decide_eq_true h) (by rw [← hw p (by omega) (by omega)]; assumption))) (by rw [← ht, dc_p, if_neg (by rw [← hw p (by omega) (by omega)]; assumption)]) K0

theorem qm_dec_q {m s : Nat} {F : aq_F} {c0 : aq_C} {y : Nat} (hO : mo_0 m F y) (hG1 : F (y + 1) = (0, 992, fun _ => .inl 0)) {n b : Int} (hn1 : 1 ≤ n) (hn4 : n ≤ 4) (hb0 : 0 ≤ b) (hb1 : b < bx_K n) {w : Int → Int} {lf wy mn T : Int} {c : aq_C} : ∀ (d : Nat) (ch : Int) (p : Int) (q : Int) (hw : ∀ i, 0 ≤ i → i < 8 → c (y + 11) i = w i) (h0 : 0 ≤ q) (h1 : ch ≤ 200) (h2 : 0 ≤ ch + q) (hb : dc_qb w d ch q = true) (ht : dc_q w d ch q = T) (K0 : ∀ (ch2 : Int) (q2 : Int) (ht : q2 = T), am_E ac_X5_decode (133, [vR y, vI n, vI b, vI lf, vI wy, vI mn, vI ch2, vI p, vI q2], [], aq_h m s F c) (aq_Z m s F (fun a => a = y + 1 ∨ a = y + 11) c0 (fun r d => r = none ∧ (∀ i, 0 ≤ i → i < 2 * n → d (y + 1) (8 * (mo_f n + b) + i) = prt n b i) ∧ ∀ j, (j < 8 * (mo_f n + b) ∨ 8 * (mo_f n + b) + 8 ≤ j) → d (y + 1) j = c0 (y + 1) j))), am_E ac_X5_decode (92, [vR y, vI n, vI b, vI lf, vI wy, vI mn, vI ch, vI p, vI q], [], aq_h m s F c) (aq_Z m s F (fun a => a = y + 1 ∨ a = y + 11) c0 (fun r d => r = none ∧ (∀ i, 0 ≤ i → i < 2 * n → d (y + 1) (8 * (mo_f n + b) + i) = prt n b i) ∧ ∀ j, (j < 8 * (mo_f n + b) ∨ 8 * (mo_f n + b) + 8 ≤ j) → d (y + 1) j = c0 (y + 1) j))
  | 0, ch, p, q, hw, h0, h1, h2, hb, ht, K0 => by cases hb
  | d + 1, ch, p, q, hw, h0, h1, h2, hb, ht, K0 => by
    obtain ⟨hm, hFo, hG5, hG6, hG7, hG8, hG9, hG10, hG11, hG12, hG13, hG14, hG15, hG16, hG17, hG18, hG19, hG20, hG21, hG22, hG23⟩ := hO
    have hfs := mo_fs n
    rw [dc_qb, Bool.and_eq_true, Bool.or_eq_true] at hb
    obtain ⟨hb2, hb3⟩ := hb
    have hb2 := of_decide_eq_true hb2
    have hwq := hw q h0 (by omega)
    refine am_E.go (t2 := (93, [vR y, vI n, vI b, vI lf, vI wy, vI mn, vI ch, vI p, vI q], [vR y], aq_h m s F c)) rfl rfl ?_
    refine aq_gf (v := vR (y + 11)) rfl (by omega) hFo (by decide) rfl ?_
    show am_E _ (96, [vR y, vI n, vI b, vI lf, vI wy, vI mn, vI ch, vI p, vI q], [vR (y + 11)], aq_h m s F c) _
    refine am_E.go (t2 := (98, [vR y, vI n, vI b, vI lf, vI wy, vI mn, vI ch, vI p, vI q], [vI q, vR (y + 11)], aq_h m s F c)) rfl rfl ?_
    refine aq_al (ok := fun k => k == 1) (v := vI (c (y + 11) q)) rfl rfl (by omega) hG11 rfl (by omega) (by omega) rfl ?_
    show am_E _ (99, [vR y, vI n, vI b, vI lf, vI wy, vI mn, vI ch, vI p, vI q], [vI (c (y + 11) q)], aq_h m s F c) _
    refine ae_if0 rfl (fun (q_1 : (c (y + 11) q) ≠ 0) => ?_) (fun (q_1 : (c (y + 11) q) = 0) => ?_)
    · refine am_E.go (t2 := (109, [vR y, vI n, vI b, vI lf, vI wy, vI mn, vI ch, vI p, vI q], [vI ch], aq_h m s F c)) rfl rfl ?_
      refine am_E.go (t2 := (110, [vR y, vI n, vI b, vI lf, vI wy, vI mn, vI ch, vI p, vI q], [vR y, vI ch], aq_h m s F c)) rfl rfl ?_
      refine aq_gf (v := vR (y + 11)) rfl (by omega) hFo (by decide) rfl ?_
      show am_E _ (113, [vR y, vI n, vI b, vI lf, vI wy, vI mn, vI ch, vI p, vI q], [vR (y + 11), vI ch], aq_h m s F c) _
      refine am_E.go (t2 := (115, [vR y, vI n, vI b, vI lf, vI wy, vI mn, vI ch, vI p, vI q], [vI q, vR (y + 11), vI ch], aq_h m s F c)) rfl rfl ?_
      refine aq_al (ok := fun k => k == 1) (v := vI (c (y + 11) q)) rfl rfl (by omega) hG11 rfl (by omega) (by omega) rfl ?_
      show am_E _ (116, [vR y, vI n, vI b, vI lf, vI wy, vI mn, vI ch, vI p, vI q], [vI (c (y + 11) q), vI ch], aq_h m s F c) _
      refine ae_if0 rfl (fun (q_2 : (c (y + 11) q) = 0) => ?_) (fun (q_2 : (c (y + 11) q) ≠ 0) => ?_)
      · refine am_E.go (t2 := (124, [vR y, vI n, vI b, vI lf, vI wy, vI mn, vI ch, vI p, vI q], [vI 1, vI ch], aq_h m s F c)) rfl rfl ?_
        refine ae_sub rfl (am_ri (by omega) (by omega)) ?_
        show am_E _ (125, [vR y, vI n, vI b, vI lf, vI wy, vI mn, vI ch, vI p, vI q], [vI (ch - 1)], aq_h m s F c) _
        refine am_E.go (t2 := (127, [vR y, vI n, vI b, vI lf, vI wy, vI mn, vI (ch - 1), vI p, vI q], [], aq_h m s F c)) rfl rfl ?_
        refine ae_iinc rfl rfl (am_ri (by omega) (by omega)) ?_
        show am_E _ (130, [vR y, vI n, vI b, vI lf, vI wy, vI mn, vI (ch - 1), vI p, vI (q + 1)], [], aq_h m s F c) _
        refine am_E.go (t2 := (92, [vR y, vI n, vI b, vI lf, vI wy, vI mn, vI (ch - 1), vI p, vI (q + 1)], [], aq_h m s F c)) rfl rfl ?_
        exact qm_dec_q ⟨hm, hFo, hG5, hG6, hG7, hG8, hG9, hG10, hG11, hG12, hG13, hG14, hG15, hG16, hG17, hG18, hG19, hG20, hG21, hG22, hG23⟩ hG1 hn1 hn4 hb0 hb1 d (ch - 1) p (q + 1) hw (by omega) (by omega) (by omega) (by have h9 := hb3.resolve_left (fun h => absurd (of_decide_eq_true h) (by omega)); first | (exfalso; omega) | (rw [if_pos (by omega)] at h9; exact h9) | (rw [if_neg (by omega)] at h9; exact h9)) (by first | (exfalso; omega) | (rw [← ht, dc_q, if_neg (by omega), if_pos (by omega)]) | (rw [← ht, dc_q, if_neg (by omega), if_neg (by omega)])) K0
      · refine am_E.go (t2 := (120, [vR y, vI n, vI b, vI lf, vI wy, vI mn, vI ch, vI p, vI q], [vI 0, vI ch], aq_h m s F c)) rfl rfl ?_
        refine am_E.go (t2 := (124, [vR y, vI n, vI b, vI lf, vI wy, vI mn, vI ch, vI p, vI q], [vI 0, vI ch], aq_h m s F c)) rfl rfl ?_
        refine ae_sub rfl (am_ri (by omega) (by omega)) ?_
        show am_E _ (125, [vR y, vI n, vI b, vI lf, vI wy, vI mn, vI ch, vI p, vI q], [vI (ch - 0)], aq_h m s F c) _
        refine am_E.go (t2 := (127, [vR y, vI n, vI b, vI lf, vI wy, vI mn, vI (ch - 0), vI p, vI q], [], aq_h m s F c)) rfl rfl ?_
        refine ae_iinc rfl rfl (am_ri (by omega) (by omega)) ?_
        show am_E _ (130, [vR y, vI n, vI b, vI lf, vI wy, vI mn, vI (ch - 0), vI p, vI (q + 1)], [], aq_h m s F c) _
        refine am_E.go (t2 := (92, [vR y, vI n, vI b, vI lf, vI wy, vI mn, vI (ch - 0), vI p, vI (q + 1)], [], aq_h m s F c)) rfl rfl ?_
        exact qm_dec_q ⟨hm, hFo, hG5, hG6, hG7, hG8, hG9, hG10, hG11, hG12, hG13, hG14, hG15, hG16, hG17, hG18, hG19, hG20, hG21, hG22, hG23⟩ hG1 hn1 hn4 hb0 hb1 d (ch - 0) p (q + 1) hw (by omega) (by omega) (by omega) (by have h9 := hb3.resolve_left (fun h => absurd (of_decide_eq_true h) (by omega)); first | (exfalso; omega) | (rw [if_pos (by omega)] at h9; exact h9) | (rw [if_neg (by omega)] at h9; exact h9)) (by first | (exfalso; omega) | (rw [← ht, dc_q, if_neg (by omega), if_pos (by omega)]) | (rw [← ht, dc_q, if_neg (by omega), if_neg (by omega)])) K0
    · refine am_E.go (t2 := (104, [vR y, vI n, vI b, vI lf, vI wy, vI mn, vI ch, vI p, vI q], [vI ch], aq_h m s F c)) rfl rfl ?_
      refine ae_if0 rfl (fun (q_3 : ch ≤ 0) => ?_) (fun (q_3 : 0 < ch) => ?_)
      · exact K0 ch q (by rw [← ht, dc_q, if_pos (by omega)])
      · refine am_E.go (t2 := (109, [vR y, vI n, vI b, vI lf, vI wy, vI mn, vI ch, vI p, vI q], [vI ch], aq_h m s F c)) rfl rfl ?_
        refine am_E.go (t2 := (110, [vR y, vI n, vI b, vI lf, vI wy, vI mn, vI ch, vI p, vI q], [vR y, vI ch], aq_h m s F c)) rfl rfl ?_
        refine aq_gf (v := vR (y + 11)) rfl (by omega) hFo (by decide) rfl ?_
        show am_E _ (113, [vR y, vI n, vI b, vI lf, vI wy, vI mn, vI ch, vI p, vI q], [vR (y + 11), vI ch], aq_h m s F c) _
        refine am_E.go (t2 := (115, [vR y, vI n, vI b, vI lf, vI wy, vI mn, vI ch, vI p, vI q], [vI q, vR (y + 11), vI ch], aq_h m s F c)) rfl rfl ?_
        refine aq_al (ok := fun k => k == 1) (v := vI (c (y + 11) q)) rfl rfl (by omega) hG11 rfl (by omega) (by omega) rfl ?_
        show am_E _ (116, [vR y, vI n, vI b, vI lf, vI wy, vI mn, vI ch, vI p, vI q], [vI (c (y + 11) q), vI ch], aq_h m s F c) _
        refine ae_if0 rfl (fun (q_4 : (c (y + 11) q) = 0) => ?_) (fun (q_4 : (c (y + 11) q) ≠ 0) => ?_)
        · refine am_E.go (t2 := (124, [vR y, vI n, vI b, vI lf, vI wy, vI mn, vI ch, vI p, vI q], [vI 1, vI ch], aq_h m s F c)) rfl rfl ?_
          refine ae_sub rfl (am_ri (by omega) (by omega)) ?_
          show am_E _ (125, [vR y, vI n, vI b, vI lf, vI wy, vI mn, vI ch, vI p, vI q], [vI (ch - 1)], aq_h m s F c) _
          refine am_E.go (t2 := (127, [vR y, vI n, vI b, vI lf, vI wy, vI mn, vI (ch - 1), vI p, vI q], [], aq_h m s F c)) rfl rfl ?_
          refine ae_iinc rfl rfl (am_ri (by omega) (by omega)) ?_
          show am_E _ (130, [vR y, vI n, vI b, vI lf, vI wy, vI mn, vI (ch - 1), vI p, vI (q + 1)], [], aq_h m s F c) _
          refine am_E.go (t2 := (92, [vR y, vI n, vI b, vI lf, vI wy, vI mn, vI (ch - 1), vI p, vI (q + 1)], [], aq_h m s F c)) rfl rfl ?_
          exact qm_dec_q ⟨hm, hFo, hG5, hG6, hG7, hG8, hG9, hG10, hG11, hG12, hG13, hG14, hG15, hG16, hG17, hG18, hG19, hG20, hG21, hG22, hG23⟩ hG1 hn1 hn4 hb0 hb1 d (ch - 1) p (q + 1) hw (by omega) (by omega) (by omega) (by have h9 := hb3.resolve_left (fun h => absurd (of_decide_eq_true h) (by omega)); first | (exfalso; omega) | (rw [if_pos (by omega)] at h9; exact h9) | (rw [if_neg (by omega)] at h9; exact h9)) (by first | (exfalso; omega) | (rw [← ht, dc_q, if_neg (by omega), if_pos (by omega)]) | (rw [← ht, dc_q, if_neg (by omega), if_neg (by omega)])) K0
        · refine am_E.go (t2 := (120, [vR y, vI n, vI b, vI lf, vI wy, vI mn, vI ch, vI p, vI q], [vI 0, vI ch], aq_h m s F c)) rfl rfl ?_
          refine am_E.go (t2 := (124, [vR y, vI n, vI b, vI lf, vI wy, vI mn, vI ch, vI p, vI q], [vI 0, vI ch], aq_h m s F c)) rfl rfl ?_
          refine ae_sub rfl (am_ri (by omega) (by omega)) ?_
          show am_E _ (125, [vR y, vI n, vI b, vI lf, vI wy, vI mn, vI ch, vI p, vI q], [vI (ch - 0)], aq_h m s F c) _
          refine am_E.go (t2 := (127, [vR y, vI n, vI b, vI lf, vI wy, vI mn, vI (ch - 0), vI p, vI q], [], aq_h m s F c)) rfl rfl ?_
          refine ae_iinc rfl rfl (am_ri (by omega) (by omega)) ?_
          show am_E _ (130, [vR y, vI n, vI b, vI lf, vI wy, vI mn, vI (ch - 0), vI p, vI (q + 1)], [], aq_h m s F c) _
          refine am_E.go (t2 := (92, [vR y, vI n, vI b, vI lf, vI wy, vI mn, vI (ch - 0), vI p, vI (q + 1)], [], aq_h m s F c)) rfl rfl ?_
          exact qm_dec_q ⟨hm, hFo, hG5, hG6, hG7, hG8, hG9, hG10, hG11, hG12, hG13, hG14, hG15, hG16, hG17, hG18, hG19, hG20, hG21, hG22, hG23⟩ hG1 hn1 hn4 hb0 hb1 d (ch - 0) p (q + 1) hw (by omega) (by omega) (by omega) (by have h9 := hb3.resolve_left (fun h => absurd (of_decide_eq_true h) (by omega)); first | (exfalso; omega) | (rw [if_pos (by omega)] at h9; exact h9) | (rw [if_neg (by omega)] at h9; exact h9)) (by first | (exfalso; omega) | (rw [← ht, dc_q, if_neg (by omega), if_pos (by omega)]) | (rw [← ht, dc_q, if_neg (by omega), if_neg (by omega)])) K0

theorem dc_ac {y : Nat} {w : Int → Int} {p : Int} {c d : aq_C} (hw : ∀ i, 0 ≤ i → i < 8 → c (y + 11) i = w i) (he : aq_u c (y + 11) p 1 = d) : ∀ i, 0 ≤ i → i < 8 → d (y + 11) i = dc_u w p i := fun i h0 h1 => by
  rw [← he]
  unfold aq_u dc_u
  by_cases e : i = p
  · rw [if_pos ⟨rfl, e⟩, if_pos e]
  · rw [if_neg (fun h => e h.2), if_neg e]
    exact hw i h0 h1

theorem qm_dec_o {m s : Nat} {F : aq_F} {c0 : aq_C} {y : Nat} (hO : mo_0 m F y) (hG1 : F (y + 1) = (0, 992, fun _ => .inl 0)) {n b : Int} (hn1 : 1 ≤ n) (hn4 : n ≤ 4) (hb0 : 0 ≤ b) (hb1 : b < bx_K n) : ∀ (d : Nat) (w : Int → Int) (lf : Int) (wy : Int) (mn : Int) (v6 : am_V) (v7 : am_V) (v8 : am_V) (c : aq_C) (hs : aq_sm (fun a => a = y + 1 ∨ a = y + 11) c0 c) (h0 : 0 ≤ lf) (h1 : lf ≤ 200) (h2 : 1 ≤ wy) (h3 : wy ≤ 105) (h4 : mn ≤ 8) (h5 : mn % 2 = 0) (h6 : -1 ≤ mn) (hw : ∀ i, 0 ≤ i → i < 8 → c (y + 11) i = w i) (htb : ∀ i, 0 ≤ i → i < 2 * n → w i = 1 → c (y + 1) (8 * (mo_f n + b) + i) = prt n b i) (hot : ∀ j, (j < 8 * (mo_f n + b) ∨ 8 * (mo_f n + b) + 8 ≤ j) → c (y + 1) j = c0 (y + 1) j) (hb : dc_b n b d mn lf wy w = true), am_E ac_X5_decode (34, [vR y, vI n, vI b, vI lf, vI wy, vI mn, v6, v7, v8], [], aq_h m s F c) (aq_Z m s F (fun a => a = y + 1 ∨ a = y + 11) c0 (fun r d => r = none ∧ (∀ i, 0 ≤ i → i < 2 * n → d (y + 1) (8 * (mo_f n + b) + i) = prt n b i) ∧ ∀ j, (j < 8 * (mo_f n + b) ∨ 8 * (mo_f n + b) + 8 ≤ j) → d (y + 1) j = c0 (y + 1) j))
  | 0, w, lf, wy, mn, v6, v7, v8, c, hs, h0, h1, h2, h3, h4, h5, h6, hw, htb, hot, hb => by cases hb
  | d + 1, w, lf, wy, mn, v6, v7, v8, c, hs, h0, h1, h2, h3, h4, h5, h6, hw, htb, hot, hb => by
    obtain ⟨hm, hFo, hG5, hG6, hG7, hG8, hG9, hG10, hG11, hG12, hG13, hG14, hG15, hG16, hG17, hG18, hG19, hG20, hG21, hG22, hG23⟩ := hO
    have hfs := mo_fs n
    rw [dc_b] at hb
    refine am_E.go (t2 := (36, [vR y, vI n, vI b, vI lf, vI wy, vI mn, v6, v7, v8], [vI mn], aq_h m s F c)) rfl rfl ?_
    refine ae_if0 rfl (fun (q_1 : mn ≤ 0) => ?_) (fun (q_1 : 0 < mn) => ?_)
    · refine am_E.ret rfl rfl ?_
      rw [if_pos (show mn ≤ 0 by omega)] at hb
      rw [List.all_eq_true] at hb
      exact ⟨_, rfl, hs, rfl, fun i h8 h9 => htb i h8 h9 (by have h10 := of_decide_eq_true (hb i.toNat (List.mem_range.mpr (by omega))); rw [Int.toNat_of_nonneg h8] at h10; exact h10), hot⟩
    · rw [if_neg (show ¬ mn ≤ 0 by omega)] at hb
      simp only [Bool.and_eq_true, decide_eq_true_eq] at hb
      obtain ⟨⟨⟨⟨⟨⟨⟨b1, b2⟩, b3⟩, b4⟩, b5⟩, b6⟩, b7⟩, b8⟩ := hb
      have pr := dc_pr 9 0 b2
      refine am_E.go (t2 := (41, [vR y, vI n, vI b, vI lf, vI wy, vI mn, v6, v7, v8], [vI wy], aq_h m s F c)) rfl rfl ?_
      refine am_E.go (t2 := (43, [vR y, vI n, vI b, vI lf, vI wy, vI mn, v6, v7, v8], [vI mn, vI wy], aq_h m s F c)) rfl rfl ?_
      refine am_E.go (t2 := (44, [vR y, vI n, vI b, vI lf, vI wy, vI mn, v6, v7, v8], [vI 1, vI mn, vI wy], aq_h m s F c)) rfl rfl ?_
      refine ae_sub rfl (am_ri (by omega) (by omega)) ?_
      show am_E _ (45, [vR y, vI n, vI b, vI lf, vI wy, vI mn, v6, v7, v8], [vI (mn - 1), vI wy], aq_h m s F c) _
      have u1 := Int.ediv_le_self (mn - 1) (show 0 ≤ wy by omega)
      refine ae_bin (z := wy / (mn - 1)) rfl rfl (am_div_e (by omega) (by omega) (by omega)) ?_
      generalize wy / (mn - 1) = wy2 at u1 b1 b3 b5 b6 b7 b8 ⊢
      refine am_E.go (t2 := (48, [vR y, vI n, vI b, vI lf, vI wy2, vI mn, v6, v7, v8], [], aq_h m s F c)) rfl rfl ?_
      refine am_E.go (t2 := (49, [vR y, vI n, vI b, vI lf, vI wy2, vI mn, v6, v7, v8], [vI lf], aq_h m s F c)) rfl rfl ?_
      refine am_E.go (t2 := (51, [vR y, vI n, vI b, vI lf, vI wy2, vI mn, v6, v7, v8], [vI wy2, vI lf], aq_h m s F c)) rfl rfl ?_
      have u2 := Int.ediv_le_self wy2 (show 0 ≤ lf by omega)
      have u3 := Int.ediv_nonneg (show 0 ≤ lf by omega) (show 0 ≤ wy2 by omega)
      refine ae_bin (z := lf / wy2) rfl rfl (am_div_e (by omega) (by omega) (by omega)) ?_
      generalize lf / wy2 = ch0 at u2 u3 b3 b5 b6 b7 b8 ⊢
      refine am_E.go (t2 := (54, [vR y, vI n, vI b, vI lf, vI wy2, vI mn, vI ch0, v7, v8], [], aq_h m s F c)) rfl rfl ?_
      refine am_E.go (t2 := (55, [vR y, vI n, vI b, vI lf, vI wy2, vI mn, vI ch0, v7, v8], [vI lf], aq_h m s F c)) rfl rfl ?_
      refine am_E.go (t2 := (57, [vR y, vI n, vI b, vI lf, vI wy2, vI mn, vI ch0, v7, v8], [vI wy2, vI lf], aq_h m s F c)) rfl rfl ?_
      have u4 := Int.emod_nonneg lf (show wy2 ≠ 0 by omega)
      have u5 := Int.emod_lt_of_pos lf (show 0 < wy2 by omega)
      refine ae_bin (z := lf % wy2) rfl rfl (am_rem_e (by omega) (by omega)) ?_
      generalize lf % wy2 = lf2 at u4 u5 b8 ⊢
      refine am_E.go (t2 := (59, [vR y, vI n, vI b, vI lf2, vI wy2, vI mn, vI ch0, v7, v8], [], aq_h m s F c)) rfl rfl ?_
      refine am_E.go (t2 := (60, [vR y, vI n, vI b, vI lf2, vI wy2, vI mn, vI ch0, v7, v8], [vI 0], aq_h m s F c)) rfl rfl ?_
      refine am_E.go (t2 := (62, [vR y, vI n, vI b, vI lf2, vI wy2, vI mn, vI ch0, vI 0, v8], [], aq_h m s F c)) rfl rfl ?_
      refine qm_dec_p ⟨hm, hFo, hG5, hG6, hG7, hG8, hG9, hG10, hG11, hG12, hG13, hG14, hG15, hG16, hG17, hG18, hG19, hG20, hG21, hG22, hG23⟩ hG1 hn1 hn4 hb0 hb1 (w := w) 9 ch0 0 (v8) hw (by omega) b2 rfl ?_
      · intro p2_62 ht_62
        rw [← ht_62] at b3 b4 b5 b6 b7 b8 pr
        refine am_E.go (t2 := (79, [vR y, vI n, vI b, vI lf2, vI wy2, vI mn, vI ch0, vI p2_62, (v8)], [vR y], aq_h m s F c)) rfl rfl ?_
        refine aq_gf (v := vR (y + 11)) rfl (by omega) hFo (by decide) rfl ?_
        show am_E _ (82, [vR y, vI n, vI b, vI lf2, vI wy2, vI mn, vI ch0, vI p2_62, (v8)], [vR (y + 11)], aq_h m s F c) _
        refine am_E.go (t2 := (84, [vR y, vI n, vI b, vI lf2, vI wy2, vI mn, vI ch0, vI p2_62, (v8)], [vI p2_62, vR (y + 11)], aq_h m s F c)) rfl rfl ?_
        refine am_E.go (t2 := (85, [vR y, vI n, vI b, vI lf2, vI wy2, vI mn, vI ch0, vI p2_62, (v8)], [vI 1, vI p2_62, vR (y + 11)], aq_h m s F c)) rfl rfl ?_
        refine aq_as (kd := 1) rfl rfl (by omega) hG11 (by omega) (by omega) rfl rfl ?_
        show am_E _ (86, [vR y, vI n, vI b, vI lf2, vI wy2, vI mn, vI ch0, vI p2_62, (v8)], [], aq_h m s F (aq_u c (y + 11) p2_62 1)) _
        generalize hdc_3 : aq_u c (y + 11) p2_62 1 = c_3
        have sc_3 := aq_smu hs hdc_3 (Or.inr rfl)
        refine am_E.go (t2 := (88, [vR y, vI n, vI b, vI lf2, vI wy2, vI mn, vI ch0, vI p2_62, (v8)], [vI p2_62], aq_h m s F c_3)) rfl rfl ?_
        refine am_E.go (t2 := (89, [vR y, vI n, vI b, vI lf2, vI wy2, vI mn, vI ch0, vI p2_62, (v8)], [vI 1, vI p2_62], aq_h m s F c_3)) rfl rfl ?_
        refine ae_add rfl (am_ri (by omega) (by omega)) ?_
        show am_E _ (90, [vR y, vI n, vI b, vI lf2, vI wy2, vI mn, vI ch0, vI p2_62, (v8)], [vI (p2_62 + 1)], aq_h m s F c_3) _
        refine am_E.go (t2 := (92, [vR y, vI n, vI b, vI lf2, vI wy2, vI mn, vI ch0, vI p2_62, vI (p2_62 + 1)], [], aq_h m s F c_3)) rfl rfl ?_
        refine qm_dec_q ⟨hm, hFo, hG5, hG6, hG7, hG8, hG9, hG10, hG11, hG12, hG13, hG14, hG15, hG16, hG17, hG18, hG19, hG20, hG21, hG22, hG23⟩ hG1 hn1 hn4 hb0 hb1 (w := dc_u w p2_62) 9 ch0 p2_62 (p2_62 + 1) (dc_ac hw hdc_3) (by omega) (by omega) (by omega) b3 rfl ?_
        · intro ch2_92 q2_92 ht_92
          have qr := dc_qr 9 ch0 (p2_62 + 1) b3
          rw [← ht_92] at b5 b6 b7 b8 qr
          refine am_E.go (t2 := (134, [vR y, vI n, vI b, vI lf2, vI wy2, vI mn, vI ch2_92, vI p2_62, vI q2_92], [vR y], aq_h m s F c_3)) rfl rfl ?_
          refine aq_gf (v := vR (y + 11)) rfl (by omega) hFo (by decide) rfl ?_
          show am_E _ (137, [vR y, vI n, vI b, vI lf2, vI wy2, vI mn, vI ch2_92, vI p2_62, vI q2_92], [vR (y + 11)], aq_h m s F c_3) _
          refine am_E.go (t2 := (139, [vR y, vI n, vI b, vI lf2, vI wy2, vI mn, vI ch2_92, vI p2_62, vI q2_92], [vI q2_92, vR (y + 11)], aq_h m s F c_3)) rfl rfl ?_
          refine am_E.go (t2 := (140, [vR y, vI n, vI b, vI lf2, vI wy2, vI mn, vI ch2_92, vI p2_62, vI q2_92], [vI 1, vI q2_92, vR (y + 11)], aq_h m s F c_3)) rfl rfl ?_
          refine aq_as (kd := 1) rfl rfl (by omega) hG11 (by omega) (by omega) rfl rfl ?_
          show am_E _ (141, [vR y, vI n, vI b, vI lf2, vI wy2, vI mn, vI ch2_92, vI p2_62, vI q2_92], [], aq_h m s F (aq_u c_3 (y + 11) q2_92 1)) _
          generalize hdc_5 : aq_u c_3 (y + 11) q2_92 1 = c_5
          have sc_5 := aq_smu sc_3 hdc_5 (Or.inr rfl)
          refine am_E.go (t2 := (142, [vR y, vI n, vI b, vI lf2, vI wy2, vI mn, vI ch2_92, vI p2_62, vI q2_92], [vR y], aq_h m s F c_5)) rfl rfl ?_
          refine aq_gf (v := vR (y + 1)) rfl (by omega) hFo (by decide) rfl ?_
          show am_E _ (145, [vR y, vI n, vI b, vI lf2, vI wy2, vI mn, vI ch2_92, vI p2_62, vI q2_92], [vR (y + 1)], aq_h m s F c_5) _
          refine am_E.go (t2 := (146, [vR y, vI n, vI b, vI lf2, vI wy2, vI mn, vI ch2_92, vI p2_62, vI q2_92], [vI n, vR (y + 1)], aq_h m s F c_5)) rfl rfl ?_
          refine am_E.go (t2 := (147, [vR y, vI n, vI b, vI lf2, vI wy2, vI mn, vI ch2_92, vI p2_62, vI q2_92], [vI b, vI n, vR (y + 1)], aq_h m s F c_5)) rfl rfl ?_
          refine am_E.call rfl rfl rfl (Nat.le_of_ble_eq_true rfl) (qm_at (by omega) (by omega)) ?_
          rintro r5 h5 ⟨rfl, xa, rfl, hxa⟩
          show am_E _ (150, [vR y, vI n, vI b, vI lf2, vI wy2, vI mn, vI ch2_92, vI p2_62, vI q2_92], [vI xa, vR (y + 1)], aq_h m s F c_5) _
          refine am_E.go (t2 := (152, [vR y, vI n, vI b, vI lf2, vI wy2, vI mn, vI ch2_92, vI p2_62, vI q2_92], [vI p2_62, vI xa, vR (y + 1)], aq_h m s F c_5)) rfl rfl ?_
          refine ae_add rfl (am_ri (by omega) (by omega)) ?_
          show am_E _ (153, [vR y, vI n, vI b, vI lf2, vI wy2, vI mn, vI ch2_92, vI p2_62, vI q2_92], [vI (xa + p2_62), vR (y + 1)], aq_h m s F c_5) _
          refine am_E.go (t2 := (155, [vR y, vI n, vI b, vI lf2, vI wy2, vI mn, vI ch2_92, vI p2_62, vI q2_92], [vI q2_92, vI (xa + p2_62), vR (y + 1)], aq_h m s F c_5)) rfl rfl ?_
          refine aq_as (kd := 0) rfl rfl (by omega) hG1 (by omega) (by omega) rfl rfl ?_
          show am_E _ (156, [vR y, vI n, vI b, vI lf2, vI wy2, vI mn, vI ch2_92, vI p2_62, vI q2_92], [], aq_h m s F (aq_u c_5 (y + 1) (xa + p2_62) q2_92)) _
          generalize hdc_6 : aq_u c_5 (y + 1) (xa + p2_62) q2_92 = c_6
          have sc_6 := aq_smu sc_5 hdc_6 (Or.inl rfl)
          refine am_E.go (t2 := (157, [vR y, vI n, vI b, vI lf2, vI wy2, vI mn, vI ch2_92, vI p2_62, vI q2_92], [vR y], aq_h m s F c_6)) rfl rfl ?_
          refine aq_gf (v := vR (y + 1)) rfl (by omega) hFo (by decide) rfl ?_
          show am_E _ (160, [vR y, vI n, vI b, vI lf2, vI wy2, vI mn, vI ch2_92, vI p2_62, vI q2_92], [vR (y + 1)], aq_h m s F c_6) _
          refine am_E.go (t2 := (161, [vR y, vI n, vI b, vI lf2, vI wy2, vI mn, vI ch2_92, vI p2_62, vI q2_92], [vI n, vR (y + 1)], aq_h m s F c_6)) rfl rfl ?_
          refine am_E.go (t2 := (162, [vR y, vI n, vI b, vI lf2, vI wy2, vI mn, vI ch2_92, vI p2_62, vI q2_92], [vI b, vI n, vR (y + 1)], aq_h m s F c_6)) rfl rfl ?_
          refine am_E.call rfl rfl rfl (Nat.le_of_ble_eq_true rfl) (qm_at (by omega) (by omega)) ?_
          rintro r5 h5 ⟨rfl, xb, rfl, hxb⟩
          show am_E _ (165, [vR y, vI n, vI b, vI lf2, vI wy2, vI mn, vI ch2_92, vI p2_62, vI q2_92], [vI xb, vR (y + 1)], aq_h m s F c_6) _
          refine am_E.go (t2 := (167, [vR y, vI n, vI b, vI lf2, vI wy2, vI mn, vI ch2_92, vI p2_62, vI q2_92], [vI q2_92, vI xb, vR (y + 1)], aq_h m s F c_6)) rfl rfl ?_
          refine ae_add rfl (am_ri (by omega) (by omega)) ?_
          show am_E _ (168, [vR y, vI n, vI b, vI lf2, vI wy2, vI mn, vI ch2_92, vI p2_62, vI q2_92], [vI (xb + q2_92), vR (y + 1)], aq_h m s F c_6) _
          refine am_E.go (t2 := (170, [vR y, vI n, vI b, vI lf2, vI wy2, vI mn, vI ch2_92, vI p2_62, vI q2_92], [vI p2_62, vI (xb + q2_92), vR (y + 1)], aq_h m s F c_6)) rfl rfl ?_
          refine aq_as (kd := 0) rfl rfl (by omega) hG1 (by omega) (by omega) rfl rfl ?_
          show am_E _ (171, [vR y, vI n, vI b, vI lf2, vI wy2, vI mn, vI ch2_92, vI p2_62, vI q2_92], [], aq_h m s F (aq_u c_6 (y + 1) (xb + q2_92) p2_62)) _
          generalize hdc_7 : aq_u c_6 (y + 1) (xb + q2_92) p2_62 = c_7
          have sc_7 := aq_smu sc_6 hdc_7 (Or.inl rfl)
          refine ae_iinc rfl rfl (am_ri (by omega) (by omega)) ?_
          show am_E _ (174, [vR y, vI n, vI b, vI lf2, vI wy2, vI (mn + (-2)), vI ch2_92, vI p2_62, vI q2_92], [], aq_h m s F c_7) _
          refine am_E.go (t2 := (34, [vR y, vI n, vI b, vI lf2, vI wy2, vI (mn + (-2)), vI ch2_92, vI p2_62, vI q2_92], [], aq_h m s F c_7)) rfl rfl ?_
          exact qm_dec_o ⟨hm, hFo, hG5, hG6, hG7, hG8, hG9, hG10, hG11, hG12, hG13, hG14, hG15, hG16, hG17, hG18, hG19, hG20, hG21, hG22, hG23⟩ hG1 hn1 hn4 hb0 hb1 d (dc_u (dc_u w p2_62) q2_92) lf2 wy2 (mn + (-2)) (vI ch2_92) (vI p2_62) (vI q2_92) c_7 sc_7 (by omega) (by omega) (by omega) (by omega) (by omega) (by omega) (by omega) (fun i h5 h6 => by rw [← hdc_7, aq_un (Or.inl (by omega)), ← hdc_6, aq_un (Or.inl (by omega))]; exact dc_ac (dc_ac hw hdc_3) hdc_5 i h5 h6) (fun i h5 h6 h7 => by
      rw [← hdc_7]
      by_cases e1 : i = q2_92
      · rw [e1, ← hxb, aq_us, b7]
      · rw [aq_un (Or.inr (by omega)), ← hdc_6]
        by_cases e2 : i = p2_62
        · rw [e2, ← hxa, aq_us, b6]
        · rw [aq_un (Or.inr (by omega)), ← hdc_5, aq_un (Or.inl (by omega)), ← hdc_3, aq_un (Or.inl (by omega))]
          unfold dc_u at h7
          rw [if_neg e1, if_neg e2] at h7
          exact htb i h5 h6 h7) (fun j h5 => by rw [← hdc_7, aq_un (Or.inr (by omega)), ← hdc_6, aq_un (Or.inr (by omega)), ← hdc_5, aq_un (Or.inl (by omega)), ← hdc_3, aq_un (Or.inl (by omega))]; exact hot j h5) b8

theorem qm_dec_z {m s : Nat} {F : aq_F} {c0 : aq_C} {y : Nat} (hO : mo_0 m F y) (hG1 : F (y + 1) = (0, 992, fun _ => .inl 0)) {n b : Int} (hn1 : 1 ≤ n) (hn4 : n ≤ 4) (hb0 : 0 ≤ b) (hb1 : b < bx_K n) : ∀ (d : Nat) (k : Int) (v4 : am_V) (v5 : am_V) (v6 : am_V) (v7 : am_V) (v8 : am_V) (c : aq_C) (hs : aq_sm (fun a => a = y + 1 ∨ a = y + 11) c0 c) (h0 : 0 ≤ k) (h1 : k ≤ 8) (hz : ∀ i, 0 ≤ i → i < k → c (y + 11) i = 0) (hot : ∀ j, c (y + 1) j = c0 (y + 1) j) (hd : 8 - k < (d : Int)), am_E ac_X5_decode (2, [vR y, vI n, vI b, vI k, v4, v5, v6, v7, v8], [], aq_h m s F c) (aq_Z m s F (fun a => a = y + 1 ∨ a = y + 11) c0 (fun r d => r = none ∧ (∀ i, 0 ≤ i → i < 2 * n → d (y + 1) (8 * (mo_f n + b) + i) = prt n b i) ∧ ∀ j, (j < 8 * (mo_f n + b) ∨ 8 * (mo_f n + b) + 8 ≤ j) → d (y + 1) j = c0 (y + 1) j))
  | 0, k, v4, v5, v6, v7, v8, c, hs, h0, h1, hz, hot, hd => by exfalso; omega
  | d + 1, k, v4, v5, v6, v7, v8, c, hs, h0, h1, hz, hot, hd => by
    obtain ⟨hm, hFo, hG5, hG6, hG7, hG8, hG9, hG10, hG11, hG12, hG13, hG14, hG15, hG16, hG17, hG18, hG19, hG20, hG21, hG22, hG23⟩ := hO
    have hfs := mo_fs n
    refine am_E.go (t2 := (3, [vR y, vI n, vI b, vI k, v4, v5, v6, v7, v8], [vI k], aq_h m s F c)) rfl rfl ?_
    refine am_E.go (t2 := (5, [vR y, vI n, vI b, vI k, v4, v5, v6, v7, v8], [vI 8, vI k], aq_h m s F c)) rfl rfl ?_
    refine ae_icmp rfl (fun (q_1 : 8 ≤ k) => ?_) (fun (q_1 : k < 8) => ?_)
    · refine am_E.go (t2 := (22, [vR y, vI n, vI b, vI k, v4, v5, v6, v7, v8], [vI b], aq_h m s F c)) rfl rfl ?_
      refine am_E.go (t2 := (23, [vR y, vI n, vI b, vI b, v4, v5, v6, v7, v8], [], aq_h m s F c)) rfl rfl ?_
      refine am_E.go (t2 := (24, [vR y, vI n, vI b, vI b, v4, v5, v6, v7, v8], [vI n], aq_h m s F c)) rfl rfl ?_
      refine am_E.call rfl rfl rfl (Nat.le_of_ble_eq_true rfl) (qm_boxes) ?_
      rintro r5 h5 ⟨rfl, v_bx, rfl, hv_bx⟩
      show am_E _ (27, [vR y, vI n, vI b, vI b, v4, v5, v6, v7, v8], [vI v_bx], aq_h m s F c) _
      refine am_E.go (t2 := (29, [vR y, vI n, vI b, vI b, vI v_bx, v5, v6, v7, v8], [], aq_h m s F c)) rfl rfl ?_
      refine am_E.go (t2 := (30, [vR y, vI n, vI b, vI b, vI v_bx, v5, v6, v7, v8], [vI 2], aq_h m s F c)) rfl rfl ?_
      refine am_E.go (t2 := (31, [vR y, vI n, vI b, vI b, vI v_bx, v5, v6, v7, v8], [vI n, vI 2], aq_h m s F c)) rfl rfl ?_
      refine ae_mul rfl (am_ri (by omega) (by omega)) ?_
      show am_E _ (32, [vR y, vI n, vI b, vI b, vI v_bx, v5, v6, v7, v8], [vI (2 * n)], aq_h m s F c) _
      refine am_E.go (t2 := (34, [vR y, vI n, vI b, vI b, vI v_bx, vI (2 * n), v6, v7, v8], [], aq_h m s F c)) rfl rfl ?_
      exact qm_dec_o ⟨hm, hFo, hG5, hG6, hG7, hG8, hG9, hG10, hG11, hG12, hG13, hG14, hG15, hG16, hG17, hG18, hG19, hG20, hG21, hG22, hG23⟩ hG1 hn1 hn4 hb0 hb1 5 (fun _ => 0) b v_bx (2 * n) (v6) (v7) (v8) c hs (by omega) (by omega) (by omega) (by omega) (by omega) (by omega) (by omega) (fun i h5 h6 => hz i h5 (by omega)) (fun i _ _ h7 => absurd h7 (by decide)) (fun j _ => hot j) (by have h9 := dc_n hn1 hn4 hb0 hb1; rw [← hv_bx] at h9; exact h9)
    · refine am_E.go (t2 := (9, [vR y, vI n, vI b, vI k, v4, v5, v6, v7, v8], [vR y], aq_h m s F c)) rfl rfl ?_
      refine aq_gf (v := vR (y + 11)) rfl (by omega) hFo (by decide) rfl ?_
      show am_E _ (12, [vR y, vI n, vI b, vI k, v4, v5, v6, v7, v8], [vR (y + 11)], aq_h m s F c) _
      refine am_E.go (t2 := (13, [vR y, vI n, vI b, vI k, v4, v5, v6, v7, v8], [vI k, vR (y + 11)], aq_h m s F c)) rfl rfl ?_
      refine am_E.go (t2 := (14, [vR y, vI n, vI b, vI k, v4, v5, v6, v7, v8], [vI 0, vI k, vR (y + 11)], aq_h m s F c)) rfl rfl ?_
      refine aq_as (kd := 1) rfl rfl (by omega) hG11 (by omega) (by omega) rfl rfl ?_
      show am_E _ (15, [vR y, vI n, vI b, vI k, v4, v5, v6, v7, v8], [], aq_h m s F (aq_u c (y + 11) k 0)) _
      generalize hdc_2 : aq_u c (y + 11) k 0 = c_2
      have sc_2 := aq_smu hs hdc_2 (Or.inr rfl)
      refine ae_iinc rfl rfl (am_ri (by omega) (by omega)) ?_
      show am_E _ (18, [vR y, vI n, vI b, vI (k + 1), v4, v5, v6, v7, v8], [], aq_h m s F c_2) _
      refine am_E.go (t2 := (2, [vR y, vI n, vI b, vI (k + 1), v4, v5, v6, v7, v8], [], aq_h m s F c_2)) rfl rfl ?_
      exact qm_dec_z ⟨hm, hFo, hG5, hG6, hG7, hG8, hG9, hG10, hG11, hG12, hG13, hG14, hG15, hG16, hG17, hG18, hG19, hG20, hG21, hG22, hG23⟩ hG1 hn1 hn4 hb0 hb1 d (k + 1) (v4) (v5) (v6) (v7) (v8) c_2 sc_2 (by omega) (by omega) (aq_fl (g := fun _ => 0) hz hdc_2 rfl) (fun j => by rw [← hdc_2, aq_un (Or.inl (by omega))]; exact hot j) (by omega)

theorem qm_decode {m s : Nat} {F : aq_F} {c : aq_C} {y : Nat} (hO : mo_0 m F y) (hG1 : F (y + 1) = (0, 992, fun _ => .inl 0)) {n b : Int} (hn1 : 1 ≤ n) (hn4 : n ≤ 4) (hb0 : 0 ≤ b) (hb1 : b < bx_K n) : am_E ac_X5_decode (0, [vR y, vI n, vI b, vU, vU, vU, vU, vU, vU], [], aq_h m s F c) (aq_Z m s F (fun a => a = y + 1 ∨ a = y + 11) c (fun r d => r = none ∧ (∀ i, 0 ≤ i → i < 2 * n → d (y + 1) (8 * (mo_f n + b) + i) = prt n b i) ∧ ∀ j, (j < 8 * (mo_f n + b) ∨ 8 * (mo_f n + b) + 8 ≤ j) → d (y + 1) j = c (y + 1) j)) := by
  obtain ⟨hm, hFo, hG5, hG6, hG7, hG8, hG9, hG10, hG11, hG12, hG13, hG14, hG15, hG16, hG17, hG18, hG19, hG20, hG21, hG22, hG23⟩ := hO
  have hfs := mo_fs n
  refine am_E.go (t2 := (1, [vR y, vI n, vI b, vU, vU, vU, vU, vU, vU], [vI 0], aq_h m s F c)) rfl rfl ?_
  refine am_E.go (t2 := (2, [vR y, vI n, vI b, vI 0, vU, vU, vU, vU, vU], [], aq_h m s F c)) rfl rfl ?_
  exact qm_dec_z ⟨hm, hFo, hG5, hG6, hG7, hG8, hG9, hG10, hG11, hG12, hG13, hG14, hG15, hG16, hG17, hG18, hG19, hG20, hG21, hG22, hG23⟩ hG1 hn1 hn4 hb0 hb1 10 0 (vU) (vU) (vU) (vU) (vU) c (aq_sm0 (c := c) (S := (fun a => a = y + 1 ∨ a = y + 11))) (by omega) (by omega) (fun i h1 h2 => absurd h2 (by omega)) (fun _ => rfl) (by omega)
