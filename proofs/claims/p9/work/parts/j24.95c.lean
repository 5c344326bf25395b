
/-- a ring of the reference, from place to place -/
def rj_ (n : Int) (f g : Int → Int) (m : Int) : Nat → Int → (Int → Int) → Int → Int
  | 0, _, w => w
  | d + 1, k, w => if f (n + g k) - n = m then dc_u (dc_u w k) (g k) else rj_ n f g m d (f (n + g k) - n) (dc_u (dc_u w k) (g k))
def rk_ (n : Int) (f g : Int → Int) : Nat → Int → Int → (Int → Int) → Int
  | 0, _, x, _ => x
  | d + 1, k, x, w => if k < n then (if w k = 0 then rk_ n f g d (k + 1) (x + 1) (rj_ n f g k 3 k w) else rk_ n f g d (k + 1) x w) else x
/-- rings between two boxes, as the reference counts -/
def rr_ (n : Int) (f g : Int → Int) : Int := rk_ n f g 5 0 0 (mj_ n f g 9 0 (fun _ => 0))

theorem qz_lead_l {m s : Nat} {F : aq_F} {c0 : aq_C} {S : Nat → Prop} {y : Nat} (hO : mo_0 m F y) (hS13 : S (y + 13)) {tbl : Int → Int} (hT1 : F (y + 1) = (0, 992, fun j => .inr (vI (tbl (j : Int))))) {n a b from_ T : Int} {Q : (Int → Int) → Prop} {Wd : Int → Int} (hn1 : 1 ≤ n) (hn4 : n ≤ 4) (ha0 : 0 ≤ a) (ha1 : a + 8 ≤ 992) (hb0 : 0 ≤ b) (hb1 : b + 8 ≤ 992) {f g : Int → Int} (hf : ∀ p, 0 ≤ p → p < 2 * n → tbl (a + p) = f p) (hg : ∀ p, 0 ≤ p → p < 2 * n → tbl (b + p) = g p) (hfi : fi n f) (hgi : fi n g) : ∀ (d : Nat) (u : Bool) (p : Int) (w : Int → Int) (v7 v8 : am_V) (c : aq_C) (hs : aq_sm S c0 c) (hw : ∀ q, 0 ≤ q → q < 4 → c (y + 13) q = w q) (h0 : 0 ≤ p) (h1 : p < 2 * n) (he : exd n f g d u p) (hT : ldr n f g d u p = T) (hW : fv_ n f g d u p w = Wd) (hQ : ∀ w : Int → Int, (∀ i, c (y + 13) i = 1 → w i = 1) → mkd n f g w d u p → Q w), am_E ac_X5_lead (17, [vR y, vI n, vI a, vI b, vI from_, vI (if u then 1 else 0), vI p, v7, v8], [], aq_h m s F c) (aq_Z m s F S c0 (fun r d => r = some (vI T) ∧ Q (d (y + 13)) ∧ ∀ q, 0 ≤ q → q < 4 → d (y + 13) q = Wd q))
  | 0, u, p, w, v7, v8, c, hs, hw, h0, h1, he, hT, hW, hQ => he.elim
  | d + 1, true, p, w, v7, v8, c, hs, hw, h0, h1, he, hT, hW, hQ => by
    obtain ⟨hm, hFo, hG5, hG6, hG7, hG8, hG9, hG10, hG11, hG12, hG13, hG14, hG15, hG16, hG17, hG18, hG19, hG20, hG21, hG22, hG23⟩ := hO
    show am_E _ (17, [vR y, vI n, vI a, vI b, vI from_, vI 1, vI p, v7, v8], [], aq_h m s F c) _
    refine am_E.go (t2 := (18, [vR y, vI n, vI a, vI b, vI from_, vI 1, vI p, v7, v8], [vR y], aq_h m s F c)) rfl rfl ?_
    refine aq_gf (v := vR (y + 1)) rfl (by omega) hFo (by decide) rfl ?_
    show am_E _ (21, [vR y, vI n, vI a, vI b, vI from_, vI 1, vI p, v7, v8], [vR (y + 1)], aq_h m s F c) _
    refine am_E.go (t2 := (23, [vR y, vI n, vI a, vI b, vI from_, vI 1, vI p, v7, v8], [vI 1, vR (y + 1)], aq_h m s F c)) rfl rfl ?_
    refine am_E.go (t2 := (26, [vR y, vI n, vI a, vI b, vI from_, vI 1, vI p, v7, v8], [vR (y + 1)], aq_h m s F c)) rfl rfl ?_
    refine am_E.go (t2 := (27, [vR y, vI n, vI a, vI b, vI from_, vI 1, vI p, v7, v8], [vI a, vR (y + 1)], aq_h m s F c)) rfl rfl ?_
    refine am_E.go (t2 := (31, [vR y, vI n, vI a, vI b, vI from_, vI 1, vI p, v7, v8], [vI a, vR (y + 1)], aq_h m s F c)) rfl rfl ?_
    refine am_E.go (t2 := (33, [vR y, vI n, vI a, vI b, vI from_, vI 1, vI p, v7, v8], [vI p, vI a, vR (y + 1)], aq_h m s F c)) rfl rfl ?_
    refine ae_add rfl (am_ri (by omega) (by omega)) ?_
    show am_E _ (34, [vR y, vI n, vI a, vI b, vI from_, vI 1, vI p, v7, v8], [vI (a + p), vR (y + 1)], aq_h m s F c) _
    have e_t := hf p (by omega) (by omega)
    have e_f := hfi p (by omega) (by omega)
    refine aq_alt (ok := fun k => k == 0) rfl rfl (by omega) hT1 rfl (by omega) (by omega) ?_
    rw [e_t]
    show am_E _ (35, [vR y, vI n, vI a, vI b, vI from_, vI 1, vI p, v7, v8], [vI (f p)], aq_h m s F c) _
    refine am_E.go (t2 := (37, [vR y, vI n, vI a, vI b, vI from_, vI 1, vI (f p), v7, v8], [], aq_h m s F c)) rfl rfl ?_
    refine am_E.go (t2 := (39, [vR y, vI n, vI a, vI b, vI from_, vI 1, vI (f p), v7, v8], [vI 1], aq_h m s F c)) rfl rfl ?_
    refine am_E.go (t2 := (42, [vR y, vI n, vI a, vI b, vI from_, vI 1, vI (f p), v7, v8], [], aq_h m s F c)) rfl rfl ?_
    refine am_E.go (t2 := (44, [vR y, vI n, vI a, vI b, vI from_, vI 1, vI (f p), v7, v8], [vI (f p)], aq_h m s F c)) rfl rfl ?_
    refine am_E.go (t2 := (45, [vR y, vI n, vI a, vI b, vI from_, vI 1, vI (f p), v7, v8], [vI n, vI (f p)], aq_h m s F c)) rfl rfl ?_
    refine ae_icmp rfl (fun (q_1 : n ≤ (f p)) => ?_) (fun (q_1 : (f p) < n) => ?_)
    · refine am_E.go (t2 := (53, [vR y, vI n, vI a, vI b, vI from_, vI 1, vI (f p), v7, v8], [vI 0], aq_h m s F c)) rfl rfl ?_
      refine am_E.go (t2 := (67, [vR y, vI n, vI a, vI b, vI from_, vI 1, vI (f p), v7, v8], [vI 0], aq_h m s F c)) rfl rfl ?_
      refine am_E.go (t2 := (69, [vR y, vI n, vI a, vI b, vI from_, vI 1, vI (f p), vI 0, v8], [], aq_h m s F c)) rfl rfl ?_
      refine am_E.go (t2 := (71, [vR y, vI n, vI a, vI b, vI from_, vI 1, vI (f p), vI 0, v8], [vI 0], aq_h m s F c)) rfl rfl ?_
      refine am_E.go (t2 := (77, [vR y, vI n, vI a, vI b, vI from_, vI 1, vI (f p), vI 0, v8], [], aq_h m s F c)) rfl rfl ?_
      refine am_E.go (t2 := (79, [vR y, vI n, vI a, vI b, vI from_, vI 1, vI (f p), vI 0, v8], [vI 1], aq_h m s F c)) rfl rfl ?_
      refine am_E.go (t2 := (82, [vR y, vI n, vI a, vI b, vI from_, vI 1, vI (f p), vI 0, v8], [], aq_h m s F c)) rfl rfl ?_
      refine am_E.go (t2 := (84, [vR y, vI n, vI a, vI b, vI from_, vI 1, vI (f p), vI 0, v8], [vI (f p)], aq_h m s F c)) rfl rfl ?_
      refine am_E.go (t2 := (85, [vR y, vI n, vI a, vI b, vI from_, vI 1, vI (f p), vI 0, v8], [vI n, vI (f p)], aq_h m s F c)) rfl rfl ?_
      refine ae_sub rfl (am_ri (by omega) (by omega)) ?_
      show am_E _ (86, [vR y, vI n, vI a, vI b, vI from_, vI 1, vI (f p), vI 0, v8], [vI ((f p) - n)], aq_h m s F c) _
      refine am_E.go (t2 := (91, [vR y, vI n, vI a, vI b, vI from_, vI 1, vI (f p), vI 0, v8], [vI ((f p) - n)], aq_h m s F c)) rfl rfl ?_
      refine am_E.go (t2 := (93, [vR y, vI n, vI a, vI b, vI from_, vI 1, vI (f p), vI 0, vI ((f p) - n)], [], aq_h m s F c)) rfl rfl ?_
      refine am_E.go (t2 := (94, [vR y, vI n, vI a, vI b, vI from_, vI 1, vI (f p), vI 0, vI ((f p) - n)], [vR y], aq_h m s F c)) rfl rfl ?_
      refine aq_gf (v := vR (y + 13)) rfl (by omega) hFo (by decide) rfl ?_
      show am_E _ (97, [vR y, vI n, vI a, vI b, vI from_, vI 1, vI (f p), vI 0, vI ((f p) - n)], [vR (y + 13)], aq_h m s F c) _
      refine am_E.go (t2 := (99, [vR y, vI n, vI a, vI b, vI from_, vI 1, vI (f p), vI 0, vI ((f p) - n)], [vI ((f p) - n), vR (y + 13)], aq_h m s F c)) rfl rfl ?_
      refine am_E.go (t2 := (100, [vR y, vI n, vI a, vI b, vI from_, vI 1, vI (f p), vI 0, vI ((f p) - n)], [vI 1, vI ((f p) - n), vR (y + 13)], aq_h m s F c)) rfl rfl ?_
      refine aq_as (kd := 1) rfl rfl (by omega) hG13 (by omega) (by omega) rfl rfl ?_
      show am_E _ (101, [vR y, vI n, vI a, vI b, vI from_, vI 1, vI (f p), vI 0, vI ((f p) - n)], [], aq_h m s F (aq_u c (y + 13) ((f p) - n) 1)) _
      generalize hdc_2 : aq_u c (y + 13) ((f p) - n) 1 = c_2
      have sc_2 := aq_smu hs hdc_2 (hS13)
      refine am_E.go (t2 := (103, [vR y, vI n, vI a, vI b, vI from_, vI 1, vI (f p), vI 0, vI ((f p) - n)], [vI 1], aq_h m s F c_2)) rfl rfl ?_
      refine am_E.go (t2 := (106, [vR y, vI n, vI a, vI b, vI from_, vI 1, vI (f p), vI 0, vI ((f p) - n)], [], aq_h m s F c_2)) rfl rfl ?_
      refine am_E.go (t2 := (108, [vR y, vI n, vI a, vI b, vI from_, vI 1, vI (f p), vI 0, vI ((f p) - n)], [vI ((f p) - n)], aq_h m s F c_2)) rfl rfl ?_
      refine am_E.go (t2 := (115, [vR y, vI n, vI a, vI b, vI from_, vI 1, vI (f p), vI 0, vI ((f p) - n)], [vI ((f p) - n)], aq_h m s F c_2)) rfl rfl ?_
      refine am_E.go (t2 := (117, [vR y, vI n, vI a, vI b, vI from_, vI 1, vI ((f p) - n), vI 0, vI ((f p) - n)], [], aq_h m s F c_2)) rfl rfl ?_
      refine am_E.go (t2 := (119, [vR y, vI n, vI a, vI b, vI from_, vI 1, vI ((f p) - n), vI 0, vI ((f p) - n)], [vI 1], aq_h m s F c_2)) rfl rfl ?_
      refine am_E.go (t2 := (126, [vR y, vI n, vI a, vI b, vI from_, vI 1, vI ((f p) - n), vI 0, vI ((f p) - n)], [], aq_h m s F c_2)) rfl rfl ?_
      refine am_E.go (t2 := (127, [vR y, vI n, vI a, vI b, vI from_, vI 1, vI ((f p) - n), vI 0, vI ((f p) - n)], [vI 0], aq_h m s F c_2)) rfl rfl ?_
      refine am_E.go (t2 := (129, [vR y, vI n, vI a, vI b, vI from_, vI 0, vI ((f p) - n), vI 0, vI ((f p) - n)], [], aq_h m s F c_2)) rfl rfl ?_
      refine am_E.go (t2 := (17, [vR y, vI n, vI a, vI b, vI from_, vI 0, vI ((f p) - n), vI 0, vI ((f p) - n)], [], aq_h m s F c_2)) rfl rfl ?_
      refine qz_lead_l ⟨hm, hFo, hG5, hG6, hG7, hG8, hG9, hG10, hG11, hG12, hG13, hG14, hG15, hG16, hG17, hG18, hG19, hG20, hG21, hG22, hG23⟩ hS13 hT1 hn1 hn4 ha0 ha1 hb0 hb1 hf hg hfi hgi d false ((f p) - n) (dc_u w (f p - n)) _ _ c_2 sc_2 (dc_ac2 hw hdc_2) (by omega) (by omega) (he (by omega)) (by rw [← hT, ldr, if_pos (by omega)]) (by rw [← hW, fv_, if_pos (by omega)]) (fun w w1 w2 => hQ w (fun i hi => w1 i ?_) (fun _ => ⟨w1 _ ?_, w2⟩))
      · rw [← hdc_2]
        unfold aq_u
        split
        · rfl
        · exact hi
      · rw [← hdc_2, aq_us]
    · refine am_E.go (t2 := (49, [vR y, vI n, vI a, vI b, vI from_, vI 1, vI (f p), v7, v8], [vI 1], aq_h m s F c)) rfl rfl ?_
      refine am_E.go (t2 := (67, [vR y, vI n, vI a, vI b, vI from_, vI 1, vI (f p), v7, v8], [vI 1], aq_h m s F c)) rfl rfl ?_
      refine am_E.go (t2 := (69, [vR y, vI n, vI a, vI b, vI from_, vI 1, vI (f p), vI 1, v8], [], aq_h m s F c)) rfl rfl ?_
      refine am_E.go (t2 := (71, [vR y, vI n, vI a, vI b, vI from_, vI 1, vI (f p), vI 1, v8], [vI 1], aq_h m s F c)) rfl rfl ?_
      refine am_E.go (t2 := (74, [vR y, vI n, vI a, vI b, vI from_, vI 1, vI (f p), vI 1, v8], [], aq_h m s F c)) rfl rfl ?_
      refine am_E.go (t2 := (76, [vR y, vI n, vI a, vI b, vI from_, vI 1, vI (f p), vI 1, v8], [vI (f p)], aq_h m s F c)) rfl rfl ?_
      refine am_E.ret rfl rfl ?_
      exact ⟨_, rfl, hs, by rw [← hT, ldr, if_neg (by omega)], hQ _ (fun i h => h) (fun h => absurd h (by omega)), by rw [← hW, fv_, if_neg (by omega)]; exact hw⟩
  | d + 1, false, p, w, v7, v8, c, hs, hw, h0, h1, he, hT, hW, hQ => by
    obtain ⟨hm, hFo, hG5, hG6, hG7, hG8, hG9, hG10, hG11, hG12, hG13, hG14, hG15, hG16, hG17, hG18, hG19, hG20, hG21, hG22, hG23⟩ := hO
    show am_E _ (17, [vR y, vI n, vI a, vI b, vI from_, vI 0, vI p, v7, v8], [], aq_h m s F c) _
    refine am_E.go (t2 := (18, [vR y, vI n, vI a, vI b, vI from_, vI 0, vI p, v7, v8], [vR y], aq_h m s F c)) rfl rfl ?_
    refine aq_gf (v := vR (y + 1)) rfl (by omega) hFo (by decide) rfl ?_
    show am_E _ (21, [vR y, vI n, vI a, vI b, vI from_, vI 0, vI p, v7, v8], [vR (y + 1)], aq_h m s F c) _
    refine am_E.go (t2 := (23, [vR y, vI n, vI a, vI b, vI from_, vI 0, vI p, v7, v8], [vI 0, vR (y + 1)], aq_h m s F c)) rfl rfl ?_
    refine am_E.go (t2 := (30, [vR y, vI n, vI a, vI b, vI from_, vI 0, vI p, v7, v8], [vR (y + 1)], aq_h m s F c)) rfl rfl ?_
    refine am_E.go (t2 := (31, [vR y, vI n, vI a, vI b, vI from_, vI 0, vI p, v7, v8], [vI b, vR (y + 1)], aq_h m s F c)) rfl rfl ?_
    refine am_E.go (t2 := (33, [vR y, vI n, vI a, vI b, vI from_, vI 0, vI p, v7, v8], [vI p, vI b, vR (y + 1)], aq_h m s F c)) rfl rfl ?_
    refine ae_add rfl (am_ri (by omega) (by omega)) ?_
    show am_E _ (34, [vR y, vI n, vI a, vI b, vI from_, vI 0, vI p, v7, v8], [vI (b + p), vR (y + 1)], aq_h m s F c) _
    have e_t := hg p (by omega) (by omega)
    have e_f := hgi p (by omega) (by omega)
    refine aq_alt (ok := fun k => k == 0) rfl rfl (by omega) hT1 rfl (by omega) (by omega) ?_
    rw [e_t]
    show am_E _ (35, [vR y, vI n, vI a, vI b, vI from_, vI 0, vI p, v7, v8], [vI (g p)], aq_h m s F c) _
    refine am_E.go (t2 := (37, [vR y, vI n, vI a, vI b, vI from_, vI 0, vI (g p), v7, v8], [], aq_h m s F c)) rfl rfl ?_
    refine am_E.go (t2 := (39, [vR y, vI n, vI a, vI b, vI from_, vI 0, vI (g p), v7, v8], [vI 0], aq_h m s F c)) rfl rfl ?_
    refine am_E.go (t2 := (56, [vR y, vI n, vI a, vI b, vI from_, vI 0, vI (g p), v7, v8], [], aq_h m s F c)) rfl rfl ?_
    refine am_E.go (t2 := (58, [vR y, vI n, vI a, vI b, vI from_, vI 0, vI (g p), v7, v8], [vI (g p)], aq_h m s F c)) rfl rfl ?_
    refine am_E.go (t2 := (59, [vR y, vI n, vI a, vI b, vI from_, vI 0, vI (g p), v7, v8], [vI n, vI (g p)], aq_h m s F c)) rfl rfl ?_
    refine ae_icmp rfl (fun (q_1 : (g p) < n) => ?_) (fun (q_1 : n ≤ (g p)) => ?_)
    · refine am_E.go (t2 := (67, [vR y, vI n, vI a, vI b, vI from_, vI 0, vI (g p), v7, v8], [vI 0], aq_h m s F c)) rfl rfl ?_
      refine am_E.go (t2 := (69, [vR y, vI n, vI a, vI b, vI from_, vI 0, vI (g p), vI 0, v8], [], aq_h m s F c)) rfl rfl ?_
      refine am_E.go (t2 := (71, [vR y, vI n, vI a, vI b, vI from_, vI 0, vI (g p), vI 0, v8], [vI 0], aq_h m s F c)) rfl rfl ?_
      refine am_E.go (t2 := (77, [vR y, vI n, vI a, vI b, vI from_, vI 0, vI (g p), vI 0, v8], [], aq_h m s F c)) rfl rfl ?_
      refine am_E.go (t2 := (79, [vR y, vI n, vI a, vI b, vI from_, vI 0, vI (g p), vI 0, v8], [vI 0], aq_h m s F c)) rfl rfl ?_
      refine am_E.go (t2 := (89, [vR y, vI n, vI a, vI b, vI from_, vI 0, vI (g p), vI 0, v8], [], aq_h m s F c)) rfl rfl ?_
      refine am_E.go (t2 := (91, [vR y, vI n, vI a, vI b, vI from_, vI 0, vI (g p), vI 0, v8], [vI (g p)], aq_h m s F c)) rfl rfl ?_
      refine am_E.go (t2 := (93, [vR y, vI n, vI a, vI b, vI from_, vI 0, vI (g p), vI 0, vI (g p)], [], aq_h m s F c)) rfl rfl ?_
      refine am_E.go (t2 := (94, [vR y, vI n, vI a, vI b, vI from_, vI 0, vI (g p), vI 0, vI (g p)], [vR y], aq_h m s F c)) rfl rfl ?_
      refine aq_gf (v := vR (y + 13)) rfl (by omega) hFo (by decide) rfl ?_
      show am_E _ (97, [vR y, vI n, vI a, vI b, vI from_, vI 0, vI (g p), vI 0, vI (g p)], [vR (y + 13)], aq_h m s F c) _
      refine am_E.go (t2 := (99, [vR y, vI n, vI a, vI b, vI from_, vI 0, vI (g p), vI 0, vI (g p)], [vI (g p), vR (y + 13)], aq_h m s F c)) rfl rfl ?_
      refine am_E.go (t2 := (100, [vR y, vI n, vI a, vI b, vI from_, vI 0, vI (g p), vI 0, vI (g p)], [vI 1, vI (g p), vR (y + 13)], aq_h m s F c)) rfl rfl ?_
      refine aq_as (kd := 1) rfl rfl (by omega) hG13 (by omega) (by omega) rfl rfl ?_
      show am_E _ (101, [vR y, vI n, vI a, vI b, vI from_, vI 0, vI (g p), vI 0, vI (g p)], [], aq_h m s F (aq_u c (y + 13) (g p) 1)) _
      generalize hdc_2 : aq_u c (y + 13) (g p) 1 = c_2
      have sc_2 := aq_smu hs hdc_2 (hS13)
      refine am_E.go (t2 := (103, [vR y, vI n, vI a, vI b, vI from_, vI 0, vI (g p), vI 0, vI (g p)], [vI 0], aq_h m s F c_2)) rfl rfl ?_
      refine am_E.go (t2 := (111, [vR y, vI n, vI a, vI b, vI from_, vI 0, vI (g p), vI 0, vI (g p)], [], aq_h m s F c_2)) rfl rfl ?_
      refine am_E.go (t2 := (112, [vR y, vI n, vI a, vI b, vI from_, vI 0, vI (g p), vI 0, vI (g p)], [vI n], aq_h m s F c_2)) rfl rfl ?_
      refine am_E.go (t2 := (114, [vR y, vI n, vI a, vI b, vI from_, vI 0, vI (g p), vI 0, vI (g p)], [vI (g p), vI n], aq_h m s F c_2)) rfl rfl ?_
      refine ae_add rfl (am_ri (by omega) (by omega)) ?_
      show am_E _ (115, [vR y, vI n, vI a, vI b, vI from_, vI 0, vI (g p), vI 0, vI (g p)], [vI (n + (g p))], aq_h m s F c_2) _
      refine am_E.go (t2 := (117, [vR y, vI n, vI a, vI b, vI from_, vI 0, vI (n + (g p)), vI 0, vI (g p)], [], aq_h m s F c_2)) rfl rfl ?_
      refine am_E.go (t2 := (119, [vR y, vI n, vI a, vI b, vI from_, vI 0, vI (n + (g p)), vI 0, vI (g p)], [vI 0], aq_h m s F c_2)) rfl rfl ?_
      refine am_E.go (t2 := (122, [vR y, vI n, vI a, vI b, vI from_, vI 0, vI (n + (g p)), vI 0, vI (g p)], [], aq_h m s F c_2)) rfl rfl ?_
      refine am_E.go (t2 := (123, [vR y, vI n, vI a, vI b, vI from_, vI 0, vI (n + (g p)), vI 0, vI (g p)], [vI 1], aq_h m s F c_2)) rfl rfl ?_
      refine am_E.go (t2 := (127, [vR y, vI n, vI a, vI b, vI from_, vI 0, vI (n + (g p)), vI 0, vI (g p)], [vI 1], aq_h m s F c_2)) rfl rfl ?_
      refine am_E.go (t2 := (129, [vR y, vI n, vI a, vI b, vI from_, vI 1, vI (n + (g p)), vI 0, vI (g p)], [], aq_h m s F c_2)) rfl rfl ?_
      refine am_E.go (t2 := (17, [vR y, vI n, vI a, vI b, vI from_, vI 1, vI (n + (g p)), vI 0, vI (g p)], [], aq_h m s F c_2)) rfl rfl ?_
      refine qz_lead_l ⟨hm, hFo, hG5, hG6, hG7, hG8, hG9, hG10, hG11, hG12, hG13, hG14, hG15, hG16, hG17, hG18, hG19, hG20, hG21, hG22, hG23⟩ hS13 hT1 hn1 hn4 ha0 ha1 hb0 hb1 hf hg hfi hgi d true (n + (g p)) (dc_u w (g p)) _ _ c_2 sc_2 (dc_ac2 hw hdc_2) (by omega) (by omega) (he (by omega)) (by rw [← hT, ldr, if_pos (by omega)]) (by rw [← hW, fv_, if_pos (by omega)]) (fun w w1 w2 => hQ w (fun i hi => w1 i ?_) (fun _ => ⟨w1 _ ?_, w2⟩))
      · rw [← hdc_2]
        unfold aq_u
        split
        · rfl
        · exact hi
      · rw [← hdc_2, aq_us]
    · refine am_E.go (t2 := (63, [vR y, vI n, vI a, vI b, vI from_, vI 0, vI (g p), v7, v8], [vI 1], aq_h m s F c)) rfl rfl ?_
      refine am_E.go (t2 := (67, [vR y, vI n, vI a, vI b, vI from_, vI 0, vI (g p), v7, v8], [vI 1], aq_h m s F c)) rfl rfl ?_
      refine am_E.go (t2 := (69, [vR y, vI n, vI a, vI b, vI from_, vI 0, vI (g p), vI 1, v8], [], aq_h m s F c)) rfl rfl ?_
      refine am_E.go (t2 := (71, [vR y, vI n, vI a, vI b, vI from_, vI 0, vI (g p), vI 1, v8], [vI 1], aq_h m s F c)) rfl rfl ?_
      refine am_E.go (t2 := (74, [vR y, vI n, vI a, vI b, vI from_, vI 0, vI (g p), vI 1, v8], [], aq_h m s F c)) rfl rfl ?_
      refine am_E.go (t2 := (76, [vR y, vI n, vI a, vI b, vI from_, vI 0, vI (g p), vI 1, v8], [vI (g p)], aq_h m s F c)) rfl rfl ?_
      refine am_E.ret rfl rfl ?_
      exact ⟨_, rfl, hs, by rw [← hT, ldr, if_neg (by omega)], hQ _ (fun i h => h) (fun h => absurd h (by omega)), by rw [← hW, fv_, if_neg (by omega)]; exact hw⟩

theorem qz_lead {m s : Nat} {F : aq_F} {c : aq_C} {S : Nat → Prop} {y : Nat} (hO : mo_0 m F y) (hS13 : S (y + 13)) {tbl : Int → Int} (hT1 : F (y + 1) = (0, 992, fun j => .inr (vI (tbl (j : Int))))) {n a b p : Int} {w : Int → Int} (hn1 : 1 ≤ n) (hn4 : n ≤ 4) (ha0 : 0 ≤ a) (ha1 : a + 8 ≤ 992) (hb0 : 0 ≤ b) (hb1 : b + 8 ≤ 992) {f g : Int → Int} (hf : ∀ p, 0 ≤ p → p < 2 * n → tbl (a + p) = f p) (hg : ∀ p, 0 ≤ p → p < 2 * n → tbl (b + p) = g p) (hfi : fi n f) (hgi : fi n g) (hw : ∀ q, 0 ≤ q → q < 4 → c (y + 13) q = w q) (h0 : 0 ≤ p) (h1 : p < 2 * n) : am_E ac_X5_lead (0, [vR y, vI n, vI a, vI b, vI p, vU, vU, vU, vU], [], aq_h m s F c) (aq_Z m s F S c (fun r d => r = some (vI (fst_ n f g p)) ∧ ((∀ i, c (y + 13) i = 1 → d (y + 13) i = 1) ∧ mkd n f g (d (y + 13)) 5 (decide (p < n)) p) ∧ ∀ q, 0 ≤ q → q < 4 → d (y + 13) q = fv_ n f g 5 (decide (p < n)) p w q)) := by
  have hx := ld_ex hn4 hfi hgi h0 h1
  refine am_E.go (t2 := (2, [vR y, vI n, vI a, vI b, vI p, vU, vU, vU, vU], [vI p], aq_h m s F c)) rfl rfl ?_
  refine am_E.go (t2 := (3, [vR y, vI n, vI a, vI b, vI p, vU, vU, vU, vU], [vI n, vI p], aq_h m s F c)) rfl rfl ?_
  refine ae_icmp rfl (fun (q_1 : n ≤ p) => ?_) (fun (q_1 : p < n) => ?_)
  · refine am_E.go (t2 := (11, [vR y, vI n, vI a, vI b, vI p, vU, vU, vU, vU], [vI 0], aq_h m s F c)) rfl rfl ?_
    refine am_E.go (t2 := (13, [vR y, vI n, vI a, vI b, vI p, vI 0, vU, vU, vU], [], aq_h m s F c)) rfl rfl ?_
    refine am_E.go (t2 := (15, [vR y, vI n, vI a, vI b, vI p, vI 0, vU, vU, vU], [vI p], aq_h m s F c)) rfl rfl ?_
    refine am_E.go (t2 := (17, [vR y, vI n, vI a, vI b, vI p, vI 0, vI p, vU, vU], [], aq_h m s F c)) rfl rfl ?_
    rw [decide_eq_false (show ¬ p < n by omega)] at hx ⊢
    have e5 : fst_ n f g p = ldr n f g 5 false p := by unfold fst_; rw [decide_eq_false (show ¬ p < n by omega)]
    exact qz_lead_l (Q := fun w => (∀ i, c (y + 13) i = 1 → w i = 1) ∧ mkd n f g w 5 false p) hO hS13 hT1 hn1 hn4 ha0 ha1 hb0 hb1 hf hg hfi hgi 5 false p w _ _ c aq_sm0 hw h0 h1 hx e5.symm rfl (fun w w1 w2 => ⟨w1, w2⟩)
  · refine am_E.go (t2 := (7, [vR y, vI n, vI a, vI b, vI p, vU, vU, vU, vU], [vI 1], aq_h m s F c)) rfl rfl ?_
    refine am_E.go (t2 := (11, [vR y, vI n, vI a, vI b, vI p, vU, vU, vU, vU], [vI 1], aq_h m s F c)) rfl rfl ?_
    refine am_E.go (t2 := (13, [vR y, vI n, vI a, vI b, vI p, vI 1, vU, vU, vU], [], aq_h m s F c)) rfl rfl ?_
    refine am_E.go (t2 := (15, [vR y, vI n, vI a, vI b, vI p, vI 1, vU, vU, vU], [vI p], aq_h m s F c)) rfl rfl ?_
    refine am_E.go (t2 := (17, [vR y, vI n, vI a, vI b, vI p, vI 1, vI p, vU, vU], [], aq_h m s F c)) rfl rfl ?_
    rw [decide_eq_true (show p < n by omega)] at hx ⊢
    have e5 : fst_ n f g p = ldr n f g 5 true p := by unfold fst_; rw [decide_eq_true (show p < n by omega)]
    exact qz_lead_l (Q := fun w => (∀ i, c (y + 13) i = 1 → w i = 1) ∧ mkd n f g w 5 true p) hO hS13 hT1 hn1 hn4 ha0 ha1 hb0 hb1 hf hg hfi hgi 5 true p w _ _ c aq_sm0 hw h0 h1 hx e5.symm rfl (fun w w1 w2 => ⟨w1, w2⟩)

theorem qz_stacked_3 {m s : Nat} {F : aq_F} {c0 : aq_C} {S : Nat → Prop} {y : Nat} (hO : mo_0 m F y) (hS0 : S y) (hS12 : S (y + 12)) (hS13 : S (y + 13)) {tbl : Int → Int} (hT : mo_T F y tbl) {n bb cc : Int} (hn1 : 1 ≤ n) (hn4 : n ≤ 4) (hb0 : 0 ≤ bb) (hb1 : bb < bx_K n) (hc0 : 0 ≤ cc) (hc1 : cc < bx_K n) {xa xb : Int} (hxa : xa = 8 * (mo_f n + bb)) (hxb : xb = 8 * (mo_f n + cc)) {T : Int} : ∀ (d : Nat) (w : Int → Int) (x : Int) (k : Int) (v7 : am_V) (v8 : am_V) (v9 : am_V) (c : aq_C) (hs : aq_sm S c0 c) (h0 : 0 ≤ k) (h1 : k ≤ n) (hr0 : 0 ≤ c y 15) (hr1 : c y 15 ≤ k) (hob : mo_k y c0 c) (hmk : mo_mk y n (prt n bb) (prt n cc) (2 * n) c) (hmd : mo_md y (fst_ n (prt n bb) (prt n cc)) (2 * n) c) (hw : ∀ q, 0 ≤ q → q < 4 → c (y + 13) q = w q) (hx : c y 15 = x) (ht : rk_ n (prt n bb) (prt n cc) d k x w = T) (hd : n - k < (d : Int)), am_E ac_X5_stacked (80, [vR y, vI n, vI bb, vI cc, vI xa, vI xb, vI k, v7, v8, v9], [], aq_h m s F c) (aq_Z m s F S c0 (fun r d => ∃ v, r = some (vI v) ∧ 0 ≤ v ∧ v < bx_K n ∧ 0 ≤ d y 15 ∧ d y 15 ≤ n ∧ mo_k y c0 d ∧ d y 15 = T ∧ ∀ i, 0 ≤ i → i < 2 * n → prt n v i = fst_ n (prt n bb) (prt n cc) i))
  | 0, w, x, k, v7, v8, v9, c, hs, h0, h1, hr0, hr1, hob, hmk, hmd, hw, hx, ht, hd => by exfalso; omega
  | d + 1, w, x, k, v7, v8, v9, c, hs, h0, h1, hr0, hr1, hob, hmk, hmd, hw, hx, ht, hd => by
    obtain ⟨hm, hFo, hG5, hG6, hG7, hG8, hG9, hG10, hG11, hG12, hG13, hG14, hG15, hG16, hG17, hG18, hG19, hG20, hG21, hG22, hG23⟩ := hO
    obtain ⟨hT1, hTt⟩ := hT
    have hfs := mo_fs n
    have hfi := pr_fi hn1 hn4 hb0 hb1
    have hgi := pr_fi hn1 hn4 hc0 hc1
    refine am_E.go (t2 := (82, [vR y, vI n, vI bb, vI cc, vI xa, vI xb, vI k, v7, v8, v9], [vI k], aq_h m s F c)) rfl rfl ?_
    refine am_E.go (t2 := (83, [vR y, vI n, vI bb, vI cc, vI xa, vI xb, vI k, v7, v8, v9], [vI n, vI k], aq_h m s F c)) rfl rfl ?_
    refine ae_icmp rfl (fun (q_1 : n ≤ k) => ?_) (fun (q_1 : k < n) => ?_)
    · refine am_E.go (t2 := (186, [vR y, vI n, vI bb, vI cc, vI xa, vI xb, vI k, v7, v8, v9], [vR y], aq_h m s F c)) rfl rfl ?_
      refine am_E.go (t2 := (187, [vR y, vI n, vI bb, vI cc, vI xa, vI xb, vI k, v7, v8, v9], [vI n, vR y], aq_h m s F c)) rfl rfl ?_
      refine aq_callv (y := 2) (as2 := [vI n]) (rest := []) rfl rfl (by decide) (Nat.le_of_ble_eq_true rfl) rfl rfl (Nat.le_of_ble_eq_true rfl) (by omega) hFo rfl (Nat.le_of_ble_eq_true rfl) (qm_numberOf ⟨hm, hFo, hG5, hG6, hG7, hG8, hG9, hG10, hG11, hG12, hG13, hG14, hG15, hG16, hG17, hG18, hG19, hG20, hG21, hG22, hG23⟩ ⟨hT1, hTt⟩ hn1 hn4) ?_
      rintro r5 h5 ⟨rfl, v_fin, rfl, hv_fin⟩
      show am_E _ (190, [vR y, vI n, vI bb, vI cc, vI xa, vI xb, vI k, v7, v8, v9], [vI v_fin], aq_h m s F c) _
      refine am_E.ret rfl rfl ?_
      refine ⟨_, rfl, hs, _, rfl, ?_⟩
      rcases hv_fin with ⟨h5, h6, h7⟩ | ⟨_, h7⟩
      · exact ⟨h5, h6, hr0, by omega, hob, by rw [hx, ← ht, rk_, if_neg (by omega)], fun i h8 h9 => by rw [h7 i h8 h9]; exact hmd i h8 h9⟩
      · exfalso
        obtain ⟨b5, h8, h9, hA⟩ := pr_c hn1 hn4 (fi_st hn4 hfi hgi)
        obtain ⟨i, hB, hC, hD⟩ := h7 b5 h8 h9
        exact hD (by rw [hA i hB hC, hmd i hB hC])
    · refine am_E.go (t2 := (87, [vR y, vI n, vI bb, vI cc, vI xa, vI xb, vI k, v7, v8, v9], [vR y], aq_h m s F c)) rfl rfl ?_
      refine aq_gf (v := vR (y + 13)) rfl (by omega) hFo (by decide) rfl ?_
      show am_E _ (90, [vR y, vI n, vI bb, vI cc, vI xa, vI xb, vI k, v7, v8, v9], [vR (y + 13)], aq_h m s F c) _
      refine am_E.go (t2 := (92, [vR y, vI n, vI bb, vI cc, vI xa, vI xb, vI k, v7, v8, v9], [vI k, vR (y + 13)], aq_h m s F c)) rfl rfl ?_
      refine aq_al (ok := fun k => k == 1) (v := vI (c (y + 13) k)) rfl rfl (by omega) hG13 rfl (by omega) (by omega) rfl ?_
      show am_E _ (93, [vR y, vI n, vI bb, vI cc, vI xa, vI xb, vI k, v7, v8, v9], [vI (c (y + 13) k)], aq_h m s F c) _
      have f_2 := hw k (by omega) (by omega)
      refine ae_if0 rfl (fun (q_3 : (c (y + 13) k) ≠ 0) => ?_) (fun (q_3 : (c (y + 13) k) = 0) => ?_)
      · refine ae_iinc rfl rfl (am_ri (by omega) (by omega)) ?_
        show am_E _ (182, [vR y, vI n, vI bb, vI cc, vI xa, vI xb, vI (k + 1), v7, v8, v9], [], aq_h m s F c) _
        refine am_E.go (t2 := (80, [vR y, vI n, vI bb, vI cc, vI xa, vI xb, vI (k + 1), v7, v8, v9], [], aq_h m s F c)) rfl rfl ?_
        exact qz_stacked_3 ⟨hm, hFo, hG5, hG6, hG7, hG8, hG9, hG10, hG11, hG12, hG13, hG14, hG15, hG16, hG17, hG18, hG19, hG20, hG21, hG22, hG23⟩ hS0 hS12 hS13 ⟨hT1, hTt⟩ hn1 hn4 hb0 hb1 hc0 hc1 hxa hxb d w x (k + 1) (v7) (v8) (v9) c hs (by omega) (by omega) hr0 (by omega) hob hmk hmd hw hx (by rw [← ht, rk_, if_pos (by omega)]; first | rw [if_neg (by omega)] | rw [if_pos (by omega), rj_, if_pos (by omega)] | rw [if_pos (by omega), rj_, if_neg (by omega), rj_, if_pos (by omega)]) (by omega)
      · have hring := mk_ring hn4 hfi hgi hmk h0 (by omega) (by omega)
        refine am_E.go (t2 := (97, [vR y, vI n, vI bb, vI cc, vI xa, vI xb, vI k, v7, v8, v9], [vR y], aq_h m s F c)) rfl rfl ?_
        refine am_E.go (t2 := (98, [vR y, vI n, vI bb, vI cc, vI xa, vI xb, vI k, v7, v8, v9], [vR y, vR y], aq_h m s F c)) rfl rfl ?_
        refine aq_gf (v := vI (c y 15)) rfl (by omega) hFo (by decide) rfl ?_
        show am_E _ (101, [vR y, vI n, vI bb, vI cc, vI xa, vI xb, vI k, v7, v8, v9], [vI (c y 15), vR y], aq_h m s F c) _
        skip
        refine am_E.go (t2 := (102, [vR y, vI n, vI bb, vI cc, vI xa, vI xb, vI k, v7, v8, v9], [vI 1, vI (c y 15), vR y], aq_h m s F c)) rfl rfl ?_
        refine ae_add rfl (am_ri (by omega) (by omega)) ?_
        show am_E _ (103, [vR y, vI n, vI bb, vI cc, vI xa, vI xb, vI k, v7, v8, v9], [vI ((c y 15) + 1), vR y], aq_h m s F c) _
        refine aq_pf rfl (by omega) hFo (by decide) rfl rfl ?_
        show am_E _ (106, [vR y, vI n, vI bb, vI cc, vI xa, vI xb, vI k, v7, v8, v9], [], aq_h m s F (aq_u c y 15 ((c y 15) + 1))) _
        generalize hdc_5 : aq_u c y 15 ((c y 15) + 1) = c_5
        have sc_5 := aq_smu hs hdc_5 hS0
        have hobc_5 := mo_ku hob hdc_5 (Or.inr (by decide))
        have hmkc_5 := mo_mkn hmk hdc_5 (by omega)
        have hmdc_5 := mo_mdn hmd hdc_5 (by omega)
        have r0c_5 : 0 ≤ c_5 y 15 ∧ c_5 y 15 ≤ k + 1 := by rw [← hdc_5, aq_us]; omega
        have wc_5 : ∀ q, 0 ≤ q → q < 4 → c_5 (y + 13) q = w q := fun q q0 q1 => by rw [← hdc_5, aq_un (Or.inl (by omega))]; exact hw q q0 q1
        have xc_5 : c_5 y 15 = (x + 1) := by rw [← hdc_5, aq_us, hx]
        refine am_E.go (t2 := (108, [vR y, vI n, vI bb, vI cc, vI xa, vI xb, vI k, v7, v8, v9], [vI k], aq_h m s F c_5)) rfl rfl ?_
        refine am_E.go (t2 := (110, [vR y, vI n, vI bb, vI cc, vI xa, vI xb, vI k, vI k, v8, v9], [], aq_h m s F c_5)) rfl rfl ?_
        refine am_E.go (t2 := (111, [vR y, vI n, vI bb, vI cc, vI xa, vI xb, vI k, vI k, v8, v9], [vI 1], aq_h m s F c_5)) rfl rfl ?_
        refine am_E.go (t2 := (113, [vR y, vI n, vI bb, vI cc, vI xa, vI xb, vI k, vI k, vI 1, v9], [], aq_h m s F c_5)) rfl rfl ?_
        refine am_E.go (t2 := (115, [vR y, vI n, vI bb, vI cc, vI xa, vI xb, vI k, vI k, vI 1, v9], [vI 1], aq_h m s F c_5)) rfl rfl ?_
        refine am_E.go (t2 := (118, [vR y, vI n, vI bb, vI cc, vI xa, vI xb, vI k, vI k, vI 1, v9], [], aq_h m s F c_5)) rfl rfl ?_
        refine am_E.go (t2 := (119, [vR y, vI n, vI bb, vI cc, vI xa, vI xb, vI k, vI k, vI 1, v9], [vR y], aq_h m s F c_5)) rfl rfl ?_
        refine aq_gf (v := vR (y + 13)) rfl (by omega) hFo (by decide) rfl ?_
        show am_E _ (122, [vR y, vI n, vI bb, vI cc, vI xa, vI xb, vI k, vI k, vI 1, v9], [vR (y + 13)], aq_h m s F c_5) _
        refine am_E.go (t2 := (124, [vR y, vI n, vI bb, vI cc, vI xa, vI xb, vI k, vI k, vI 1, v9], [vI k, vR (y + 13)], aq_h m s F c_5)) rfl rfl ?_
        refine am_E.go (t2 := (125, [vR y, vI n, vI bb, vI cc, vI xa, vI xb, vI k, vI k, vI 1, v9], [vI 1, vI k, vR (y + 13)], aq_h m s F c_5)) rfl rfl ?_
        refine aq_as (kd := 1) rfl rfl (by omega) hG13 (by omega) (by omega) rfl rfl ?_
        show am_E _ (126, [vR y, vI n, vI bb, vI cc, vI xa, vI xb, vI k, vI k, vI 1, v9], [], aq_h m s F (aq_u c_5 (y + 13) k 1)) _
        generalize hdc_6 : aq_u c_5 (y + 13) k 1 = c_6
        have sc_6 := aq_smu sc_5 hdc_6 (hS13)
        have hobc_6 := mo_ku hobc_5 hdc_6 (Or.inl (by omega))
        have hmkc_6 := mo_mku hmkc_5 hdc_6
        have hmdc_6 := mo_mdn hmdc_5 hdc_6 (by omega)
        have r0c_6 : 0 ≤ c_6 y 15 ∧ c_6 y 15 ≤ k + 1 := by rw [← hdc_6, aq_un (Or.inl (by omega))]; exact r0c_5
        have wc_6 := dc_ac2 wc_5 hdc_6
        have xc_6 : c_6 y 15 = (x + 1) := by rw [← hdc_6, aq_un (Or.inl (by omega))]; exact xc_5
        refine am_E.go (t2 := (127, [vR y, vI n, vI bb, vI cc, vI xa, vI xb, vI k, vI k, vI 1, v9], [vR y], aq_h m s F c_6)) rfl rfl ?_
        refine aq_gf (v := vR (y + 1)) rfl (by omega) hFo (by decide) rfl ?_
        show am_E _ (130, [vR y, vI n, vI bb, vI cc, vI xa, vI xb, vI k, vI k, vI 1, v9], [vR (y + 1)], aq_h m s F c_6) _
        refine am_E.go (t2 := (132, [vR y, vI n, vI bb, vI cc, vI xa, vI xb, vI k, vI k, vI 1, v9], [vI xb, vR (y + 1)], aq_h m s F c_6)) rfl rfl ?_
        refine am_E.go (t2 := (134, [vR y, vI n, vI bb, vI cc, vI xa, vI xb, vI k, vI k, vI 1, v9], [vI k, vI xb, vR (y + 1)], aq_h m s F c_6)) rfl rfl ?_
        refine ae_add rfl (am_ri (by omega) (by omega)) ?_
        show am_E _ (135, [vR y, vI n, vI bb, vI cc, vI xa, vI xb, vI k, vI k, vI 1, v9], [vI (xb + k), vR (y + 1)], aq_h m s F c_6) _
        have e_t := hTt n cc k (by omega) (by omega) (by omega) (by omega) (by omega) (by omega)
        have e_f := hgi k (by omega) (by omega)
        refine aq_alt (ok := fun k => k == 0) rfl rfl (by omega) hT1 rfl (by omega) (by omega) ?_
        rw [hxb, e_t, ← hxb]
        show am_E _ (136, [vR y, vI n, vI bb, vI cc, vI xa, vI xb, vI k, vI k, vI 1, v9], [vI (prt n cc k)], aq_h m s F c_6) _
        refine am_E.go (t2 := (138, [vR y, vI n, vI bb, vI cc, vI xa, vI xb, vI k, vI k, vI 1, vI (prt n cc k)], [], aq_h m s F c_6)) rfl rfl ?_
        refine am_E.go (t2 := (139, [vR y, vI n, vI bb, vI cc, vI xa, vI xb, vI k, vI k, vI 1, vI (prt n cc k)], [vR y], aq_h m s F c_6)) rfl rfl ?_
        refine aq_gf (v := vR (y + 13)) rfl (by omega) hFo (by decide) rfl ?_
        show am_E _ (142, [vR y, vI n, vI bb, vI cc, vI xa, vI xb, vI k, vI k, vI 1, vI (prt n cc k)], [vR (y + 13)], aq_h m s F c_6) _
        refine am_E.go (t2 := (144, [vR y, vI n, vI bb, vI cc, vI xa, vI xb, vI k, vI k, vI 1, vI (prt n cc k)], [vI (prt n cc k), vR (y + 13)], aq_h m s F c_6)) rfl rfl ?_
        refine am_E.go (t2 := (145, [vR y, vI n, vI bb, vI cc, vI xa, vI xb, vI k, vI k, vI 1, vI (prt n cc k)], [vI 1, vI (prt n cc k), vR (y + 13)], aq_h m s F c_6)) rfl rfl ?_
        refine aq_as (kd := 1) rfl rfl (by omega) hG13 (by omega) (by omega) rfl rfl ?_
        show am_E _ (146, [vR y, vI n, vI bb, vI cc, vI xa, vI xb, vI k, vI k, vI 1, vI (prt n cc k)], [], aq_h m s F (aq_u c_6 (y + 13) (prt n cc k) 1)) _
        generalize hdc_7 : aq_u c_6 (y + 13) (prt n cc k) 1 = c_7
        have sc_7 := aq_smu sc_6 hdc_7 (hS13)
        have hobc_7 := mo_ku hobc_6 hdc_7 (Or.inl (by omega))
        have hmkc_7 := mo_mku hmkc_6 hdc_7
        have hmdc_7 := mo_mdn hmdc_6 hdc_7 (by omega)
        have r0c_7 : 0 ≤ c_7 y 15 ∧ c_7 y 15 ≤ k + 1 := by rw [← hdc_7, aq_un (Or.inl (by omega))]; exact r0c_6
        have wc_7 := dc_ac2 wc_6 hdc_7
        have xc_7 : c_7 y 15 = (x + 1) := by rw [← hdc_7, aq_un (Or.inl (by omega))]; exact xc_6
        refine am_E.go (t2 := (147, [vR y, vI n, vI bb, vI cc, vI xa, vI xb, vI k, vI k, vI 1, vI (prt n cc k)], [vR y], aq_h m s F c_7)) rfl rfl ?_
        refine aq_gf (v := vR (y + 1)) rfl (by omega) hFo (by decide) rfl ?_
        show am_E _ (150, [vR y, vI n, vI bb, vI cc, vI xa, vI xb, vI k, vI k, vI 1, vI (prt n cc k)], [vR (y + 1)], aq_h m s F c_7) _
        refine am_E.go (t2 := (152, [vR y, vI n, vI bb, vI cc, vI xa, vI xb, vI k, vI k, vI 1, vI (prt n cc k)], [vI xa, vR (y + 1)], aq_h m s F c_7)) rfl rfl ?_
        refine am_E.go (t2 := (153, [vR y, vI n, vI bb, vI cc, vI xa, vI xb, vI k, vI k, vI 1, vI (prt n cc k)], [vI n, vI xa, vR (y + 1)], aq_h m s F c_7)) rfl rfl ?_
        refine ae_add rfl (am_ri (by omega) (by omega)) ?_
        show am_E _ (154, [vR y, vI n, vI bb, vI cc, vI xa, vI xb, vI k, vI k, vI 1, vI (prt n cc k)], [vI (xa + n), vR (y + 1)], aq_h m s F c_7) _
        refine am_E.go (t2 := (156, [vR y, vI n, vI bb, vI cc, vI xa, vI xb, vI k, vI k, vI 1, vI (prt n cc k)], [vI (prt n cc k), vI (xa + n), vR (y + 1)], aq_h m s F c_7)) rfl rfl ?_
        refine ae_add rfl (am_ri (by omega) (by omega)) ?_
        show am_E _ (157, [vR y, vI n, vI bb, vI cc, vI xa, vI xb, vI k, vI k, vI 1, vI (prt n cc k)], [vI ((xa + n) + (prt n cc k)), vR (y + 1)], aq_h m s F c_7) _
        have e_t := hTt n bb (n + (prt n cc k)) (by omega) (by omega) (by omega) (by omega) (by omega) (by omega)
        have e_f := hfi (n + (prt n cc k)) (by omega) (by omega)
        refine aq_alt (ok := fun k => k == 0) rfl rfl (by omega) hT1 rfl (by omega) (by omega) ?_
        rw [Int.add_assoc, hxa, e_t, ← hxa]
        show am_E _ (158, [vR y, vI n, vI bb, vI cc, vI xa, vI xb, vI k, vI k, vI 1, vI (prt n cc k)], [vI (prt n bb (n + (prt n cc k)))], aq_h m s F c_7) _
        refine am_E.go (t2 := (159, [vR y, vI n, vI bb, vI cc, vI xa, vI xb, vI k, vI k, vI 1, vI (prt n cc k)], [vI n, vI (prt n bb (n + (prt n cc k)))], aq_h m s F c_7)) rfl rfl ?_
        refine ae_sub rfl (am_ri (by omega) (by omega)) ?_
        show am_E _ (160, [vR y, vI n, vI bb, vI cc, vI xa, vI xb, vI k, vI k, vI 1, vI (prt n cc k)], [vI ((prt n bb (n + (prt n cc k))) - n)], aq_h m s F c_7) _
        refine am_E.go (t2 := (162, [vR y, vI n, vI bb, vI cc, vI xa, vI xb, vI k, vI ((prt n bb (n + (prt n cc k))) - n), vI 1, vI (prt n cc k)], [], aq_h m s F c_7)) rfl rfl ?_
        refine am_E.go (t2 := (164, [vR y, vI n, vI bb, vI cc, vI xa, vI xb, vI k, vI ((prt n bb (n + (prt n cc k))) - n), vI 1, vI (prt n cc k)], [vI ((prt n bb (n + (prt n cc k))) - n)], aq_h m s F c_7)) rfl rfl ?_
        refine am_E.go (t2 := (166, [vR y, vI n, vI bb, vI cc, vI xa, vI xb, vI k, vI ((prt n bb (n + (prt n cc k))) - n), vI 1, vI (prt n cc k)], [vI k, vI ((prt n bb (n + (prt n cc k))) - n)], aq_h m s F c_7)) rfl rfl ?_
        refine ae_icmp rfl (fun (q_8 : ((prt n bb (n + (prt n cc k))) - n) = k) => ?_) (fun (q_8 : ((prt n bb (n + (prt n cc k))) - n) ≠ k) => ?_)
        · refine am_E.go (t2 := (174, [vR y, vI n, vI bb, vI cc, vI xa, vI xb, vI k, vI ((prt n bb (n + (prt n cc k))) - n), vI 1, vI (prt n cc k)], [vI 0], aq_h m s F c_7)) rfl rfl ?_
          refine am_E.go (t2 := (176, [vR y, vI n, vI bb, vI cc, vI xa, vI xb, vI k, vI ((prt n bb (n + (prt n cc k))) - n), vI 0, vI (prt n cc k)], [], aq_h m s F c_7)) rfl rfl ?_
          refine am_E.go (t2 := (113, [vR y, vI n, vI bb, vI cc, vI xa, vI xb, vI k, vI ((prt n bb (n + (prt n cc k))) - n), vI 0, vI (prt n cc k)], [], aq_h m s F c_7)) rfl rfl ?_
          refine am_E.go (t2 := (115, [vR y, vI n, vI bb, vI cc, vI xa, vI xb, vI k, vI ((prt n bb (n + (prt n cc k))) - n), vI 0, vI (prt n cc k)], [vI 0], aq_h m s F c_7)) rfl rfl ?_
          refine am_E.go (t2 := (179, [vR y, vI n, vI bb, vI cc, vI xa, vI xb, vI k, vI ((prt n bb (n + (prt n cc k))) - n), vI 0, vI (prt n cc k)], [], aq_h m s F c_7)) rfl rfl ?_
          refine ae_iinc rfl rfl (am_ri (by omega) (by omega)) ?_
          show am_E _ (182, [vR y, vI n, vI bb, vI cc, vI xa, vI xb, vI (k + 1), vI ((prt n bb (n + (prt n cc k))) - n), vI 0, vI (prt n cc k)], [], aq_h m s F c_7) _
          refine am_E.go (t2 := (80, [vR y, vI n, vI bb, vI cc, vI xa, vI xb, vI (k + 1), vI ((prt n bb (n + (prt n cc k))) - n), vI 0, vI (prt n cc k)], [], aq_h m s F c_7)) rfl rfl ?_
          exact qz_stacked_3 ⟨hm, hFo, hG5, hG6, hG7, hG8, hG9, hG10, hG11, hG12, hG13, hG14, hG15, hG16, hG17, hG18, hG19, hG20, hG21, hG22, hG23⟩ hS0 hS12 hS13 ⟨hT1, hTt⟩ hn1 hn4 hb0 hb1 hc0 hc1 hxa hxb d (dc_u (dc_u w k) (prt n cc k)) (x + 1) (k + 1) (vI ((prt n bb (n + (prt n cc k))) - n)) (vI 0) (vI (prt n cc k)) c_7 sc_7 (by omega) (by omega) r0c_7.1 r0c_7.2 hobc_7 hmkc_7 hmdc_7 wc_7 xc_7 (by rw [← ht, rk_, if_pos (by omega)]; first | rw [if_neg (by omega)] | rw [if_pos (by omega), rj_, if_pos (by omega)] | rw [if_pos (by omega), rj_, if_neg (by omega), rj_, if_pos (by omega)]) (by omega)
        · have rr := hring.2.2.resolve_left (by omega)
          refine am_E.go (t2 := (170, [vR y, vI n, vI bb, vI cc, vI xa, vI xb, vI k, vI ((prt n bb (n + (prt n cc k))) - n), vI 1, vI (prt n cc k)], [vI 1], aq_h m s F c_7)) rfl rfl ?_
          refine am_E.go (t2 := (174, [vR y, vI n, vI bb, vI cc, vI xa, vI xb, vI k, vI ((prt n bb (n + (prt n cc k))) - n), vI 1, vI (prt n cc k)], [vI 1], aq_h m s F c_7)) rfl rfl ?_
          refine am_E.go (t2 := (176, [vR y, vI n, vI bb, vI cc, vI xa, vI xb, vI k, vI ((prt n bb (n + (prt n cc k))) - n), vI 1, vI (prt n cc k)], [], aq_h m s F c_7)) rfl rfl ?_
          refine am_E.go (t2 := (113, [vR y, vI n, vI bb, vI cc, vI xa, vI xb, vI k, vI ((prt n bb (n + (prt n cc k))) - n), vI 1, vI (prt n cc k)], [], aq_h m s F c_7)) rfl rfl ?_
          refine am_E.go (t2 := (115, [vR y, vI n, vI bb, vI cc, vI xa, vI xb, vI k, vI ((prt n bb (n + (prt n cc k))) - n), vI 1, vI (prt n cc k)], [vI 1], aq_h m s F c_7)) rfl rfl ?_
          refine am_E.go (t2 := (118, [vR y, vI n, vI bb, vI cc, vI xa, vI xb, vI k, vI ((prt n bb (n + (prt n cc k))) - n), vI 1, vI (prt n cc k)], [], aq_h m s F c_7)) rfl rfl ?_
          refine am_E.go (t2 := (119, [vR y, vI n, vI bb, vI cc, vI xa, vI xb, vI k, vI ((prt n bb (n + (prt n cc k))) - n), vI 1, vI (prt n cc k)], [vR y], aq_h m s F c_7)) rfl rfl ?_
          refine aq_gf (v := vR (y + 13)) rfl (by omega) hFo (by decide) rfl ?_
          show am_E _ (122, [vR y, vI n, vI bb, vI cc, vI xa, vI xb, vI k, vI ((prt n bb (n + (prt n cc k))) - n), vI 1, vI (prt n cc k)], [vR (y + 13)], aq_h m s F c_7) _
          refine am_E.go (t2 := (124, [vR y, vI n, vI bb, vI cc, vI xa, vI xb, vI k, vI ((prt n bb (n + (prt n cc k))) - n), vI 1, vI (prt n cc k)], [vI ((prt n bb (n + (prt n cc k))) - n), vR (y + 13)], aq_h m s F c_7)) rfl rfl ?_
          refine am_E.go (t2 := (125, [vR y, vI n, vI bb, vI cc, vI xa, vI xb, vI k, vI ((prt n bb (n + (prt n cc k))) - n), vI 1, vI (prt n cc k)], [vI 1, vI ((prt n bb (n + (prt n cc k))) - n), vR (y + 13)], aq_h m s F c_7)) rfl rfl ?_
          refine aq_as (kd := 1) rfl rfl (by omega) hG13 (by omega) (by omega) rfl rfl ?_
          show am_E _ (126, [vR y, vI n, vI bb, vI cc, vI xa, vI xb, vI k, vI ((prt n bb (n + (prt n cc k))) - n), vI 1, vI (prt n cc k)], [], aq_h m s F (aq_u c_7 (y + 13) ((prt n bb (n + (prt n cc k))) - n) 1)) _
          generalize hdc_9 : aq_u c_7 (y + 13) ((prt n bb (n + (prt n cc k))) - n) 1 = c_9
          have sc_9 := aq_smu sc_7 hdc_9 (hS13)
          have hobc_9 := mo_ku hobc_7 hdc_9 (Or.inl (by omega))
          have hmkc_9 := mo_mku hmkc_7 hdc_9
          have hmdc_9 := mo_mdn hmdc_7 hdc_9 (by omega)
          have r0c_9 : 0 ≤ c_9 y 15 ∧ c_9 y 15 ≤ k + 1 := by rw [← hdc_9, aq_un (Or.inl (by omega))]; exact r0c_7
          have wc_9 := dc_ac2 wc_7 hdc_9
          have xc_9 : c_9 y 15 = (x + 1) := by rw [← hdc_9, aq_un (Or.inl (by omega))]; exact xc_7
          refine am_E.go (t2 := (127, [vR y, vI n, vI bb, vI cc, vI xa, vI xb, vI k, vI ((prt n bb (n + (prt n cc k))) - n), vI 1, vI (prt n cc k)], [vR y], aq_h m s F c_9)) rfl rfl ?_
          refine aq_gf (v := vR (y + 1)) rfl (by omega) hFo (by decide) rfl ?_
          show am_E _ (130, [vR y, vI n, vI bb, vI cc, vI xa, vI xb, vI k, vI ((prt n bb (n + (prt n cc k))) - n), vI 1, vI (prt n cc k)], [vR (y + 1)], aq_h m s F c_9) _
          refine am_E.go (t2 := (132, [vR y, vI n, vI bb, vI cc, vI xa, vI xb, vI k, vI ((prt n bb (n + (prt n cc k))) - n), vI 1, vI (prt n cc k)], [vI xb, vR (y + 1)], aq_h m s F c_9)) rfl rfl ?_
          refine am_E.go (t2 := (134, [vR y, vI n, vI bb, vI cc, vI xa, vI xb, vI k, vI ((prt n bb (n + (prt n cc k))) - n), vI 1, vI (prt n cc k)], [vI ((prt n bb (n + (prt n cc k))) - n), vI xb, vR (y + 1)], aq_h m s F c_9)) rfl rfl ?_
          refine ae_add rfl (am_ri (by omega) (by omega)) ?_
          show am_E _ (135, [vR y, vI n, vI bb, vI cc, vI xa, vI xb, vI k, vI ((prt n bb (n + (prt n cc k))) - n), vI 1, vI (prt n cc k)], [vI (xb + ((prt n bb (n + (prt n cc k))) - n)), vR (y + 1)], aq_h m s F c_9) _
          have e_t := hTt n cc ((prt n bb (n + (prt n cc k))) - n) (by omega) (by omega) (by omega) (by omega) (by omega) (by omega)
          have e_f := hgi ((prt n bb (n + (prt n cc k))) - n) (by omega) (by omega)
          refine aq_alt (ok := fun k => k == 0) rfl rfl (by omega) hT1 rfl (by omega) (by omega) ?_
          rw [hxb, e_t, ← hxb]
          show am_E _ (136, [vR y, vI n, vI bb, vI cc, vI xa, vI xb, vI k, vI ((prt n bb (n + (prt n cc k))) - n), vI 1, vI (prt n cc k)], [vI (prt n cc ((prt n bb (n + (prt n cc k))) - n))], aq_h m s F c_9) _
          refine am_E.go (t2 := (138, [vR y, vI n, vI bb, vI cc, vI xa, vI xb, vI k, vI ((prt n bb (n + (prt n cc k))) - n), vI 1, vI (prt n cc ((prt n bb (n + (prt n cc k))) - n))], [], aq_h m s F c_9)) rfl rfl ?_
          refine am_E.go (t2 := (139, [vR y, vI n, vI bb, vI cc, vI xa, vI xb, vI k, vI ((prt n bb (n + (prt n cc k))) - n), vI 1, vI (prt n cc ((prt n bb (n + (prt n cc k))) - n))], [vR y], aq_h m s F c_9)) rfl rfl ?_
          refine aq_gf (v := vR (y + 13)) rfl (by omega) hFo (by decide) rfl ?_
          show am_E _ (142, [vR y, vI n, vI bb, vI cc, vI xa, vI xb, vI k, vI ((prt n bb (n + (prt n cc k))) - n), vI 1, vI (prt n cc ((prt n bb (n + (prt n cc k))) - n))], [vR (y + 13)], aq_h m s F c_9) _
          refine am_E.go (t2 := (144, [vR y, vI n, vI bb, vI cc, vI xa, vI xb, vI k, vI ((prt n bb (n + (prt n cc k))) - n), vI 1, vI (prt n cc ((prt n bb (n + (prt n cc k))) - n))], [vI (prt n cc ((prt n bb (n + (prt n cc k))) - n)), vR (y + 13)], aq_h m s F c_9)) rfl rfl ?_
          refine am_E.go (t2 := (145, [vR y, vI n, vI bb, vI cc, vI xa, vI xb, vI k, vI ((prt n bb (n + (prt n cc k))) - n), vI 1, vI (prt n cc ((prt n bb (n + (prt n cc k))) - n))], [vI 1, vI (prt n cc ((prt n bb (n + (prt n cc k))) - n)), vR (y + 13)], aq_h m s F c_9)) rfl rfl ?_
          refine aq_as (kd := 1) rfl rfl (by omega) hG13 (by omega) (by omega) rfl rfl ?_
          show am_E _ (146, [vR y, vI n, vI bb, vI cc, vI xa, vI xb, vI k, vI ((prt n bb (n + (prt n cc k))) - n), vI 1, vI (prt n cc ((prt n bb (n + (prt n cc k))) - n))], [], aq_h m s F (aq_u c_9 (y + 13) (prt n cc ((prt n bb (n + (prt n cc k))) - n)) 1)) _
          generalize hdc_10 : aq_u c_9 (y + 13) (prt n cc ((prt n bb (n + (prt n cc k))) - n)) 1 = c_10
          have sc_10 := aq_smu sc_9 hdc_10 (hS13)
          have hobc_10 := mo_ku hobc_9 hdc_10 (Or.inl (by omega))
          have hmkc_10 := mo_mku hmkc_9 hdc_10
          have hmdc_10 := mo_mdn hmdc_9 hdc_10 (by omega)
          have r0c_10 : 0 ≤ c_10 y 15 ∧ c_10 y 15 ≤ k + 1 := by rw [← hdc_10, aq_un (Or.inl (by omega))]; exact r0c_9
          have wc_10 := dc_ac2 wc_9 hdc_10
          have xc_10 : c_10 y 15 = (x + 1) := by rw [← hdc_10, aq_un (Or.inl (by omega))]; exact xc_9
          refine am_E.go (t2 := (147, [vR y, vI n, vI bb, vI cc, vI xa, vI xb, vI k, vI ((prt n bb (n + (prt n cc k))) - n), vI 1, vI (prt n cc ((prt n bb (n + (prt n cc k))) - n))], [vR y], aq_h m s F c_10)) rfl rfl ?_
          refine aq_gf (v := vR (y + 1)) rfl (by omega) hFo (by decide) rfl ?_
          show am_E _ (150, [vR y, vI n, vI bb, vI cc, vI xa, vI xb, vI k, vI ((prt n bb (n + (prt n cc k))) - n), vI 1, vI (prt n cc ((prt n bb (n + (prt n cc k))) - n))], [vR (y + 1)], aq_h m s F c_10) _
          refine am_E.go (t2 := (152, [vR y, vI n, vI bb, vI cc, vI xa, vI xb, vI k, vI ((prt n bb (n + (prt n cc k))) - n), vI 1, vI (prt n cc ((prt n bb (n + (prt n cc k))) - n))], [vI xa, vR (y + 1)], aq_h m s F c_10)) rfl rfl ?_
          refine am_E.go (t2 := (153, [vR y, vI n, vI bb, vI cc, vI xa, vI xb, vI k, vI ((prt n bb (n + (prt n cc k))) - n), vI 1, vI (prt n cc ((prt n bb (n + (prt n cc k))) - n))], [vI n, vI xa, vR (y + 1)], aq_h m s F c_10)) rfl rfl ?_
          refine ae_add rfl (am_ri (by omega) (by omega)) ?_
          show am_E _ (154, [vR y, vI n, vI bb, vI cc, vI xa, vI xb, vI k, vI ((prt n bb (n + (prt n cc k))) - n), vI 1, vI (prt n cc ((prt n bb (n + (prt n cc k))) - n))], [vI (xa + n), vR (y + 1)], aq_h m s F c_10) _
          refine am_E.go (t2 := (156, [vR y, vI n, vI bb, vI cc, vI xa, vI xb, vI k, vI ((prt n bb (n + (prt n cc k))) - n), vI 1, vI (prt n cc ((prt n bb (n + (prt n cc k))) - n))], [vI (prt n cc ((prt n bb (n + (prt n cc k))) - n)), vI (xa + n), vR (y + 1)], aq_h m s F c_10)) rfl rfl ?_
          refine ae_add rfl (am_ri (by omega) (by omega)) ?_
          show am_E _ (157, [vR y, vI n, vI bb, vI cc, vI xa, vI xb, vI k, vI ((prt n bb (n + (prt n cc k))) - n), vI 1, vI (prt n cc ((prt n bb (n + (prt n cc k))) - n))], [vI ((xa + n) + (prt n cc ((prt n bb (n + (prt n cc k))) - n))), vR (y + 1)], aq_h m s F c_10) _
          have e_t := hTt n bb (n + (prt n cc ((prt n bb (n + (prt n cc k))) - n))) (by omega) (by omega) (by omega) (by omega) (by omega) (by omega)
          have e_f := hfi (n + (prt n cc ((prt n bb (n + (prt n cc k))) - n))) (by omega) (by omega)
          refine aq_alt (ok := fun k => k == 0) rfl rfl (by omega) hT1 rfl (by omega) (by omega) ?_
          rw [Int.add_assoc, hxa, e_t, ← hxa]
          show am_E _ (158, [vR y, vI n, vI bb, vI cc, vI xa, vI xb, vI k, vI ((prt n bb (n + (prt n cc k))) - n), vI 1, vI (prt n cc ((prt n bb (n + (prt n cc k))) - n))], [vI (prt n bb (n + (prt n cc ((prt n bb (n + (prt n cc k))) - n))))], aq_h m s F c_10) _
          refine am_E.go (t2 := (159, [vR y, vI n, vI bb, vI cc, vI xa, vI xb, vI k, vI ((prt n bb (n + (prt n cc k))) - n), vI 1, vI (prt n cc ((prt n bb (n + (prt n cc k))) - n))], [vI n, vI (prt n bb (n + (prt n cc ((prt n bb (n + (prt n cc k))) - n))))], aq_h m s F c_10)) rfl rfl ?_
          refine ae_sub rfl (am_ri (by omega) (by omega)) ?_
          show am_E _ (160, [vR y, vI n, vI bb, vI cc, vI xa, vI xb, vI k, vI ((prt n bb (n + (prt n cc k))) - n), vI 1, vI (prt n cc ((prt n bb (n + (prt n cc k))) - n))], [vI ((prt n bb (n + (prt n cc ((prt n bb (n + (prt n cc k))) - n)))) - n)], aq_h m s F c_10) _
          refine am_E.go (t2 := (162, [vR y, vI n, vI bb, vI cc, vI xa, vI xb, vI k, vI ((prt n bb (n + (prt n cc ((prt n bb (n + (prt n cc k))) - n)))) - n), vI 1, vI (prt n cc ((prt n bb (n + (prt n cc k))) - n))], [], aq_h m s F c_10)) rfl rfl ?_
          refine am_E.go (t2 := (164, [vR y, vI n, vI bb, vI cc, vI xa, vI xb, vI k, vI ((prt n bb (n + (prt n cc ((prt n bb (n + (prt n cc k))) - n)))) - n), vI 1, vI (prt n cc ((prt n bb (n + (prt n cc k))) - n))], [vI ((prt n bb (n + (prt n cc ((prt n bb (n + (prt n cc k))) - n)))) - n)], aq_h m s F c_10)) rfl rfl ?_
          refine am_E.go (t2 := (166, [vR y, vI n, vI bb, vI cc, vI xa, vI xb, vI k, vI ((prt n bb (n + (prt n cc ((prt n bb (n + (prt n cc k))) - n)))) - n), vI 1, vI (prt n cc ((prt n bb (n + (prt n cc k))) - n))], [vI k, vI ((prt n bb (n + (prt n cc ((prt n bb (n + (prt n cc k))) - n)))) - n)], aq_h m s F c_10)) rfl rfl ?_
          refine ae_icmp rfl (fun (q_11 : ((prt n bb (n + (prt n cc ((prt n bb (n + (prt n cc k))) - n)))) - n) = k) => ?_) (fun (q_11 : ((prt n bb (n + (prt n cc ((prt n bb (n + (prt n cc k))) - n)))) - n) ≠ k) => ?_)
          · refine am_E.go (t2 := (174, [vR y, vI n, vI bb, vI cc, vI xa, vI xb, vI k, vI ((prt n bb (n + (prt n cc ((prt n bb (n + (prt n cc k))) - n)))) - n), vI 1, vI (prt n cc ((prt n bb (n + (prt n cc k))) - n))], [vI 0], aq_h m s F c_10)) rfl rfl ?_
            refine am_E.go (t2 := (176, [vR y, vI n, vI bb, vI cc, vI xa, vI xb, vI k, vI ((prt n bb (n + (prt n cc ((prt n bb (n + (prt n cc k))) - n)))) - n), vI 0, vI (prt n cc ((prt n bb (n + (prt n cc k))) - n))], [], aq_h m s F c_10)) rfl rfl ?_
            refine am_E.go (t2 := (113, [vR y, vI n, vI bb, vI cc, vI xa, vI xb, vI k, vI ((prt n bb (n + (prt n cc ((prt n bb (n + (prt n cc k))) - n)))) - n), vI 0, vI (prt n cc ((prt n bb (n + (prt n cc k))) - n))], [], aq_h m s F c_10)) rfl rfl ?_
            refine am_E.go (t2 := (115, [vR y, vI n, vI bb, vI cc, vI xa, vI xb, vI k, vI ((prt n bb (n + (prt n cc ((prt n bb (n + (prt n cc k))) - n)))) - n), vI 0, vI (prt n cc ((prt n bb (n + (prt n cc k))) - n))], [vI 0], aq_h m s F c_10)) rfl rfl ?_
            refine am_E.go (t2 := (179, [vR y, vI n, vI bb, vI cc, vI xa, vI xb, vI k, vI ((prt n bb (n + (prt n cc ((prt n bb (n + (prt n cc k))) - n)))) - n), vI 0, vI (prt n cc ((prt n bb (n + (prt n cc k))) - n))], [], aq_h m s F c_10)) rfl rfl ?_
            refine ae_iinc rfl rfl (am_ri (by omega) (by omega)) ?_
            show am_E _ (182, [vR y, vI n, vI bb, vI cc, vI xa, vI xb, vI (k + 1), vI ((prt n bb (n + (prt n cc ((prt n bb (n + (prt n cc k))) - n)))) - n), vI 0, vI (prt n cc ((prt n bb (n + (prt n cc k))) - n))], [], aq_h m s F c_10) _
            refine am_E.go (t2 := (80, [vR y, vI n, vI bb, vI cc, vI xa, vI xb, vI (k + 1), vI ((prt n bb (n + (prt n cc ((prt n bb (n + (prt n cc k))) - n)))) - n), vI 0, vI (prt n cc ((prt n bb (n + (prt n cc k))) - n))], [], aq_h m s F c_10)) rfl rfl ?_
            exact qz_stacked_3 ⟨hm, hFo, hG5, hG6, hG7, hG8, hG9, hG10, hG11, hG12, hG13, hG14, hG15, hG16, hG17, hG18, hG19, hG20, hG21, hG22, hG23⟩ hS0 hS12 hS13 ⟨hT1, hTt⟩ hn1 hn4 hb0 hb1 hc0 hc1 hxa hxb d (dc_u (dc_u (dc_u (dc_u w k) (prt n cc k)) ((prt n bb (n + (prt n cc k))) - n)) (prt n cc ((prt n bb (n + (prt n cc k))) - n))) (x + 1) (k + 1) (vI ((prt n bb (n + (prt n cc ((prt n bb (n + (prt n cc k))) - n)))) - n)) (vI 0) (vI (prt n cc ((prt n bb (n + (prt n cc k))) - n))) c_10 sc_10 (by omega) (by omega) r0c_10.1 r0c_10.2 hobc_10 hmkc_10 hmdc_10 wc_10 xc_10 (by rw [← ht, rk_, if_pos (by omega)]; first | rw [if_neg (by omega)] | rw [if_pos (by omega), rj_, if_pos (by omega)] | rw [if_pos (by omega), rj_, if_neg (by omega), rj_, if_pos (by omega)]) (by omega)
          · exfalso; omega

theorem qz_stacked_2 {m s : Nat} {F : aq_F} {c0 : aq_C} {S : Nat → Prop} {y : Nat} (hO : mo_0 m F y) (hS0 : S y) (hS12 : S (y + 12)) (hS13 : S (y + 13)) {tbl : Int → Int} (hT : mo_T F y tbl) {n bb cc : Int} (hn1 : 1 ≤ n) (hn4 : n ≤ 4) (hb0 : 0 ≤ bb) (hb1 : bb < bx_K n) (hc0 : 0 ≤ cc) (hc1 : cc < bx_K n) {xa xb : Int} (hxa : xa = 8 * (mo_f n + bb)) (hxb : xb = 8 * (mo_f n + cc)) {T : Int} {Wm : Int → Int} (hTW : rk_ n (prt n bb) (prt n cc) 5 0 0 Wm = T) : ∀ (d : Nat) (w : Int → Int) (p : Int) (v7 : am_V) (v8 : am_V) (v9 : am_V) (c : aq_C) (hs : aq_sm S c0 c) (h0 : 0 ≤ p) (h1 : p ≤ 2 * n) (hob : mo_k y c0 c) (hmk : mo_mk y n (prt n bb) (prt n cc) p c) (hmd : mo_md y (fst_ n (prt n bb) (prt n cc)) p c) (hw : ∀ q, 0 ≤ q → q < 4 → c (y + 13) q = w q) (hm_ : mj_ n (prt n bb) (prt n cc) d p w = Wm) (hd : 2 * n - p < (d : Int)), am_E ac_X5_stacked (40, [vR y, vI n, vI bb, vI cc, vI xa, vI xb, vI p, v7, v8, v9], [], aq_h m s F c) (aq_Z m s F S c0 (fun r d => ∃ v, r = some (vI v) ∧ 0 ≤ v ∧ v < bx_K n ∧ 0 ≤ d y 15 ∧ d y 15 ≤ n ∧ mo_k y c0 d ∧ d y 15 = T ∧ ∀ i, 0 ≤ i → i < 2 * n → prt n v i = fst_ n (prt n bb) (prt n cc) i))
  | 0, w, p, v7, v8, v9, c, hs, h0, h1, hob, hmk, hmd, hw, hm_, hd => by exfalso; omega
  | d + 1, w, p, v7, v8, v9, c, hs, h0, h1, hob, hmk, hmd, hw, hm_, hd => by
    obtain ⟨hm, hFo, hG5, hG6, hG7, hG8, hG9, hG10, hG11, hG12, hG13, hG14, hG15, hG16, hG17, hG18, hG19, hG20, hG21, hG22, hG23⟩ := hO
    obtain ⟨hT1, hTt⟩ := hT
    have hfs := mo_fs n
    have hfi := pr_fi hn1 hn4 hb0 hb1
    have hgi := pr_fi hn1 hn4 hc0 hc1
    refine am_E.go (t2 := (42, [vR y, vI n, vI bb, vI cc, vI xa, vI xb, vI p, v7, v8, v9], [vI p], aq_h m s F c)) rfl rfl ?_
    refine am_E.go (t2 := (43, [vR y, vI n, vI bb, vI cc, vI xa, vI xb, vI p, v7, v8, v9], [vI 2, vI p], aq_h m s F c)) rfl rfl ?_
    refine am_E.go (t2 := (44, [vR y, vI n, vI bb, vI cc, vI xa, vI xb, vI p, v7, v8, v9], [vI n, vI 2, vI p], aq_h m s F c)) rfl rfl ?_
    refine ae_mul rfl (am_ri (by omega) (by omega)) ?_
    show am_E _ (45, [vR y, vI n, vI bb, vI cc, vI xa, vI xb, vI p, v7, v8, v9], [vI (2 * n), vI p], aq_h m s F c) _
    refine ae_icmp rfl (fun (q_1 : (2 * n) ≤ p) => ?_) (fun (q_1 : p < (2 * n)) => ?_)
    · have ep : p = 2 * n := by omega
      rw [ep] at hmk hmd
      refine am_E.go (t2 := (73, [vR y, vI n, vI bb, vI cc, vI xa, vI xb, vI p, v7, v8, v9], [vR y], aq_h m s F c)) rfl rfl ?_
      refine am_E.go (t2 := (74, [vR y, vI n, vI bb, vI cc, vI xa, vI xb, vI p, v7, v8, v9], [vI 0, vR y], aq_h m s F c)) rfl rfl ?_
      refine aq_pf rfl (by omega) hFo (by decide) rfl rfl ?_
      show am_E _ (77, [vR y, vI n, vI bb, vI cc, vI xa, vI xb, vI p, v7, v8, v9], [], aq_h m s F (aq_u c y 15 0)) _
      generalize hdc_2 : aq_u c y 15 0 = c_2
      have sc_2 := aq_smu hs hdc_2 hS0
      have hobc_2 := mo_ku hob hdc_2 (Or.inr (by decide))
      have hmkc_2 := mo_mkn hmk hdc_2 (by omega)
      have hmdc_2 := mo_mdn hmd hdc_2 (by omega)
      have r0c_2 : c_2 y 15 = 0 := by rw [← hdc_2, aq_us]
      refine am_E.go (t2 := (78, [vR y, vI n, vI bb, vI cc, vI xa, vI xb, vI p, v7, v8, v9], [vI 0], aq_h m s F c_2)) rfl rfl ?_
      refine am_E.go (t2 := (80, [vR y, vI n, vI bb, vI cc, vI xa, vI xb, vI 0, v7, v8, v9], [], aq_h m s F c_2)) rfl rfl ?_
      exact qz_stacked_3 ⟨hm, hFo, hG5, hG6, hG7, hG8, hG9, hG10, hG11, hG12, hG13, hG14, hG15, hG16, hG17, hG18, hG19, hG20, hG21, hG22, hG23⟩ hS0 hS12 hS13 ⟨hT1, hTt⟩ hn1 hn4 hb0 hb1 hc0 hc1 hxa hxb 5 Wm 0 0 (v7) (v8) (v9) c_2 sc_2 (by omega) (by omega) (by omega) (by omega) hobc_2 hmkc_2 hmdc_2 (fun q q0 q1 => by rw [← hdc_2, aq_un (Or.inl (by omega)), ← hm_, mj_, if_neg (by omega)]; exact hw q q0 q1) r0c_2 hTW (by omega)
    · refine am_E.go (t2 := (49, [vR y, vI n, vI bb, vI cc, vI xa, vI xb, vI p, v7, v8, v9], [vR y], aq_h m s F c)) rfl rfl ?_
      refine aq_gf (v := vR (y + 12)) rfl (by omega) hFo (by decide) rfl ?_
      show am_E _ (52, [vR y, vI n, vI bb, vI cc, vI xa, vI xb, vI p, v7, v8, v9], [vR (y + 12)], aq_h m s F c) _
      refine am_E.go (t2 := (54, [vR y, vI n, vI bb, vI cc, vI xa, vI xb, vI p, v7, v8, v9], [vI p, vR (y + 12)], aq_h m s F c)) rfl rfl ?_
      refine am_E.go (t2 := (55, [vR y, vI n, vI bb, vI cc, vI xa, vI xb, vI p, v7, v8, v9], [vR y, vI p, vR (y + 12)], aq_h m s F c)) rfl rfl ?_
      refine am_E.go (t2 := (56, [vR y, vI n, vI bb, vI cc, vI xa, vI xb, vI p, v7, v8, v9], [vI n, vR y, vI p, vR (y + 12)], aq_h m s F c)) rfl rfl ?_
      refine am_E.go (t2 := (58, [vR y, vI n, vI bb, vI cc, vI xa, vI xb, vI p, v7, v8, v9], [vI xa, vI n, vR y, vI p, vR (y + 12)], aq_h m s F c)) rfl rfl ?_
      refine am_E.go (t2 := (60, [vR y, vI n, vI bb, vI cc, vI xa, vI xb, vI p, v7, v8, v9], [vI xb, vI xa, vI n, vR y, vI p, vR (y + 12)], aq_h m s F c)) rfl rfl ?_
      refine am_E.go (t2 := (62, [vR y, vI n, vI bb, vI cc, vI xa, vI xb, vI p, v7, v8, v9], [vI p, vI xb, vI xa, vI n, vR y, vI p, vR (y + 12)], aq_h m s F c)) rfl rfl ?_
      refine aq_callv (y := 5) (as2 := [vI n, vI xa, vI xb, vI p]) (rest := [vI p, vR (y + 12)]) rfl rfl (by decide) (Nat.le_of_ble_eq_true rfl) rfl rfl (Nat.le_of_ble_eq_true rfl) (by omega) hFo rfl (Nat.le_of_ble_eq_true rfl) (qz_lead (S := fun a => a = y + 13) ⟨hm, hFo, hG5, hG6, hG7, hG8, hG9, hG10, hG11, hG12, hG13, hG14, hG15, hG16, hG17, hG18, hG19, hG20, hG21, hG22, hG23⟩ rfl hT1 (n := n) (a := xa) (b := xb) hn1 hn4 (by omega) (by omega) (by omega) (by omega) (fun p5 h5 h6 => by rw [hxa]; exact hTt n bb p5 hn1 hn4 hb0 hb1 h5 h6) (fun p5 h5 h6 => by rw [hxb]; exact hTt n cc p5 hn1 hn4 hc0 hc1 h5 h6) hfi hgi hw h0 (by omega)) ?_
      rintro r5 h5 ⟨c_l, rfl, s_l, rfl, ⟨mo_l, mk_l⟩, hw_l⟩
      show am_E _ (65, [vR y, vI n, vI bb, vI cc, vI xa, vI xb, vI p, v7, v8, v9], [vI (fst_ n (prt n bb) (prt n cc) p), vI p, vR (y + 12)], aq_h m s F c_l) _
      refine aq_as (kd := 0) rfl rfl (by omega) hG12 (by omega) (by omega) rfl rfl ?_
      show am_E _ (66, [vR y, vI n, vI bb, vI cc, vI xa, vI xb, vI p, v7, v8, v9], [], aq_h m s F (aq_u c_l (y + 12) p (fst_ n (prt n bb) (prt n cc) p))) _
      generalize hdc_3 : aq_u c_l (y + 12) p (fst_ n (prt n bb) (prt n cc) p) = c_3
      have sc_3 := aq_smu (aq_smt hs (aq_smi s_l (fun a h => by rw [h]; exact hS13))) hdc_3 (hS12)
      have hobc_3 := mo_ku (mo_ks hob s_l (by omega)) hdc_3 (Or.inl (by omega))
      have hmkc_3 := mo_mkn (mo_mkl hmk mo_l mk_l) hdc_3 (by omega)
      have hmdc_3 : mo_md y (fst_ n (prt n bb) (prt n cc)) (p + 1) c_3 := aq_fl (mo_mds hmd s_l (by omega)) hdc_3 rfl
      refine ae_iinc rfl rfl (am_ri (by omega) (by omega)) ?_
      show am_E _ (69, [vR y, vI n, vI bb, vI cc, vI xa, vI xb, vI (p + 1), v7, v8, v9], [], aq_h m s F c_3) _
      refine am_E.go (t2 := (40, [vR y, vI n, vI bb, vI cc, vI xa, vI xb, vI (p + 1), v7, v8, v9], [], aq_h m s F c_3)) rfl rfl ?_
      exact qz_stacked_2 ⟨hm, hFo, hG5, hG6, hG7, hG8, hG9, hG10, hG11, hG12, hG13, hG14, hG15, hG16, hG17, hG18, hG19, hG20, hG21, hG22, hG23⟩ hS0 hS12 hS13 ⟨hT1, hTt⟩ hn1 hn4 hb0 hb1 hc0 hc1 hxa hxb hTW d (fv_ n (prt n bb) (prt n cc) 5 (decide (p < n)) p w) (p + 1) (v7) (v8) (v9) c_3 sc_3 (by omega) (by omega) hobc_3 hmkc_3 hmdc_3 (fun q q0 q1 => by rw [← hdc_3, aq_un (Or.inl (by omega))]; exact hw_l q q0 q1) (by rw [← hm_, mj_, if_pos (by omega)]) (by omega)

theorem qz_stacked_1 {m s : Nat} {F : aq_F} {c0 : aq_C} {S : Nat → Prop} {y : Nat} (hO : mo_0 m F y) (hS0 : S y) (hS12 : S (y + 12)) (hS13 : S (y + 13)) {tbl : Int → Int} (hT : mo_T F y tbl) {n bb cc : Int} (hn1 : 1 ≤ n) (hn4 : n ≤ 4) (hb0 : 0 ≤ bb) (hb1 : bb < bx_K n) (hc0 : 0 ≤ cc) (hc1 : cc < bx_K n) {xa xb : Int} (hxa : xa = 8 * (mo_f n + bb)) (hxb : xb = 8 * (mo_f n + cc)) {T : Int} (hTW : rk_ n (prt n bb) (prt n cc) 5 0 0 (mj_ n (prt n bb) (prt n cc) 9 0 (fun _ => 0)) = T) : ∀ (d : Nat) (k : Int) (v7 : am_V) (v8 : am_V) (v9 : am_V) (c : aq_C) (hs : aq_sm S c0 c) (h0 : 0 ≤ k) (h1 : k ≤ 4) (hob : mo_k y c0 c) (hz : ∀ i, 0 ≤ i → i < k → c (y + 13) i = (fun _ => 0) i) (hd : 4 - k < (d : Int)), am_E ac_X5_stacked (17, [vR y, vI n, vI bb, vI cc, vI xa, vI xb, vI k, v7, v8, v9], [], aq_h m s F c) (aq_Z m s F S c0 (fun r d => ∃ v, r = some (vI v) ∧ 0 ≤ v ∧ v < bx_K n ∧ 0 ≤ d y 15 ∧ d y 15 ≤ n ∧ mo_k y c0 d ∧ d y 15 = T ∧ ∀ i, 0 ≤ i → i < 2 * n → prt n v i = fst_ n (prt n bb) (prt n cc) i))
  | 0, k, v7, v8, v9, c, hs, h0, h1, hob, hz, hd => by exfalso; omega
  | d + 1, k, v7, v8, v9, c, hs, h0, h1, hob, hz, hd => by
    obtain ⟨hm, hFo, hG5, hG6, hG7, hG8, hG9, hG10, hG11, hG12, hG13, hG14, hG15, hG16, hG17, hG18, hG19, hG20, hG21, hG22, hG23⟩ := hO
    obtain ⟨hT1, hTt⟩ := hT
    have hfs := mo_fs n
    have hfi := pr_fi hn1 hn4 hb0 hb1
    have hgi := pr_fi hn1 hn4 hc0 hc1
    refine am_E.go (t2 := (19, [vR y, vI n, vI bb, vI cc, vI xa, vI xb, vI k, v7, v8, v9], [vI k], aq_h m s F c)) rfl rfl ?_
    refine am_E.go (t2 := (20, [vR y, vI n, vI bb, vI cc, vI xa, vI xb, vI k, v7, v8, v9], [vI 4, vI k], aq_h m s F c)) rfl rfl ?_
    refine ae_icmp rfl (fun (q_1 : 4 ≤ k) => ?_) (fun (q_1 : k < 4) => ?_)
    · refine am_E.go (t2 := (38, [vR y, vI n, vI bb, vI cc, vI xa, vI xb, vI k, v7, v8, v9], [vI 0], aq_h m s F c)) rfl rfl ?_
      refine am_E.go (t2 := (40, [vR y, vI n, vI bb, vI cc, vI xa, vI xb, vI 0, v7, v8, v9], [], aq_h m s F c)) rfl rfl ?_
      exact qz_stacked_2 ⟨hm, hFo, hG5, hG6, hG7, hG8, hG9, hG10, hG11, hG12, hG13, hG14, hG15, hG16, hG17, hG18, hG19, hG20, hG21, hG22, hG23⟩ hS0 hS12 hS13 ⟨hT1, hTt⟩ hn1 hn4 hb0 hb1 hc0 hc1 hxa hxb hTW 9 (fun _ => 0) 0 (v7) (v8) (v9) c hs (by omega) (by omega) hob (fun p5 h5 h6 => absurd h6 (by omega)) (fun p5 h5 h6 => absurd h6 (by omega)) (fun q q0 q1 => hz q q0 (by omega)) rfl (by omega)
    · refine am_E.go (t2 := (24, [vR y, vI n, vI bb, vI cc, vI xa, vI xb, vI k, v7, v8, v9], [vR y], aq_h m s F c)) rfl rfl ?_
      refine aq_gf (v := vR (y + 13)) rfl (by omega) hFo (by decide) rfl ?_
      show am_E _ (27, [vR y, vI n, vI bb, vI cc, vI xa, vI xb, vI k, v7, v8, v9], [vR (y + 13)], aq_h m s F c) _
      refine am_E.go (t2 := (29, [vR y, vI n, vI bb, vI cc, vI xa, vI xb, vI k, v7, v8, v9], [vI k, vR (y + 13)], aq_h m s F c)) rfl rfl ?_
      refine am_E.go (t2 := (30, [vR y, vI n, vI bb, vI cc, vI xa, vI xb, vI k, v7, v8, v9], [vI 0, vI k, vR (y + 13)], aq_h m s F c)) rfl rfl ?_
      refine aq_as (kd := 1) rfl rfl (by omega) hG13 (by omega) (by omega) rfl rfl ?_
      show am_E _ (31, [vR y, vI n, vI bb, vI cc, vI xa, vI xb, vI k, v7, v8, v9], [], aq_h m s F (aq_u c (y + 13) k 0)) _
      generalize hdc_2 : aq_u c (y + 13) k 0 = c_2
      have sc_2 := aq_smu hs hdc_2 (hS13)
      have hobc_2 := mo_ku hob hdc_2 (Or.inl (by omega))
      refine ae_iinc rfl rfl (am_ri (by omega) (by omega)) ?_
      show am_E _ (34, [vR y, vI n, vI bb, vI cc, vI xa, vI xb, vI (k + 1), v7, v8, v9], [], aq_h m s F c_2) _
      refine am_E.go (t2 := (17, [vR y, vI n, vI bb, vI cc, vI xa, vI xb, vI (k + 1), v7, v8, v9], [], aq_h m s F c_2)) rfl rfl ?_
      exact qz_stacked_1 ⟨hm, hFo, hG5, hG6, hG7, hG8, hG9, hG10, hG11, hG12, hG13, hG14, hG15, hG16, hG17, hG18, hG19, hG20, hG21, hG22, hG23⟩ hS0 hS12 hS13 ⟨hT1, hTt⟩ hn1 hn4 hb0 hb1 hc0 hc1 hxa hxb hTW d (k + 1) (v7) (v8) (v9) c_2 sc_2 (by omega) (by omega) hobc_2 (aq_fl hz hdc_2 rfl) (by omega)

theorem qz_stacked {m s : Nat} {F : aq_F} {c : aq_C} {S : Nat → Prop} {y : Nat} (hO : mo_0 m F y) (hS0 : S y) (hS12 : S (y + 12)) (hS13 : S (y + 13)) {tbl : Int → Int} (hT : mo_T F y tbl) {n bb cc : Int} (hn1 : 1 ≤ n) (hn4 : n ≤ 4) (hb0 : 0 ≤ bb) (hb1 : bb < bx_K n) (hc0 : 0 ≤ cc) (hc1 : cc < bx_K n) : am_E ac_X5_stacked (0, [vR y, vI n, vI bb, vI cc, vU, vU, vU, vU, vU, vU], [], aq_h m s F c) (aq_Z m s F S c (fun r d => ∃ v, r = some (vI v) ∧ 0 ≤ v ∧ v < bx_K n ∧ 0 ≤ d y 15 ∧ d y 15 ≤ n ∧ mo_k y c d ∧ d y 15 = rr_ n (prt n bb) (prt n cc) ∧ ∀ i, 0 ≤ i → i < 2 * n → prt n v i = fst_ n (prt n bb) (prt n cc) i)) := by
  obtain ⟨hm, hFo, hG5, hG6, hG7, hG8, hG9, hG10, hG11, hG12, hG13, hG14, hG15, hG16, hG17, hG18, hG19, hG20, hG21, hG22, hG23⟩ := hO
  obtain ⟨hT1, hTt⟩ := hT
  have hfs := mo_fs n
  have hfi := pr_fi hn1 hn4 hb0 hb1
  have hgi := pr_fi hn1 hn4 hc0 hc1
  refine am_E.go (t2 := (1, [vR y, vI n, vI bb, vI cc, vU, vU, vU, vU, vU, vU], [vI n], aq_h m s F c)) rfl rfl ?_
  refine am_E.go (t2 := (2, [vR y, vI n, vI bb, vI cc, vU, vU, vU, vU, vU, vU], [vI bb, vI n], aq_h m s F c)) rfl rfl ?_
  refine am_E.call rfl rfl rfl (Nat.le_of_ble_eq_true rfl) (qm_at (by omega) (by omega)) ?_
  rintro r5 h5 ⟨rfl, xa, rfl, hxa⟩
  show am_E _ (5, [vR y, vI n, vI bb, vI cc, vU, vU, vU, vU, vU, vU], [vI xa], aq_h m s F c) _
  refine am_E.go (t2 := (7, [vR y, vI n, vI bb, vI cc, vI xa, vU, vU, vU, vU, vU], [], aq_h m s F c)) rfl rfl ?_
  refine am_E.go (t2 := (8, [vR y, vI n, vI bb, vI cc, vI xa, vU, vU, vU, vU, vU], [vI n], aq_h m s F c)) rfl rfl ?_
  refine am_E.go (t2 := (9, [vR y, vI n, vI bb, vI cc, vI xa, vU, vU, vU, vU, vU], [vI cc, vI n], aq_h m s F c)) rfl rfl ?_
  refine am_E.call rfl rfl rfl (Nat.le_of_ble_eq_true rfl) (qm_at (by omega) (by omega)) ?_
  rintro r5 h5 ⟨rfl, xb, rfl, hxb⟩
  show am_E _ (12, [vR y, vI n, vI bb, vI cc, vI xa, vU, vU, vU, vU, vU], [vI xb], aq_h m s F c) _
  refine am_E.go (t2 := (14, [vR y, vI n, vI bb, vI cc, vI xa, vI xb, vU, vU, vU, vU], [], aq_h m s F c)) rfl rfl ?_
  refine am_E.go (t2 := (15, [vR y, vI n, vI bb, vI cc, vI xa, vI xb, vU, vU, vU, vU], [vI 0], aq_h m s F c)) rfl rfl ?_
  refine am_E.go (t2 := (17, [vR y, vI n, vI bb, vI cc, vI xa, vI xb, vI 0, vU, vU, vU], [], aq_h m s F c)) rfl rfl ?_
  exact qz_stacked_1 ⟨hm, hFo, hG5, hG6, hG7, hG8, hG9, hG10, hG11, hG12, hG13, hG14, hG15, hG16, hG17, hG18, hG19, hG20, hG21, hG22, hG23⟩ hS0 hS12 hS13 ⟨hT1, hTt⟩ hn1 hn4 hb0 hb1 hc0 hc1 hxa hxb rfl 6 0 (vU) (vU) (vU) c aq_sm0 (by omega) (by omega) mo_k0 (fun i h1 h2 => absurd h2 (by omega)) (by omega)

/-- the way round from a point, when the box is closed -/
def cs_ (n : Int) (f : Int → Int) : Nat → Int → Int → (Int → Int) → Int → Int
  | 0, _, _, w => w
  | d + 1, k, a, w => if k < 2 * n ∧ w a = 0 then cs_ n f d (k + 1) (ac_ n (f a)) (dc_u (dc_u w a) (f a)) else w
def cq_ (n : Int) (f : Int → Int) : Nat → Int → Int → (Int → Int) → Int
  | 0, _, x, _ => x
  | d + 1, p, x, w => if p < 2 * n then (if w p = 0 then cq_ n f d (p + 1) (x + 1) (cs_ n f 9 0 p w) else cq_ n f d (p + 1) x w) else x
/-- rings of a box that is closed -/
def cl_r (n : Int) (f : Int → Int) : Int := cq_ n f 9 0 0 (fun _ => 0)
theorem cs_c {n : Int} {f g : Int → Int} (hf : ∀ i, 0 ≤ i → i < 2 * n → f i = g i) (rg : fi n g) : ∀ (d : Nat) (k a : Int) (w : Int → Int), 0 ≤ a → a < 2 * n → cs_ n f d k a w = cs_ n g d k a w
  | 0, _, _, _, _, _ => rfl
  | d + 1, k, a, w, h0, h1 => by
    rw [cs_, cs_]
    by_cases e : k < 2 * n ∧ w a = 0
    · have r := rg a h0 h1
      have r1 := ac_r (n := n) r.1 r.2.1
      rw [if_pos e, if_pos e, hf a h0 h1, cs_c hf rg d (k + 1) _ _ r1.1 r1.2]
    · rw [if_neg e, if_neg e]
theorem cq_c {n : Int} {f g : Int → Int} (hf : ∀ i, 0 ≤ i → i < 2 * n → f i = g i) (rg : fi n g) : ∀ (d : Nat) (p x : Int) (w : Int → Int), 0 ≤ p → cq_ n f d p x w = cq_ n g d p x w
  | 0, _, _, _, _ => rfl
  | d + 1, p, x, w, h0 => by
    rw [cq_, cq_]
    by_cases e : p < 2 * n
    · rw [if_pos e, if_pos e, cs_c hf rg 9 0 p w h0 e, cq_c hf rg d (p + 1) _ _ (by omega), cq_c hf rg d (p + 1) _ _ (by omega)]
    · rw [if_neg e, if_neg e]
theorem rg_1 : ∀ b : Nat, b < 1 → cl_r 1 (prt 1 b) = rg_ 1 b := by decide +kernel
theorem rg_2 : ∀ b : Nat, b < 3 → cl_r 2 (prt 2 b) = rg_ 2 b := by decide +kernel
theorem rg_3 : ∀ b : Nat, b < 15 → cl_r 3 (prt 3 b) = rg_ 3 b := by decide +kernel
theorem rg_4 : ∀ b : Nat, b < 105 → cl_r 4 (prt 4 b) = rg_ 4 b := by decide +kernel
theorem rg_e {n b : Int} {f : Int → Int} (h1 : 1 ≤ n) (h4 : n ≤ 4) (b0 : 0 ≤ b) (bK : b < bx_K n) (hf : ∀ i, 0 ≤ i → i < 2 * n → f i = prt n b i) : cl_r n f = rg_ n b := by
  have e1 : cl_r n f = cl_r n (prt n b) := cq_c hf (pr_fi h1 h4 b0 bK) 9 0 0 _ (by omega)
  rw [e1]
  have ex : ((b.toNat : Nat) : Int) = b := Int.toNat_of_nonneg b0
  have h : n = 1 ∨ n = 2 ∨ n = 3 ∨ n = 4 := by omega
  rcases h with h | h | h | h <;> subst h
  · have g : bx_K 1 = 1 := by decide
    have := rg_1 b.toNat (by omega)
    rw [ex] at this
    exact this
  · have g : bx_K 2 = 3 := by decide
    have := rg_2 b.toNat (by omega)
    rw [ex] at this
    exact this
  · have g : bx_K 3 = 15 := by decide
    have := rg_3 b.toNat (by omega)
    rw [ex] at this
    exact this
  · have g : bx_K 4 = 105 := by decide
    have := rg_4 b.toNat (by omega)
    rw [ex] at this
    exact this
/-- what stackLetters makes is the table -/
theorem bn_e {n b k : Int} {f g : Int → Int} (h1 : 1 ≤ n) (h4 : n ≤ 4) (b0 : 0 ≤ b) (bK : b < bx_K n) (k0 : 0 ≤ k) (kL : k < 2 * n - 2) (hf : ∀ i, 0 ≤ i → i < 2 * n → f i = prt n b i) (hg : ∀ i, 0 ≤ i → i < 2 * n → g i = prt n (lb_ n k) i) : jn_ n f g = bn_ n b k := by
  have r := lb_r h1 h4 k0 kL
  rw [jn_c h1 h4 hf hg (pr_fi h1 h4 b0 bK) (pr_fi h1 h4 r.1 r.2)]
  have ex : ((b.toNat : Nat) : Int) = b := Int.toNat_of_nonneg b0
  have ek : ((k.toNat : Nat) : Int) = k := Int.toNat_of_nonneg k0
  have h : n = 1 ∨ n = 2 ∨ n = 3 ∨ n = 4 := by omega
  rcases h with h | h | h | h <;> subst h
  · exfalso
    omega
  · have g : bx_K 2 = 3 := by decide
    have := bn_2 b.toNat (by omega) k.toNat (by omega)
    rw [ex, ek] at this
    exact this
  · have g : bx_K 3 = 15 := by decide
    have := bn_3 b.toNat (by omega) k.toNat (by omega)
    rw [ex, ek] at this
    exact this
  · have g : bx_K 4 = 105 := by decide
    have := bn_4 b.toNat (by omega) k.toNat (by omega)
    rw [ex, ek] at this
    exact this

theorem qz_close_i {m s : Nat} {F : aq_F} {c0 : aq_C} {S : Nat → Prop} {o n K : Nat} (hB : bx_0 m F o n K) (hSs : S (o + 7 + 3 * K)) {tP : Int → Int → Int} (hP : bx_p F o n K tP) {x : Int} (hx0 : 0 ≤ x) (hxK : x < (K : Int)) {f p T : Int} {Wd : Int → Int} : ∀ (d : Nat) (w : Int → Int) (a : Int) (k : Int) (c : aq_C) (hs : aq_sm S c0 c) (h0 : 0 ≤ a) (h1 : a < 2 * (n : Int)) (h2 : 0 ≤ k) (h3 : k ≤ 2 * (n : Int)) (hw : ∀ q, 0 ≤ q → q < 2 * (n : Int) → c (o + 7 + 3 * K) q = w q) (ht : cs_ (n : Int) (tP ((x.toNat : Nat) : Int)) d k a w = Wd) (hd : 2 * (n : Int) - k < (d : Int)) (K0 : ∀ (a2 : Int) (k2 : Int) (c2 : aq_C) (hs2 : aq_sm S c0 c2) (hw2 : ∀ q, 0 ≤ q → q < 2 * (n : Int) → c2 (o + 7 + 3 * K) q = Wd q), am_E ac_X0_closeRings (89, [vR o, vR (o + 2 + x.toNat), vI f, vI p, vI a2, vI k2], [], aq_h m s F c2) (aq_Z m s F S c0 (fun r _ => r = some (vI T)))), am_E ac_X0_closeRings (34, [vR o, vR (o + 2 + x.toNat), vI f, vI p, vI a, vI k], [], aq_h m s F c) (aq_Z m s F S c0 (fun r _ => r = some (vI T)))
  | 0, w, a, k, c, hs, h0, h1, h2, h3, hw, ht, hd, K0 => by exfalso; omega
  | d + 1, w, a, k, c, hs, h0, h1, h2, h3, hw, ht, hd, K0 => by
    obtain ⟨hm, hn1, hn4, hK, hFo, hFd, hFs⟩ := hB
    obtain ⟨hPg, hPr, hPt⟩ := hP
    refine am_E.go (t2 := (36, [vR o, vR (o + 2 + x.toNat), vI f, vI p, vI a, vI k], [vI k], aq_h m s F c)) rfl rfl ?_
    refine am_E.go (t2 := (37, [vR o, vR (o + 2 + x.toNat), vI f, vI p, vI a, vI k], [vR o, vI k], aq_h m s F c)) rfl rfl ?_
    refine aq_gf (v := vI (2 * (n : Int))) rfl (by omega) hFo (by decide) rfl ?_
    show am_E _ (40, [vR o, vR (o + 2 + x.toNat), vI f, vI p, vI a, vI k], [vI (2 * (n : Int)), vI k], aq_h m s F c) _
    refine ae_icmp rfl (fun (q_1 : (2 * (n : Int)) ≤ k) => ?_) (fun (q_1 : k < (2 * (n : Int))) => ?_)
    · exact K0 a k c hs (by rw [← ht, cs_, if_neg (by omega)]; exact hw)
    · refine am_E.go (t2 := (44, [vR o, vR (o + 2 + x.toNat), vI f, vI p, vI a, vI k], [vR o], aq_h m s F c)) rfl rfl ?_
      refine aq_gf (v := vR (o + 7 + 3 * K)) rfl (by omega) hFo (by decide) rfl ?_
      show am_E _ (47, [vR o, vR (o + 2 + x.toNat), vI f, vI p, vI a, vI k], [vR (o + 7 + 3 * K)], aq_h m s F c) _
      refine am_E.go (t2 := (49, [vR o, vR (o + 2 + x.toNat), vI f, vI p, vI a, vI k], [vI a, vR (o + 7 + 3 * K)], aq_h m s F c)) rfl rfl ?_
      refine aq_al (ok := fun k => k == 1) (v := vI (c (o + 7 + 3 * K) a)) rfl rfl (by omega) hFs rfl (by omega) (by omega) rfl ?_
      show am_E _ (50, [vR o, vR (o + 2 + x.toNat), vI f, vI p, vI a, vI k], [vI (c (o + 7 + 3 * K) a)], aq_h m s F c) _
      have f_2 := hw a (by omega) (by omega)
      refine ae_if0 rfl (fun (q_3 : (c (o + 7 + 3 * K) a) ≠ 0) => ?_) (fun (q_3 : (c (o + 7 + 3 * K) a) = 0) => ?_)
      · exact K0 a k c hs (by rw [← ht, cs_, if_neg (by omega)]; exact hw)
      · refine am_E.go (t2 := (54, [vR o, vR (o + 2 + x.toNat), vI f, vI p, vI a, vI k], [vR o], aq_h m s F c)) rfl rfl ?_
        refine aq_gf (v := vR (o + 7 + 3 * K)) rfl (by omega) hFo (by decide) rfl ?_
        show am_E _ (57, [vR o, vR (o + 2 + x.toNat), vI f, vI p, vI a, vI k], [vR (o + 7 + 3 * K)], aq_h m s F c) _
        refine am_E.go (t2 := (59, [vR o, vR (o + 2 + x.toNat), vI f, vI p, vI a, vI k], [vI a, vR (o + 7 + 3 * K)], aq_h m s F c)) rfl rfl ?_
        refine am_E.go (t2 := (60, [vR o, vR (o + 2 + x.toNat), vI f, vI p, vI a, vI k], [vI 1, vI a, vR (o + 7 + 3 * K)], aq_h m s F c)) rfl rfl ?_
        refine aq_as (kd := 1) rfl rfl (by omega) hFs (by omega) (by omega) rfl rfl ?_
        show am_E _ (61, [vR o, vR (o + 2 + x.toNat), vI f, vI p, vI a, vI k], [], aq_h m s F (aq_u c (o + 7 + 3 * K) a 1)) _
        generalize hdc_4 : aq_u c (o + 7 + 3 * K) a 1 = c_4
        have sc_4 := aq_smu hs hdc_4 hSs
        have wc_4 := dc_ac2 hw hdc_4
        refine am_E.go (t2 := (62, [vR o, vR (o + 2 + x.toNat), vI f, vI p, vI a, vI k], [vR (o + 2 + x.toNat)], aq_h m s F c_4)) rfl rfl ?_
        refine am_E.go (t2 := (64, [vR o, vR (o + 2 + x.toNat), vI f, vI p, vI a, vI k], [vI a, vR (o + 2 + x.toNat)], aq_h m s F c_4)) rfl rfl ?_
        refine aq_alt (ok := fun k => k == 0) rfl rfl (by omega) (hPr _ (by omega)) rfl (by omega) (by omega) ?_
        show am_E _ (65, [vR o, vR (o + 2 + x.toNat), vI f, vI p, vI a, vI k], [vI (tP ((x.toNat : Nat) : Int) a)], aq_h m s F c_4) _
        have f_5 := hPt ((x.toNat : Nat) : Int) a (by omega) (by omega) (by omega) (by omega)
        refine am_E.go (t2 := (67, [vR o, vR (o + 2 + x.toNat), vI f, vI p, vI (tP ((x.toNat : Nat) : Int) a), vI k], [], aq_h m s F c_4)) rfl rfl ?_
        refine am_E.go (t2 := (68, [vR o, vR (o + 2 + x.toNat), vI f, vI p, vI (tP ((x.toNat : Nat) : Int) a), vI k], [vR o], aq_h m s F c_4)) rfl rfl ?_
        refine aq_gf (v := vR (o + 7 + 3 * K)) rfl (by omega) hFo (by decide) rfl ?_
        show am_E _ (71, [vR o, vR (o + 2 + x.toNat), vI f, vI p, vI (tP ((x.toNat : Nat) : Int) a), vI k], [vR (o + 7 + 3 * K)], aq_h m s F c_4) _
        refine am_E.go (t2 := (73, [vR o, vR (o + 2 + x.toNat), vI f, vI p, vI (tP ((x.toNat : Nat) : Int) a), vI k], [vI (tP ((x.toNat : Nat) : Int) a), vR (o + 7 + 3 * K)], aq_h m s F c_4)) rfl rfl ?_
        refine am_E.go (t2 := (74, [vR o, vR (o + 2 + x.toNat), vI f, vI p, vI (tP ((x.toNat : Nat) : Int) a), vI k], [vI 1, vI (tP ((x.toNat : Nat) : Int) a), vR (o + 7 + 3 * K)], aq_h m s F c_4)) rfl rfl ?_
        refine aq_as (kd := 1) rfl rfl (by omega) hFs (by omega) (by omega) rfl rfl ?_
        show am_E _ (75, [vR o, vR (o + 2 + x.toNat), vI f, vI p, vI (tP ((x.toNat : Nat) : Int) a), vI k], [], aq_h m s F (aq_u c_4 (o + 7 + 3 * K) (tP ((x.toNat : Nat) : Int) a) 1)) _
        generalize hdc_6 : aq_u c_4 (o + 7 + 3 * K) (tP ((x.toNat : Nat) : Int) a) 1 = c_6
        have sc_6 := aq_smu sc_4 hdc_6 hSs
        have wc_6 := dc_ac2 wc_4 hdc_6
        refine am_E.go (t2 := (76, [vR o, vR (o + 2 + x.toNat), vI f, vI p, vI (tP ((x.toNat : Nat) : Int) a), vI k], [vR o], aq_h m s F c_6)) rfl rfl ?_
        refine am_E.go (t2 := (78, [vR o, vR (o + 2 + x.toNat), vI f, vI p, vI (tP ((x.toNat : Nat) : Int) a), vI k], [vI (tP ((x.toNat : Nat) : Int) a), vR o], aq_h m s F c_6)) rfl rfl ?_
        refine aq_callv (y := 2) (as2 := [vI (tP ((x.toNat : Nat) : Int) a)]) (rest := []) rfl rfl (by decide) (Nat.le_of_ble_eq_true rfl) rfl rfl (Nat.le_of_ble_eq_true rfl) (by omega) hFo rfl (Nat.le_of_ble_eq_true rfl) (qz_across ⟨hm, hn1, hn4, hK, hFo, hFd, hFs⟩ (by omega) (by omega)) ?_
        rintro r5 h5 ⟨rfl, rfl⟩
        show am_E _ (81, [vR o, vR (o + 2 + x.toNat), vI f, vI p, vI (tP ((x.toNat : Nat) : Int) a), vI k], [vI (ac_ (n : Int) (tP ((x.toNat : Nat) : Int) a))], aq_h m s F c_6) _
        have ha_7 := ac_r (n := (n : Int)) (i := (tP ((x.toNat : Nat) : Int) a)) (by omega) (by omega)
        refine am_E.go (t2 := (83, [vR o, vR (o + 2 + x.toNat), vI f, vI p, vI (ac_ (n : Int) (tP ((x.toNat : Nat) : Int) a)), vI k], [], aq_h m s F c_6)) rfl rfl ?_
        refine ae_iinc rfl rfl (am_ri (by omega) (by omega)) ?_
        show am_E _ (86, [vR o, vR (o + 2 + x.toNat), vI f, vI p, vI (ac_ (n : Int) (tP ((x.toNat : Nat) : Int) a)), vI (k + 1)], [], aq_h m s F c_6) _
        refine am_E.go (t2 := (34, [vR o, vR (o + 2 + x.toNat), vI f, vI p, vI (ac_ (n : Int) (tP ((x.toNat : Nat) : Int) a)), vI (k + 1)], [], aq_h m s F c_6)) rfl rfl ?_
        exact qz_close_i ⟨hm, hn1, hn4, hK, hFo, hFd, hFs⟩ hSs ⟨hPg, hPr, hPt⟩ hx0 hxK d (dc_u (dc_u w a) (tP ((x.toNat : Nat) : Int) a)) (ac_ (n : Int) (tP ((x.toNat : Nat) : Int) a)) (k + 1) c_6 sc_6 (by omega) (by omega) (by omega) (by omega) wc_6 (by rw [← ht, cs_, if_pos (by omega)]) (by omega) K0

theorem qz_close_o {m s : Nat} {F : aq_F} {c0 : aq_C} {S : Nat → Prop} {o n K : Nat} (hB : bx_0 m F o n K) (hSs : S (o + 7 + 3 * K)) {tP : Int → Int → Int} (hP : bx_p F o n K tP) {x : Int} (hx0 : 0 ≤ x) (hxK : x < (K : Int)) {T : Int} : ∀ (d : Nat) (w : Int → Int) (f : Int) (p : Int) (v4 : am_V) (v5 : am_V) (c : aq_C) (hs : aq_sm S c0 c) (h0 : 0 ≤ p) (h1 : p ≤ 2 * (n : Int)) (h2 : 0 ≤ f) (h3 : f ≤ p) (hw : ∀ q, 0 ≤ q → q < 2 * (n : Int) → c (o + 7 + 3 * K) q = w q) (ht : cq_ (n : Int) (tP ((x.toNat : Nat) : Int)) d p f w = T) (hd : 2 * (n : Int) - p < (d : Int)), am_E ac_X0_closeRings (8, [vR o, vR (o + 2 + x.toNat), vI f, vI p, v4, v5], [], aq_h m s F c) (aq_Z m s F S c0 (fun r _ => r = some (vI T)))
  | 0, w, f, p, v4, v5, c, hs, h0, h1, h2, h3, hw, ht, hd => by exfalso; omega
  | d + 1, w, f, p, v4, v5, c, hs, h0, h1, h2, h3, hw, ht, hd => by
    obtain ⟨hm, hn1, hn4, hK, hFo, hFd, hFs⟩ := hB
    obtain ⟨hPg, hPr, hPt⟩ := hP
    refine am_E.go (t2 := (9, [vR o, vR (o + 2 + x.toNat), vI f, vI p, v4, v5], [vI p], aq_h m s F c)) rfl rfl ?_
    refine am_E.go (t2 := (10, [vR o, vR (o + 2 + x.toNat), vI f, vI p, v4, v5], [vR o, vI p], aq_h m s F c)) rfl rfl ?_
    refine aq_gf (v := vI (2 * (n : Int))) rfl (by omega) hFo (by decide) rfl ?_
    show am_E _ (13, [vR o, vR (o + 2 + x.toNat), vI f, vI p, v4, v5], [vI (2 * (n : Int)), vI p], aq_h m s F c) _
    refine ae_icmp rfl (fun (q_1 : (2 * (n : Int)) ≤ p) => ?_) (fun (q_1 : p < (2 * (n : Int))) => ?_)
    · refine am_E.go (t2 := (96, [vR o, vR (o + 2 + x.toNat), vI f, vI p, v4, v5], [vI f], aq_h m s F c)) rfl rfl ?_
      refine am_E.ret rfl rfl ?_
      refine ⟨_, rfl, hs, ?_⟩
      rw [← ht, cq_, if_neg (by omega)]
    · refine am_E.go (t2 := (17, [vR o, vR (o + 2 + x.toNat), vI f, vI p, v4, v5], [vR o], aq_h m s F c)) rfl rfl ?_
      refine aq_gf (v := vR (o + 7 + 3 * K)) rfl (by omega) hFo (by decide) rfl ?_
      show am_E _ (20, [vR o, vR (o + 2 + x.toNat), vI f, vI p, v4, v5], [vR (o + 7 + 3 * K)], aq_h m s F c) _
      refine am_E.go (t2 := (21, [vR o, vR (o + 2 + x.toNat), vI f, vI p, v4, v5], [vI p, vR (o + 7 + 3 * K)], aq_h m s F c)) rfl rfl ?_
      refine aq_al (ok := fun k => k == 1) (v := vI (c (o + 7 + 3 * K) p)) rfl rfl (by omega) hFs rfl (by omega) (by omega) rfl ?_
      show am_E _ (22, [vR o, vR (o + 2 + x.toNat), vI f, vI p, v4, v5], [vI (c (o + 7 + 3 * K) p)], aq_h m s F c) _
      have f_2 := hw p (by omega) (by omega)
      refine ae_if0 rfl (fun (q_3 : (c (o + 7 + 3 * K) p) ≠ 0) => ?_) (fun (q_3 : (c (o + 7 + 3 * K) p) = 0) => ?_)
      · refine ae_iinc rfl rfl (am_ri (by omega) (by omega)) ?_
        show am_E _ (92, [vR o, vR (o + 2 + x.toNat), vI f, vI (p + 1), v4, v5], [], aq_h m s F c) _
        refine am_E.go (t2 := (8, [vR o, vR (o + 2 + x.toNat), vI f, vI (p + 1), v4, v5], [], aq_h m s F c)) rfl rfl ?_
        exact qz_close_o ⟨hm, hn1, hn4, hK, hFo, hFd, hFs⟩ hSs ⟨hPg, hPr, hPt⟩ hx0 hxK d w f (p + 1) (v4) (v5) c hs (by omega) (by omega) (by omega) (by omega) hw (by rw [← ht, cq_, if_pos (by omega)]; first | rw [if_pos (by omega)] | rw [if_neg (by omega)]) (by omega)
      · refine ae_iinc rfl rfl (am_ri (by omega) (by omega)) ?_
        show am_E _ (28, [vR o, vR (o + 2 + x.toNat), vI (f + 1), vI p, v4, v5], [], aq_h m s F c) _
        refine am_E.go (t2 := (29, [vR o, vR (o + 2 + x.toNat), vI (f + 1), vI p, v4, v5], [vI p], aq_h m s F c)) rfl rfl ?_
        refine am_E.go (t2 := (31, [vR o, vR (o + 2 + x.toNat), vI (f + 1), vI p, vI p, v5], [], aq_h m s F c)) rfl rfl ?_
        refine am_E.go (t2 := (32, [vR o, vR (o + 2 + x.toNat), vI (f + 1), vI p, vI p, v5], [vI 0], aq_h m s F c)) rfl rfl ?_
        refine am_E.go (t2 := (34, [vR o, vR (o + 2 + x.toNat), vI (f + 1), vI p, vI p, vI 0], [], aq_h m s F c)) rfl rfl ?_
        refine qz_close_i ⟨hm, hn1, hn4, hK, hFo, hFd, hFs⟩ hSs ⟨hPg, hPr, hPt⟩ hx0 hxK 9 w p 0 c hs (by omega) (by omega) (by omega) (by omega) hw rfl (by omega) ?_
        · intro a2_34 k2_34 c_4 sc_4 hw2_34
          refine ae_iinc rfl rfl (am_ri (by omega) (by omega)) ?_
          show am_E _ (92, [vR o, vR (o + 2 + x.toNat), vI (f + 1), vI (p + 1), vI a2_34, vI k2_34], [], aq_h m s F c_4) _
          refine am_E.go (t2 := (8, [vR o, vR (o + 2 + x.toNat), vI (f + 1), vI (p + 1), vI a2_34, vI k2_34], [], aq_h m s F c_4)) rfl rfl ?_
          exact qz_close_o ⟨hm, hn1, hn4, hK, hFo, hFd, hFs⟩ hSs ⟨hPg, hPr, hPt⟩ hx0 hxK d (cs_ (n : Int) (tP ((x.toNat : Nat) : Int)) 9 0 p w) (f + 1) (p + 1) (vI a2_34) (vI k2_34) c_4 sc_4 (by omega) (by omega) (by omega) (by omega) hw2_34 (by rw [← ht, cq_, if_pos (by omega)]; first | rw [if_pos (by omega)] | rw [if_neg (by omega)]) (by omega)

theorem qz_closeRings {m s : Nat} {F : aq_F} {c : aq_C} {S : Nat → Prop} {o n K : Nat} (hB : bx_0 m F o n K) (hSs : S (o + 7 + 3 * K)) {tP : Int → Int → Int} (hP : bx_p F o n K tP) {x : Int} (hx0 : 0 ≤ x) (hxK : x < (K : Int)) : am_E ac_X0_closeRings (0, [vR o, vR (o + 2 + x.toNat), vU, vU, vU, vU], [], aq_h m s F c) (aq_Z m s F S c (fun r _ => r = some (vI (cl_r (n : Int) (tP ((x.toNat : Nat) : Int)))))) := by
  obtain ⟨hm, hn1, hn4, hK, hFo, hFd, hFs⟩ := hB
  obtain ⟨hPg, hPr, hPt⟩ := hP
  refine am_E.go (t2 := (1, [vR o, vR (o + 2 + x.toNat), vU, vU, vU, vU], [vR o], aq_h m s F c)) rfl rfl ?_
  refine aq_callv (y := 1) (as2 := []) (rest := []) rfl rfl (by decide) (Nat.le_of_ble_eq_true rfl) rfl rfl (Nat.le_of_ble_eq_true rfl) (by omega) hFo rfl (Nat.le_of_ble_eq_true rfl) (qn_X0_forgetSeen ⟨hm, hn1, hn4, hK, hFo, hFd, hFs⟩) ?_
  rintro r5 h5 ⟨c_z, rfl, s_z, rfl, hz_z⟩
  show am_E _ (4, [vR o, vR (o + 2 + x.toNat), vU, vU, vU, vU], [], aq_h m s F c_z) _
  refine am_E.go (t2 := (5, [vR o, vR (o + 2 + x.toNat), vU, vU, vU, vU], [vI 0], aq_h m s F c_z)) rfl rfl ?_
  refine am_E.go (t2 := (6, [vR o, vR (o + 2 + x.toNat), vI 0, vU, vU, vU], [], aq_h m s F c_z)) rfl rfl ?_
  refine am_E.go (t2 := (7, [vR o, vR (o + 2 + x.toNat), vI 0, vU, vU, vU], [vI 0], aq_h m s F c_z)) rfl rfl ?_
  refine am_E.go (t2 := (8, [vR o, vR (o + 2 + x.toNat), vI 0, vI 0, vU, vU], [], aq_h m s F c_z)) rfl rfl ?_
  exact qz_close_o ⟨hm, hn1, hn4, hK, hFo, hFd, hFs⟩ hSs ⟨hPg, hPr, hPt⟩ hx0 hxK 9 (fun _ => 0) 0 0 (vU) (vU) c_z (aq_smt aq_sm0 (aq_smi s_z (fun a h => by rw [h]; exact hSs))) (by omega) (by omega) (by omega) (by omega) hz_z rfl (by omega)

theorem qz_rings_l {m s : Nat} {F : aq_F} {c0 : aq_C} {S : Nat → Prop} {o n K : Nat} (hB : bx_0 m F o n K) (hSd : S (o + 6 + 3 * K)) (hSs : S (o + 7 + 3 * K)) {tP : Int → Int → Int} (hP : bx_p F o n K tP) (hR : F (o + 2 + K) = (0, K, fun _ => .inl 0)) (hSr : S (o + 2 + K)) (hKn : (K : Int) = bx_K (n : Int)) {nn : Int} {Z : Option am_V → am_H → Prop} : ∀ (d : Nat) (b : Int) (c : aq_C) (hs : aq_sm S c0 c) (h0 : 0 ≤ b) (h1 : b ≤ (K : Int)) (hr : aq_rg (o + 6 + 3 * K) (2 * (n : Int)) 0 (2 * (n : Int)) c) (hg : ∀ i, 0 ≤ i → i < b → c (o + 2 + K) i = (rg_ (n : Int)) i) (hd : (K : Int) - b < (d : Int)) (K0 : ∀ (b2 : Int) (c2 : aq_C) (hs2 : aq_sm S c0 c2) (hr2 : aq_rg (o + 6 + 3 * K) (2 * (n : Int)) 0 (2 * (n : Int)) c2) (hg2 : ∀ i, 0 ≤ i → i < (K : Int) → c2 (o + 2 + K) i = (rg_ (n : Int)) i), am_E ac_X0_init (158, [vR o, vI nn, vI b2], [], aq_h m s F c2) Z), am_E ac_X0_init (128, [vR o, vI nn, vI b], [], aq_h m s F c) Z
  | 0, b, c, hs, h0, h1, hr, hg, hd, K0 => by exfalso; omega
  | d + 1, b, c, hs, h0, h1, hr, hg, hd, K0 => by
    obtain ⟨hm, hn1, hn4, hK, hFo, hFd, hFs⟩ := hB
    obtain ⟨hPg, hPr, hPt⟩ := hP
    refine am_E.go (t2 := (129, [vR o, vI nn, vI b], [vI b], aq_h m s F c)) rfl rfl ?_
    refine am_E.go (t2 := (130, [vR o, vI nn, vI b], [vR o, vI b], aq_h m s F c)) rfl rfl ?_
    refine aq_gf (v := vI (K : Int)) rfl (by omega) hFo (by decide) rfl ?_
    show am_E _ (133, [vR o, vI nn, vI b], [vI (K : Int), vI b], aq_h m s F c) _
    refine ae_icmp rfl (fun (q_1 : (K : Int) ≤ b) => ?_) (fun (q_1 : b < (K : Int)) => ?_)
    · exact K0 b c hs hr (fun i i0 i1 => hg i i0 (by omega))
    · refine am_E.go (t2 := (137, [vR o, vI nn, vI b], [vR o], aq_h m s F c)) rfl rfl ?_
      refine aq_gf (v := vR (o + 2 + K)) rfl (by omega) hFo (by decide) rfl ?_
      show am_E _ (140, [vR o, vI nn, vI b], [vR (o + 2 + K)], aq_h m s F c) _
      refine am_E.go (t2 := (141, [vR o, vI nn, vI b], [vI b, vR (o + 2 + K)], aq_h m s F c)) rfl rfl ?_
      refine am_E.go (t2 := (142, [vR o, vI nn, vI b], [vR o, vI b, vR (o + 2 + K)], aq_h m s F c)) rfl rfl ?_
      refine am_E.go (t2 := (143, [vR o, vI nn, vI b], [vR o, vR o, vI b, vR (o + 2 + K)], aq_h m s F c)) rfl rfl ?_
      refine aq_gf (v := vR (o + 1)) rfl (by omega) hFo (by decide) rfl ?_
      show am_E _ (146, [vR o, vI nn, vI b], [vR (o + 1), vR o, vI b, vR (o + 2 + K)], aq_h m s F c) _
      refine am_E.go (t2 := (147, [vR o, vI nn, vI b], [vI b, vR (o + 1), vR o, vI b, vR (o + 2 + K)], aq_h m s F c)) rfl rfl ?_
      refine aq_al (ok := fun k => decide (3 ≤ k) && decide (k < 7)) (v := vR (o + 2 + b.toNat)) rfl rfl (by omega) hPg rfl (by omega) (by omega) (aq_gi (by omega)) ?_
      show am_E _ (148, [vR o, vI nn, vI b], [vR (o + 2 + b.toNat), vR o, vI b, vR (o + 2 + K)], aq_h m s F c) _
      refine aq_callv (y := 2) (as2 := [vR (o + 2 + b.toNat)]) (rest := [vI b, vR (o + 2 + K)]) rfl rfl (by decide) (Nat.le_of_ble_eq_true rfl) rfl rfl (Nat.le_of_ble_eq_true rfl) (by omega) hFo rfl (Nat.le_of_ble_eq_true rfl) (qz_closeRings (S := fun a => a = o + 7 + 3 * K) ⟨hm, hn1, hn4, hK, hFo, hFd, hFs⟩ rfl ⟨hPg, hPr, hPt⟩ (x := b) (by omega) (by omega)) ?_
      rintro r5 h5 ⟨cj, rfl, scj, rfl⟩
      show am_E _ (151, [vR o, vI nn, vI b], [vI (cl_r (n : Int) (tP ((b.toNat : Nat) : Int))), vI b, vR (o + 2 + K)], aq_h m s F cj) _
      refine aq_as (kd := 0) rfl rfl (by omega) hR (by omega) (by omega) rfl rfl ?_
      show am_E _ (152, [vR o, vI nn, vI b], [], aq_h m s F (aq_u cj (o + 2 + K) b (cl_r (n : Int) (tP ((b.toNat : Nat) : Int))))) _
      generalize hdc_2 : aq_u cj (o + 2 + K) b (cl_r (n : Int) (tP ((b.toNat : Nat) : Int))) = c_2
      have sc_2 := aq_smu (aq_smt hs (aq_smi scj (fun a h => by rw [h]; exact hSs))) hdc_2 hSr
      have hdrc_2 := aq_rgn (aq_rgs hr scj (by omega)) hdc_2 (by omega)
      refine ae_iinc rfl rfl (am_ri (by omega) (by omega)) ?_
      show am_E _ (155, [vR o, vI nn, vI (b + 1)], [], aq_h m s F c_2) _
      refine am_E.go (t2 := (128, [vR o, vI nn, vI (b + 1)], [], aq_h m s F c_2)) rfl rfl ?_
      exact qz_rings_l ⟨hm, hn1, hn4, hK, hFo, hFd, hFs⟩ hSd hSs ⟨hPg, hPr, hPt⟩ hR hSr hKn d (b + 1) c_2 sc_2 (by omega) (by omega) hdrc_2 (aq_fl (g := rg_ (n : Int)) (fun i i0 i1 => by rw [scj _ (by omega)]; exact hg i i0 i1) hdc_2 (rg_e (by omega) (by omega) h0 (by omega) (fun i i0 i1 => by have := (hPt ((b.toNat : Nat) : Int) i (by omega) (by omega) i0 i1).2.2; rw [this, Int.toNat_of_nonneg h0]))) (by omega) K0

theorem rn_J9_min {a b : Int} (h : am_H) : am_E ac_J9_min_7cf53 (0, [vI a, vI b], [], h) (fun r h2 => h2 = h ∧ ∃ v, r = some (vI v) ∧ ((a ≤ b ∧ v = a) ∨ (b < a ∧ v = b))) := by
  refine am_E.go (t2 := (1, [vI a, vI b], [vI a], h)) rfl rfl ?_
  refine am_E.go (t2 := (2, [vI a, vI b], [vI b, vI a], h)) rfl rfl ?_
  refine ae_icmp rfl (fun (q : b < a) => ?_) (fun (q : a ≤ b) => ?_)
  · refine am_E.go (t2 := (10, [vI a, vI b], [vI b], h)) rfl rfl ?_
    exact am_E.ret rfl rfl ⟨rfl, _, rfl, by omega⟩
  · refine am_E.go (t2 := (6, [vI a, vI b], [vI a], h)) rfl rfl ?_
    refine am_E.go (t2 := (10, [vI a, vI b], [vI a], h)) rfl rfl ?_
    exact am_E.ret rfl rfl ⟨rfl, _, rfl, by omega⟩
theorem qb_spell_u {m s : Nat} {F : aq_F} {c0 : aq_C} {S : Nat → Prop} {o n K : Nat} (hB : bx_0 m F o n K) (hSd : S (o + 6 + 3 * K)) (hSs : S (o + 7 + 3 * K)) (hL : F (o + 3 + K) = (0, K, fun _ => .inl 0)) (hSl : S (o + 3 + K)) {Z : Option am_V → am_H → Prop} : ∀ (d : Nat) (b : Int) (c : aq_C) (hs : aq_sm S c0 c) (h0 : 0 ≤ b) (h1 : b ≤ (K : Int)) (hr : aq_rg (o + 6 + 3 * K) (2 * (n : Int)) 0 (2 * (n : Int)) c) (hz : ∀ i, 0 ≤ i → i < b → c (o + 3 + K) i = (fun _ => -1) i) (hd : (K : Int) - b < (d : Int)) (K0 : ∀ (b2 : Int) (c2 : aq_C) (hs2 : aq_sm S c0 c2) (hr2 : aq_rg (o + 6 + 3 * K) (2 * (n : Int)) 0 (2 * (n : Int)) c2) (hz2 : ∀ i, 0 ≤ i → i < (K : Int) → c2 (o + 3 + K) i = -1), am_E ac_X0_spellAll (23, [vR o, vI b2, vU, vU, vU, vU], [], aq_h m s F c2) Z), am_E ac_X0_spellAll (2, [vR o, vI b, vU, vU, vU, vU], [], aq_h m s F c) Z
  | 0, b, c, hs, h0, h1, hr, hz, hd, K0 => by exfalso; omega
  | d + 1, b, c, hs, h0, h1, hr, hz, hd, K0 => by
    obtain ⟨hm, hn1, hn4, hK, hFo, hFd, hFs⟩ := hB
    refine am_E.go (t2 := (3, [vR o, vI b, vU, vU, vU, vU], [vI b], aq_h m s F c)) rfl rfl ?_
    refine am_E.go (t2 := (4, [vR o, vI b, vU, vU, vU, vU], [vR o, vI b], aq_h m s F c)) rfl rfl ?_
    refine aq_gf (v := vI (K : Int)) rfl (by omega) hFo (by decide) rfl ?_
    show am_E _ (7, [vR o, vI b, vU, vU, vU, vU], [vI (K : Int), vI b], aq_h m s F c) _
    refine ae_icmp rfl (fun (q_1 : (K : Int) ≤ b) => ?_) (fun (q_1 : b < (K : Int)) => ?_)
    · exact K0 b c hs hr (fun i i0 i1 => hz i i0 (by omega))
    · refine am_E.go (t2 := (11, [vR o, vI b, vU, vU, vU, vU], [vR o], aq_h m s F c)) rfl rfl ?_
      refine aq_gf (v := vR (o + 3 + K)) rfl (by omega) hFo (by decide) rfl ?_
      show am_E _ (14, [vR o, vI b, vU, vU, vU, vU], [vR (o + 3 + K)], aq_h m s F c) _
      refine am_E.go (t2 := (15, [vR o, vI b, vU, vU, vU, vU], [vI b, vR (o + 3 + K)], aq_h m s F c)) rfl rfl ?_
      refine am_E.go (t2 := (16, [vR o, vI b, vU, vU, vU, vU], [vI (-1), vI b, vR (o + 3 + K)], aq_h m s F c)) rfl rfl ?_
      refine aq_as (kd := 0) rfl rfl (by omega) hL (by omega) (by omega) rfl rfl ?_
      show am_E _ (17, [vR o, vI b, vU, vU, vU, vU], [], aq_h m s F (aq_u c (o + 3 + K) b (-1))) _
      generalize hdc_2 : aq_u c (o + 3 + K) b (-1) = c_2
      have sc_2 := aq_smu hs hdc_2 hSl
      have hdrc_2 := aq_rgn hr hdc_2 (by omega)
      refine ae_iinc rfl rfl (am_ri (by omega) (by omega)) ?_
      show am_E _ (20, [vR o, vI (b + 1), vU, vU, vU, vU], [], aq_h m s F c_2) _
      refine am_E.go (t2 := (2, [vR o, vI (b + 1), vU, vU, vU, vU], [], aq_h m s F c_2)) rfl rfl ?_
      exact qb_spell_u ⟨hm, hn1, hn4, hK, hFo, hFd, hFs⟩ hSd hSs hL hSl d (b + 1) c_2 sc_2 (by omega) (by omega) hdrc_2 (aq_fl hz hdc_2 rfl) (by omega) K0

theorem bx_0m {m m2 o n K : Nat} {F F2 : aq_F} (hB : bx_0 m F o n K) (h : ∀ a, a < o + 8 + 3 * K → F2 a = F a) (hm : m ≤ m2) : bx_0 m2 F2 o n K := by
  obtain ⟨k1, k2, k3, k4, k5, k6, k7⟩ := hB
  exact ⟨by omega, k2, k3, k4, by rw [h _ (by omega)]; exact k5, by rw [h _ (by omega)]; exact k6, by rw [h _ (by omega)]; exact k7⟩
theorem dgm_0 (n k : Int) : dgm n 0 k = 0 := by
  unfold dgm
  (repeat' split) <;> rfl
theorem qb_listPairings {m s : Nat} {F : aq_F} {c : aq_C} {o n K : Nat} (hB : bx_0 m F o n K) (hKn : (K : Int) = bx_K (n : Int)) (hPg : F (o + 1) = (3, K, fun j => aq_g K j (o + 2 + j))) (hPr : ∀ b, b < K → F (o + 2 + b) = (0, 2 * n, fun _ => .inl 0)) : am_E ac_X0_listPairings (0, [vR o, vU, vU], [], aq_h m s F c) (fun r h2 => ∃ (s2 : Nat) (F2 : aq_F) (d : aq_C), r = none ∧ h2 = aq_h (m + 1) s2 F2 d ∧ s2 = s + n ∧ (∀ a, a ≠ m → F2 a = F a) ∧ aq_sm (fun a => a = o + 7 + 3 * K ∨ a = m ∨ (o + 2 ≤ a ∧ a < o + 2 + K)) c d ∧ ∀ b i : Int, 0 ≤ b → b < (K : Int) → 0 ≤ i → i < 2 * (n : Int) → d (o + 2 + b.toNat) i = prt (n : Int) b i) := by
  obtain ⟨hm, hn1, hn4, hK, hFo, hFd, hFs⟩ := hB
  refine am_E.go (t2 := (1, [vR o, vU, vU], [vR o], aq_h m s F c)) rfl rfl ?_
  refine aq_gf (v := vI (n : Int)) rfl (by omega) hFo (by decide) rfl ?_
  refine aq_nwa (n := n) (a := m) (m2 := m + 1) rfl (by decide) rfl (by omega) rfl rfl ?_
  intro s2 F2 c2 es e1 e2 e3 e4
  refine am_E.go (t2 := (7, [vR o, vR m, vU], [], aq_h (m + 1) s2 F2 c2)) rfl rfl ?_
  refine am_E.go (t2 := (8, [vR o, vR m, vU], [vI 0], aq_h (m + 1) s2 F2 c2)) rfl rfl ?_
  refine am_E.go (t2 := (9, [vR o, vR m, vI 0], [], aq_h (m + 1) s2 F2 c2)) rfl rfl ?_
  have hB2 : bx_0 (m + 1) F2 o n K := bx_0m ⟨hm, hn1, hn4, hK, hFo, hFd, hFs⟩ (fun a ha => e2 a (by omega)) (by omega)
  refine am_E.imp (qb_list_l hB2 hKn (by rw [e2 _ (by omega)]; exact hPg) (fun b hb => by rw [e2 _ (by omega)]; exact hPr b hb) (ap := m) (by omega) e1 (by omega) 106 0 c2 aq_sm0 (by omega) (by omega) (fun _ i _ _ => by rw [e3, dgm_0]) (fun b2 i k0 k1 => absurd k1 (by omega)) (by omega)) ?_
  rintro r h2 ⟨d, rfl, g2, rfl, g4⟩
  refine ⟨s2, F2, d, rfl, rfl, es, e2, fun a ha i => ?_, g4⟩
  rw [g2 a ha i]
  exact e4 a (by omega) i

/-- found are the first z, their lengths and spellings are told, the others are unknown -/
def bx_sx (o n K f : Nat) (z : Int) (c : aq_C) : Prop := (∀ j, 0 ≤ j → j < z → c f j = fd_ (n : Int) j) ∧ ∀ b : Int, 0 ≤ b → b < (K : Int) → (ix_ (n : Int) b < z → c (o + 3 + K) b = ln_ (n : Int) b ∧ ∀ i, 0 ≤ i → i < ln_ (n : Int) b → c (o + 5 + K + b.toNat) i = sp_ (n : Int) b i) ∧ (z ≤ ix_ (n : Int) b → c (o + 3 + K) b = -1)
theorem sx_l {o n K f : Nat} {z b : Int} {c : aq_C} (h : bx_sx o n K f z c) (h1 : 1 ≤ n) (h4 : n ≤ 4) (hK : (K : Int) = bx_K (n : Int)) (b0 : 0 ≤ b) (bK : b < (K : Int)) : (ix_ (n : Int) b < z ∧ c (o + 3 + K) b = ln_ (n : Int) b ∧ 0 ≤ ln_ (n : Int) b ∧ ln_ (n : Int) b ≤ 6) ∨ (z ≤ ix_ (n : Int) b ∧ c (o + 3 + K) b = -1) := by
  have a := (tb_A_a (n := (n : Int)) (x := b) (by omega) (by omega) b0 (by omega)).1
  have k := h.2 b b0 bK
  by_cases e : ix_ (n : Int) b < z
  · exact Or.inl ⟨e, (k.1 e).1, a.1, a.2⟩
  · exact Or.inr ⟨by omega, k.2 (by omega)⟩
theorem sx_f {o n K f : Nat} {z j : Int} {c : aq_C} (h : bx_sx o n K f z c) (h1 : 1 ≤ n) (h4 : n ≤ 4) (hK : (K : Int) = bx_K (n : Int)) (hz : z ≤ (K : Int)) (j0 : 0 ≤ j) (jz : j < z) : c f j = fd_ (n : Int) j ∧ 0 ≤ fd_ (n : Int) j ∧ fd_ (n : Int) j < (K : Int) ∧ ix_ (n : Int) (fd_ (n : Int) j) = j := by
  have a := (tb_A_a (n := (n : Int)) (x := j) (by omega) (by omega) j0 (by omega)).2.2.1
  exact ⟨h.1 j j0 jz, a.1, by omega, a.2.2⟩
/-- what spellBehind does -/
def sl_h (o K : Nat) (b w k : Int) (c d : aq_C) : Prop := d (o + 3 + K) b = c (o + 3 + K) w + 1 ∧ (∀ j, j ≠ b → d (o + 3 + K) j = c (o + 3 + K) j) ∧ (∀ i, 0 ≤ i → i < c (o + 3 + K) w → d (o + 5 + K + b.toNat) i = c (o + 5 + K + w.toNat) i) ∧ d (o + 5 + K + b.toNat) (c (o + 3 + K) w) = k ∧ ∀ x : Int, 0 ≤ x → x ≠ b → ∀ i, d (o + 5 + K + x.toNat) i = c (o + 5 + K + x.toNat) i
theorem sl_hw {o n K : Nat} {b w k l : Int} {c c1 c2 c3 : aq_C} (hb0 : 0 ≤ b) (hbK : b < (K : Int)) (hw0 : 0 ≤ w) (hwK : w < (K : Int)) (hl0 : 0 ≤ l) (hlw : l = c (o + 3 + K) w) (e1 : aq_cp c (o + 5 + K + w.toNat) (0 : Int).toNat (o + 5 + K + b.toNat) (0 : Int).toNat l.toNat = c1) (e2 : aq_u c1 (o + 5 + K + b.toNat) l k = c2) (e3 : aq_u c2 (o + 3 + K) b (l + 1) = c3) : sl_h o K b w k c c3 := by
  refine ⟨by rw [← e3, aq_us, hlw], fun j hj => ?_, fun i i0 i1 => ?_, ?_, fun x x0 xb i => ?_⟩
  · rw [← e3, aq_un (Or.inr hj), ← e2, aq_un (Or.inl (by omega)), ← e1]
    unfold aq_cp
    rw [if_neg (by omega)]
  · rw [← e3, aq_un (Or.inl (by omega)), ← e2, aq_un (Or.inr (by omega)), ← e1]
    unfold aq_cp
    have z0 : (((0 : Int).toNat : Nat) : Int) = 0 := rfl
    rw [z0, if_pos (by omega), show (0 : Int) + (i - 0) = i by omega]
  · rw [← e3, aq_un (Or.inl (by omega)), ← e2, ← hlw, aq_us]
  · rw [← e3, aq_un (Or.inl (by omega)), ← e2, aq_un (Or.inl (by omega)), ← e1]
    unfold aq_cp
    rw [if_neg (by omega)]
/-- one more is found -/
theorem sx_u {o n K f : Nat} {i k : Int} {c d e : aq_C} (h1 : 1 ≤ n) (h4 : n ≤ 4) (hK : (K : Int) = bx_K (n : Int)) (hf : o + 8 + 3 * K ≤ f) (h : bx_sx o n K f (sz_ (n : Int) i k) c) (i0 : 0 ≤ i) (iK : i < (K : Int)) (k0 : 0 ≤ k) (kL : k < 2 * (n : Int) - 2) (hn0 : 0 ≤ bn_ (n : Int) (fd_ (n : Int) i) k) (hn : bn_ (n : Int) (fd_ (n : Int) i) k < (K : Int)) (hx : sz_ (n : Int) i k ≤ ix_ (n : Int) (bn_ (n : Int) (fd_ (n : Int) i) k)) (hz : sz_ (n : Int) i k < (K : Int)) (hd : sl_h o K (bn_ (n : Int) (fd_ (n : Int) i) k) (fd_ (n : Int) i) k c d) (hs : ∀ j, d f j = c f j) (he : aq_u d f (sz_ (n : Int) i k) (bn_ (n : Int) (fd_ (n : Int) i) k) = e) : bx_sx o n K f (sz_ (n : Int) i k + 1) e := by
  have tB := (tb_B_a (n := (n : Int)) (x := i) (k := k) (by omega) (by omega) i0 (by omega) k0 (by omega)) kL
  obtain ⟨t1, t2, t3⟩ := tB
  rw [if_pos ⟨by omega, hx, by omega⟩] at t3
  obtain ⟨u1, u2, u3, u4, u5, u6, u7⟩ := t3
  have tA := tb_A_a (n := (n : Int)) (x := i) (by omega) (by omega) i0 (by omega)
  obtain ⟨-, -, ⟨a1, a2, a3⟩, -⟩ := tA
  have tW := tb_A_a (n := (n : Int)) (x := fd_ (n : Int) i) (by omega) (by omega) a1 (by omega)
  have tX := tb_A_a (n := (n : Int)) (x := bn_ (n : Int) (fd_ (n : Int) i) k) (by omega) (by omega) hn0 (by omega)
  have hWk := (h.2 (fd_ (n : Int) i) a1 (by omega)).1 (by omega)
  obtain ⟨d1, d2, d3, d4, d5⟩ := hd
  have eo : ∀ a, a ≠ f → ∀ j, e a j = d a j := fun a ha j => by rw [← he, aq_un (Or.inl ha)]
  refine ⟨fun j j0 jz => ?_, fun b b0 bK => ⟨fun q => ?_, fun q => ?_⟩⟩
  · by_cases ej : j = sz_ (n : Int) i k
    · rw [← he, ej, aq_us, u1]
    · rw [← he, aq_un (Or.inr ej), hs]
      exact h.1 j j0 (by omega)
  · by_cases eb : b = bn_ (n : Int) (fd_ (n : Int) i) k
    · refine ⟨by rw [eo _ (by omega), eb, d1, hWk.1, u2], fun j j0 j1 => ?_⟩
      rw [eo _ (by omega), eb]
      by_cases ej : j = ln_ (n : Int) (fd_ (n : Int) i)
      · rw [ej, u5, ← hWk.1]
        exact d4
      · have jl : j < ln_ (n : Int) (fd_ (n : Int) i) := by rw [eb, u2] at j1; omega
        rw [d3 j j0 (by rw [hWk.1]; exact jl), hWk.2 j j0 jl]
        have := u4 j.toNat (by omega) (by rw [Int.toNat_of_nonneg j0]; exact jl)
        rw [Int.toNat_of_nonneg j0] at this
        exact this.symm
    · have tb := tb_A_a (n := (n : Int)) (x := b) (by omega) (by omega) b0 (by omega)
      have hne : ix_ (n : Int) b ≠ sz_ (n : Int) i k := fun q5 => eb (by have := tb.2.1.2.2; rw [q5, u1] at this; exact this.symm)
      have hb := (h.2 b b0 bK).1 (by omega)
      refine ⟨by rw [eo _ (by omega), d2 b eb]; exact hb.1, fun j j0 j1 => ?_⟩
      rw [eo _ (by omega), d5 b b0 eb]
      exact hb.2 j j0 j1
  · have eb : b ≠ bn_ (n : Int) (fd_ (n : Int) i) k := fun q5 => by rw [q5, u6] at q; omega
    rw [eo _ (by omega), d2 b eb]
    exact (h.2 b b0 bK).2 (by omega)
theorem qz_spellBehind {m s : Nat} {F : aq_F} {c : aq_C} {S : Nat → Prop} {o n K : Nat} (hB : bx_0 m F o n K) (hL : F (o + 3 + K) = (0, K, fun _ => .inl 0)) (hGg : F (o + 4 + K) = (3, K, fun j => aq_g K j (o + 5 + K + j))) (hGr : ∀ b, b < K → F (o + 5 + K + b) = (0, 6, fun _ => .inl 0)) (hSl : S (o + 3 + K)) (hSg : ∀ b, b < K → S (o + 5 + K + b)) {b w k : Int} (hb0 : 0 ≤ b) (hbK : b < (K : Int)) (hw0 : 0 ≤ w) (hwK : w < (K : Int)) (hlw : 0 ≤ c (o + 3 + K) w) (hl5 : c (o + 3 + K) w ≤ 5) : am_E ac_X0_spellBehind (0, [vR o, vI b, vI w, vI k, vU], [], aq_h m s F c) (aq_Z m s F S c (fun r d => r = none ∧ sl_h o K b w k c d)) := by
  obtain ⟨hm, hn1, hn4, hK, hFo, hFd, hFs⟩ := hB
  refine am_E.go (t2 := (1, [vR o, vI b, vI w, vI k, vU], [vR o], aq_h m s F c)) rfl rfl ?_
  refine aq_gf (v := vR (o + 3 + K)) rfl (by omega) hFo (by decide) rfl ?_
  show am_E _ (4, [vR o, vI b, vI w, vI k, vU], [vR (o + 3 + K)], aq_h m s F c) _
  refine am_E.go (t2 := (5, [vR o, vI b, vI w, vI k, vU], [vI w, vR (o + 3 + K)], aq_h m s F c)) rfl rfl ?_
  refine aq_al (ok := fun k => k == 0) (v := vI (c (o + 3 + K) w)) rfl rfl (by omega) hL rfl (by omega) (by omega) rfl ?_
  show am_E _ (6, [vR o, vI b, vI w, vI k, vU], [vI (c (o + 3 + K) w)], aq_h m s F c) _
  refine am_E.go (t2 := (7, [vR o, vI b, vI w, vI k, vU], [vI 5, vI (c (o + 3 + K) w)], aq_h m s F c)) rfl rfl ?_
  refine am_E.call rfl rfl rfl (Nat.le_of_ble_eq_true rfl) (rn_J9_min _) ?_
  rintro r5 h5 ⟨rfl, v_1, rfl, hv_1⟩
  show am_E _ (10, [vR o, vI b, vI w, vI k, vU], [vI v_1], aq_h m s F c) _
  refine am_E.go (t2 := (12, [vR o, vI b, vI w, vI k, vI v_1], [], aq_h m s F c)) rfl rfl ?_
  refine am_E.go (t2 := (13, [vR o, vI b, vI w, vI k, vI v_1], [vR o], aq_h m s F c)) rfl rfl ?_
  refine aq_gf (v := vR (o + 4 + K)) rfl (by omega) hFo (by decide) rfl ?_
  show am_E _ (16, [vR o, vI b, vI w, vI k, vI v_1], [vR (o + 4 + K)], aq_h m s F c) _
  refine am_E.go (t2 := (17, [vR o, vI b, vI w, vI k, vI v_1], [vI w, vR (o + 4 + K)], aq_h m s F c)) rfl rfl ?_
  refine aq_al (ok := fun k => decide (3 ≤ k) && decide (k < 7)) (v := vR (o + 5 + K + w.toNat)) rfl rfl (by omega) hGg rfl (by omega) (by omega) (aq_gi (by omega)) ?_
  show am_E _ (18, [vR o, vI b, vI w, vI k, vI v_1], [vR (o + 5 + K + w.toNat)], aq_h m s F c) _
  refine am_E.go (t2 := (19, [vR o, vI b, vI w, vI k, vI v_1], [vI 0, vR (o + 5 + K + w.toNat)], aq_h m s F c)) rfl rfl ?_
  refine am_E.go (t2 := (20, [vR o, vI b, vI w, vI k, vI v_1], [vR o, vI 0, vR (o + 5 + K + w.toNat)], aq_h m s F c)) rfl rfl ?_
  refine aq_gf (v := vR (o + 4 + K)) rfl (by omega) hFo (by decide) rfl ?_
  show am_E _ (23, [vR o, vI b, vI w, vI k, vI v_1], [vR (o + 4 + K), vI 0, vR (o + 5 + K + w.toNat)], aq_h m s F c) _
  refine am_E.go (t2 := (24, [vR o, vI b, vI w, vI k, vI v_1], [vI b, vR (o + 4 + K), vI 0, vR (o + 5 + K + w.toNat)], aq_h m s F c)) rfl rfl ?_
  refine aq_al (ok := fun k => decide (3 ≤ k) && decide (k < 7)) (v := vR (o + 5 + K + b.toNat)) rfl rfl (by omega) hGg rfl (by omega) (by omega) (aq_gi (by omega)) ?_
  show am_E _ (25, [vR o, vI b, vI w, vI k, vI v_1], [vR (o + 5 + K + b.toNat), vI 0, vR (o + 5 + K + w.toNat)], aq_h m s F c) _
  refine am_E.go (t2 := (26, [vR o, vI b, vI w, vI k, vI v_1], [vI 0, vR (o + 5 + K + b.toNat), vI 0, vR (o + 5 + K + w.toNat)], aq_h m s F c)) rfl rfl ?_
  refine am_E.go (t2 := (28, [vR o, vI b, vI w, vI k, vI v_1], [vI v_1, vI 0, vR (o + 5 + K + b.toNat), vI 0, vR (o + 5 + K + w.toNat)], aq_h m s F c)) rfl rfl ?_
  refine aq_cpy (n := (v_1 : Int).toNat) (sp := (0 : Int).toNat) (dp := (0 : Int).toNat) rfl (by omega) (by omega) (hGr _ (by omega)) (hGr _ (by omega)) (by decide) (by omega) (by omega) (by omega) (by omega) (by omega) ?_
  show am_E _ (31, [vR o, vI b, vI w, vI k, vI v_1], [], aq_h m s F (aq_cp c (o + 5 + K + w.toNat) (0 : Int).toNat (o + 5 + K + b.toNat) (0 : Int).toNat (v_1 : Int).toNat)) _
  generalize hdc_2 : aq_cp c (o + 5 + K + w.toNat) (0 : Int).toNat (o + 5 + K + b.toNat) (0 : Int).toNat (v_1 : Int).toNat = c_2
  have sc_2 := aq_smc aq_sm0 hdc_2 (hSg _ (by omega))
  refine am_E.go (t2 := (32, [vR o, vI b, vI w, vI k, vI v_1], [vR o], aq_h m s F c_2)) rfl rfl ?_
  refine aq_gf (v := vR (o + 4 + K)) rfl (by omega) hFo (by decide) rfl ?_
  show am_E _ (35, [vR o, vI b, vI w, vI k, vI v_1], [vR (o + 4 + K)], aq_h m s F c_2) _
  refine am_E.go (t2 := (36, [vR o, vI b, vI w, vI k, vI v_1], [vI b, vR (o + 4 + K)], aq_h m s F c_2)) rfl rfl ?_
  refine aq_al (ok := fun k => decide (3 ≤ k) && decide (k < 7)) (v := vR (o + 5 + K + b.toNat)) rfl rfl (by omega) hGg rfl (by omega) (by omega) (aq_gi (by omega)) ?_
  show am_E _ (37, [vR o, vI b, vI w, vI k, vI v_1], [vR (o + 5 + K + b.toNat)], aq_h m s F c_2) _
  refine am_E.go (t2 := (39, [vR o, vI b, vI w, vI k, vI v_1], [vI v_1, vR (o + 5 + K + b.toNat)], aq_h m s F c_2)) rfl rfl ?_
  refine am_E.go (t2 := (40, [vR o, vI b, vI w, vI k, vI v_1], [vI k, vI v_1, vR (o + 5 + K + b.toNat)], aq_h m s F c_2)) rfl rfl ?_
  refine aq_as (kd := 0) rfl rfl (by omega) (hGr _ (by omega)) (by omega) (by omega) rfl rfl ?_
  show am_E _ (41, [vR o, vI b, vI w, vI k, vI v_1], [], aq_h m s F (aq_u c_2 (o + 5 + K + b.toNat) v_1 k)) _
  generalize hdc_3 : aq_u c_2 (o + 5 + K + b.toNat) v_1 k = c_3
  have sc_3 := aq_smu sc_2 hdc_3 (hSg _ (by omega))
  refine am_E.go (t2 := (42, [vR o, vI b, vI w, vI k, vI v_1], [vR o], aq_h m s F c_3)) rfl rfl ?_
  refine aq_gf (v := vR (o + 3 + K)) rfl (by omega) hFo (by decide) rfl ?_
  show am_E _ (45, [vR o, vI b, vI w, vI k, vI v_1], [vR (o + 3 + K)], aq_h m s F c_3) _
  refine am_E.go (t2 := (46, [vR o, vI b, vI w, vI k, vI v_1], [vI b, vR (o + 3 + K)], aq_h m s F c_3)) rfl rfl ?_
  refine am_E.go (t2 := (48, [vR o, vI b, vI w, vI k, vI v_1], [vI v_1, vI b, vR (o + 3 + K)], aq_h m s F c_3)) rfl rfl ?_
  refine am_E.go (t2 := (49, [vR o, vI b, vI w, vI k, vI v_1], [vI 1, vI v_1, vI b, vR (o + 3 + K)], aq_h m s F c_3)) rfl rfl ?_
  refine ae_add rfl (am_ri (by omega) (by omega)) ?_
  show am_E _ (50, [vR o, vI b, vI w, vI k, vI v_1], [vI (v_1 + 1), vI b, vR (o + 3 + K)], aq_h m s F c_3) _
  refine aq_as (kd := 0) rfl rfl (by omega) hL (by omega) (by omega) rfl rfl ?_
  show am_E _ (51, [vR o, vI b, vI w, vI k, vI v_1], [], aq_h m s F (aq_u c_3 (o + 3 + K) b (v_1 + 1))) _
  generalize hdc_4 : aq_u c_3 (o + 3 + K) b (v_1 + 1) = c_4
  have sc_4 := aq_smu sc_3 hdc_4 hSl
  refine am_E.ret rfl rfl ?_
  exact ⟨_, rfl, sc_4, rfl, sl_hw (n := n) hb0 hbK hw0 hwK (by omega) (by omega) hdc_2 hdc_3 hdc_4⟩

theorem qz_spell_i {m s : Nat} {F : aq_F} {c0 : aq_C} {S : Nat → Prop} {o n K : Nat} (hB : bx_0 m F o n K) (hSd : S (o + 6 + 3 * K)) (hSs : S (o + 7 + 3 * K)) (hL : F (o + 3 + K) = (0, K, fun _ => .inl 0)) (hGg : F (o + 4 + K) = (3, K, fun j => aq_g K j (o + 5 + K + j))) (hGr : ∀ b, b < K → F (o + 5 + K + b) = (0, 6, fun _ => .inl 0)) (hSl : S (o + 3 + K)) (hSg : ∀ b, b < K → S (o + 5 + K + b)) {tN : Int → Int → Int} (hNg : F (o + 5 + 2 * K) = (3, K, fun j => aq_g K j (o + 6 + 2 * K + j))) (hNr : ∀ b, b < K → F (o + 6 + 2 * K + b) = (0, 2 * n - 2, fun j => .inr (vI (tN (b : Int) (j : Int))))) (hNt : ∀ b k : Int, 0 ≤ b → b < (K : Int) → 0 ≤ k → k < 2 * (n : Int) - 2 → tN b k = bn_ (n : Int) b k) (hKn : (K : Int) = bx_K (n : Int)) {f : Nat} (hf : f < m) (hff : F f = (0, K, fun _ => .inl 0)) (hfo : o + 8 + 3 * K ≤ f) (hSf : S f) {i : Int} (hi0 : 0 ≤ i) : ∀ (d : Nat) (z : Int) (k : Int) (v5 : am_V) (c : aq_C) (hs : aq_sm S c0 c) (h0 : 0 ≤ k) (h1 : k ≤ 2 * (n : Int) - 2) (h2 : i < z) (h3 : z ≤ (K : Int)) (hr : aq_rg (o + 6 + 3 * K) (2 * (n : Int)) 0 (2 * (n : Int)) c) (hzz : z = sz_ (n : Int) i k) (hsx : bx_sx o n K f z c) (hd : 2 * (n : Int) - 2 - k < (d : Int)) (K0 : ∀ (z2 : Int) (k2 : Int) (v52 : am_V) (c2 : aq_C) (hs2 : aq_sm S c0 c2) (g1 : i < z2) (g2 : z2 ≤ (K : Int)) (hr2 : aq_rg (o + 6 + 3 * K) (2 * (n : Int)) 0 (2 * (n : Int)) c2) (hzz2 : z2 = sz_ (n : Int) i (2 * (n : Int) - 2)) (hsx2 : bx_sx o n K f z2 c2), am_E ac_X0_spellAll (142, [vR o, vR f, vI z2, vI i, vI k2, v52], [], aq_h m s F c2) (aq_Z m s F S c0 (fun r d => r = none ∧ aq_rg (o + 6 + 3 * K) (2 * (n : Int)) 0 (2 * (n : Int)) d ∧ bx_sx o n K f (K : Int) d))), am_E ac_X0_spellAll (67, [vR o, vR f, vI z, vI i, vI k, v5], [], aq_h m s F c) (aq_Z m s F S c0 (fun r d => r = none ∧ aq_rg (o + 6 + 3 * K) (2 * (n : Int)) 0 (2 * (n : Int)) d ∧ bx_sx o n K f (K : Int) d))
  | 0, z, k, v5, c, hs, h0, h1, h2, h3, hr, hzz, hsx, hd, K0 => by exfalso; omega
  | d + 1, z, k, v5, c, hs, h0, h1, h2, h3, hr, hzz, hsx, hd, K0 => by
    obtain ⟨hm, hn1, hn4, hK, hFo, hFd, hFs⟩ := hB
    refine am_E.go (t2 := (69, [vR o, vR f, vI z, vI i, vI k, v5], [vI k], aq_h m s F c)) rfl rfl ?_
    refine am_E.go (t2 := (70, [vR o, vR f, vI z, vI i, vI k, v5], [vR o, vI k], aq_h m s F c)) rfl rfl ?_
    refine aq_gf (v := vI (2 * (n : Int) - 2)) rfl (by omega) hFo (by decide) rfl ?_
    show am_E _ (73, [vR o, vR f, vI z, vI i, vI k, v5], [vI (2 * (n : Int) - 2), vI k], aq_h m s F c) _
    refine ae_icmp rfl (fun (q_1 : (2 * (n : Int) - 2) ≤ k) => ?_) (fun (q_1 : k < (2 * (n : Int) - 2)) => ?_)
    · exact K0 z k (v5) c hs (by omega) (by omega) hr (by rw [hzz, show k = 2 * (n : Int) - 2 by omega]) hsx
    · have hw_ := sx_f hsx hn1 hn4 hKn (j := i) h3 hi0 (by omega)
      have tB := (tb_B_a (n := (n : Int)) (x := i) (k := k) (by omega) (by omega) hi0 (by omega) (by omega) (by omega)) (by omega)
      obtain ⟨tB1, tB2, tB3⟩ := tB
      have hlw_ := sx_l hsx hn1 hn4 hKn (b := fd_ (n : Int) i) (by omega) (by omega)
      have ec_ : c (o + 3 + K) (c f i) = c (o + 3 + K) (fd_ (n : Int) i) := by rw [hw_.1]
      refine am_E.go (t2 := (77, [vR o, vR f, vI z, vI i, vI k, v5], [vR o], aq_h m s F c)) rfl rfl ?_
      refine aq_gf (v := vR (o + 5 + 2 * K)) rfl (by omega) hFo (by decide) rfl ?_
      show am_E _ (80, [vR o, vR f, vI z, vI i, vI k, v5], [vR (o + 5 + 2 * K)], aq_h m s F c) _
      refine am_E.go (t2 := (81, [vR o, vR f, vI z, vI i, vI k, v5], [vR f, vR (o + 5 + 2 * K)], aq_h m s F c)) rfl rfl ?_
      refine am_E.go (t2 := (82, [vR o, vR f, vI z, vI i, vI k, v5], [vI i, vR f, vR (o + 5 + 2 * K)], aq_h m s F c)) rfl rfl ?_
      refine aq_al (ok := fun k => k == 0) (v := vI (c f i)) rfl rfl hf hff rfl (by omega) (by omega) rfl ?_
      show am_E _ (83, [vR o, vR f, vI z, vI i, vI k, v5], [vI (c f i), vR (o + 5 + 2 * K)], aq_h m s F c) _
      have f_2 := sx_f hsx hn1 hn4 hKn (j := i) h3 (by omega) (by omega)
      refine aq_al (ok := fun k => decide (3 ≤ k) && decide (k < 7)) (v := vR (o + 6 + 2 * K + (c f i).toNat)) rfl rfl (by omega) hNg rfl (by omega) (by omega) (aq_gi (by omega)) ?_
      show am_E _ (84, [vR o, vR f, vI z, vI i, vI k, v5], [vR (o + 6 + 2 * K + (c f i).toNat)], aq_h m s F c) _
      refine am_E.go (t2 := (86, [vR o, vR f, vI z, vI i, vI k, v5], [vI k, vR (o + 6 + 2 * K + (c f i).toNat)], aq_h m s F c)) rfl rfl ?_
      refine aq_alt (ok := fun k => k == 0) rfl rfl (by omega) (hNr _ (by omega)) rfl (by omega) (by omega) ?_
      show am_E _ (87, [vR o, vR f, vI z, vI i, vI k, v5], [vI (tN (((c f i).toNat : Nat) : Int) k)], aq_h m s F c) _
      have f_3 : tN (((c f i).toNat : Nat) : Int) k = bn_ (n : Int) (fd_ (n : Int) i) k := by rw [Int.toNat_of_nonneg (by omega), hsx.1 i (by omega) (by omega)]; exact hNt _ _ (by omega) (by omega) (by omega) (by omega)
      have nn_ := tb_N_a (n := (n : Int)) (x := fd_ (n : Int) i) (k := k) (by omega) (by omega) (by omega) (by omega) (by omega) (by omega) (by omega)
      refine am_E.go (t2 := (89, [vR o, vR f, vI z, vI i, vI k, vI (tN (((c f i).toNat : Nat) : Int) k)], [], aq_h m s F c)) rfl rfl ?_
      refine am_E.go (t2 := (91, [vR o, vR f, vI z, vI i, vI k, vI (tN (((c f i).toNat : Nat) : Int) k)], [vI (tN (((c f i).toNat : Nat) : Int) k)], aq_h m s F c)) rfl rfl ?_
      refine am_E.go (t2 := (92, [vR o, vR f, vI z, vI i, vI k, vI (tN (((c f i).toNat : Nat) : Int) k)], [vR o, vI (tN (((c f i).toNat : Nat) : Int) k)], aq_h m s F c)) rfl rfl ?_
      refine aq_gf (v := vI (K : Int)) rfl (by omega) hFo (by decide) rfl ?_
      show am_E _ (95, [vR o, vR f, vI z, vI i, vI k, vI (tN (((c f i).toNat : Nat) : Int) k)], [vI (K : Int), vI (tN (((c f i).toNat : Nat) : Int) k)], aq_h m s F c) _
      refine ae_icmp rfl (fun (q_4 : (K : Int) ≤ (tN (((c f i).toNat : Nat) : Int) k)) => ?_) (fun (q_4 : (tN (((c f i).toNat : Nat) : Int) k) < (K : Int)) => ?_)
      · refine ae_iinc rfl rfl (am_ri (by omega) (by omega)) ?_
        show am_E _ (139, [vR o, vR f, vI z, vI i, vI (k + 1), vI (tN (((c f i).toNat : Nat) : Int) k)], [], aq_h m s F c) _
        refine am_E.go (t2 := (67, [vR o, vR f, vI z, vI i, vI (k + 1), vI (tN (((c f i).toNat : Nat) : Int) k)], [], aq_h m s F c)) rfl rfl ?_
        exact qz_spell_i ⟨hm, hn1, hn4, hK, hFo, hFd, hFs⟩ hSd hSs hL hGg hGr hSl hSg hNg hNr hNt hKn hf hff hfo hSf hi0 d z (k + 1) (vI (tN (((c f i).toNat : Nat) : Int) k)) c hs (by omega) (by omega) (by omega) (by omega) hr (by first | (rw [if_neg (by omega)] at tB3; rw [tB3, hzz])) hsx (by omega) K0
      · refine am_E.go (t2 := (99, [vR o, vR f, vI z, vI i, vI k, vI (tN (((c f i).toNat : Nat) : Int) k)], [vR o], aq_h m s F c)) rfl rfl ?_
        refine aq_gf (v := vR (o + 3 + K)) rfl (by omega) hFo (by decide) rfl ?_
        show am_E _ (102, [vR o, vR f, vI z, vI i, vI k, vI (tN (((c f i).toNat : Nat) : Int) k)], [vR (o + 3 + K)], aq_h m s F c) _
        refine am_E.go (t2 := (104, [vR o, vR f, vI z, vI i, vI k, vI (tN (((c f i).toNat : Nat) : Int) k)], [vI (tN (((c f i).toNat : Nat) : Int) k), vR (o + 3 + K)], aq_h m s F c)) rfl rfl ?_
        refine aq_al (ok := fun k => k == 0) (v := vI (c (o + 3 + K) (tN (((c f i).toNat : Nat) : Int) k))) rfl rfl (by omega) hL rfl (by omega) (by omega) rfl ?_
        show am_E _ (105, [vR o, vR f, vI z, vI i, vI k, vI (tN (((c f i).toNat : Nat) : Int) k)], [vI (c (o + 3 + K) (tN (((c f i).toNat : Nat) : Int) k))], aq_h m s F c) _
        have f_5 := sx_l hsx hn1 hn4 hKn (b := (tN (((c f i).toNat : Nat) : Int) k)) (by omega) (by omega)
        refine am_E.go (t2 := (106, [vR o, vR f, vI z, vI i, vI k, vI (tN (((c f i).toNat : Nat) : Int) k)], [vI (-1), vI (c (o + 3 + K) (tN (((c f i).toNat : Nat) : Int) k))], aq_h m s F c)) rfl rfl ?_
        refine ae_icmp rfl (fun (q_6 : (c (o + 3 + K) (tN (((c f i).toNat : Nat) : Int) k)) ≠ (-1)) => ?_) (fun (q_6 : (c (o + 3 + K) (tN (((c f i).toNat : Nat) : Int) k)) = (-1)) => ?_)
        · have en_ : tN (((c f i).toNat : Nat) : Int) k = bn_ (n : Int) (fd_ (n : Int) i) k := by assumption
          have ex_ : c (o + 3 + K) (tN (((c f i).toNat : Nat) : Int) k) = c (o + 3 + K) (bn_ (n : Int) (fd_ (n : Int) i) k) := by rw [en_]
          have hxx := sx_l hsx hn1 hn4 hKn (b := bn_ (n : Int) (fd_ (n : Int) i) k) (by omega) (by omega)
          refine ae_iinc rfl rfl (am_ri (by omega) (by omega)) ?_
          show am_E _ (139, [vR o, vR f, vI z, vI i, vI (k + 1), vI (tN (((c f i).toNat : Nat) : Int) k)], [], aq_h m s F c) _
          refine am_E.go (t2 := (67, [vR o, vR f, vI z, vI i, vI (k + 1), vI (tN (((c f i).toNat : Nat) : Int) k)], [], aq_h m s F c)) rfl rfl ?_
          exact qz_spell_i ⟨hm, hn1, hn4, hK, hFo, hFd, hFs⟩ hSd hSs hL hGg hGr hSl hSg hNg hNr hNt hKn hf hff hfo hSf hi0 d z (k + 1) (vI (tN (((c f i).toNat : Nat) : Int) k)) c hs (by omega) (by omega) (by omega) (by omega) hr (by first | (rw [if_neg (by omega)] at tB3; rw [tB3, hzz])) hsx (by omega) K0
        · refine am_E.go (t2 := (110, [vR o, vR f, vI z, vI i, vI k, vI (tN (((c f i).toNat : Nat) : Int) k)], [vI z], aq_h m s F c)) rfl rfl ?_
          refine am_E.go (t2 := (111, [vR o, vR f, vI z, vI i, vI k, vI (tN (((c f i).toNat : Nat) : Int) k)], [vR o, vI z], aq_h m s F c)) rfl rfl ?_
          refine aq_gf (v := vI (K : Int)) rfl (by omega) hFo (by decide) rfl ?_
          show am_E _ (114, [vR o, vR f, vI z, vI i, vI k, vI (tN (((c f i).toNat : Nat) : Int) k)], [vI (K : Int), vI z], aq_h m s F c) _
          refine ae_icmp rfl (fun (q_7 : (K : Int) ≤ z) => ?_) (fun (q_7 : z < (K : Int)) => ?_)
          · refine ae_iinc rfl rfl (am_ri (by omega) (by omega)) ?_
            show am_E _ (139, [vR o, vR f, vI z, vI i, vI (k + 1), vI (tN (((c f i).toNat : Nat) : Int) k)], [], aq_h m s F c) _
            refine am_E.go (t2 := (67, [vR o, vR f, vI z, vI i, vI (k + 1), vI (tN (((c f i).toNat : Nat) : Int) k)], [], aq_h m s F c)) rfl rfl ?_
            exact qz_spell_i ⟨hm, hn1, hn4, hK, hFo, hFd, hFs⟩ hSd hSs hL hGg hGr hSl hSg hNg hNr hNt hKn hf hff hfo hSf hi0 d z (k + 1) (vI (tN (((c f i).toNat : Nat) : Int) k)) c hs (by omega) (by omega) (by omega) (by omega) hr (by first | (rw [if_neg (by omega)] at tB3; rw [tB3, hzz])) hsx (by omega) K0
          · have en_ : tN (((c f i).toNat : Nat) : Int) k = bn_ (n : Int) (fd_ (n : Int) i) k := by assumption
            have ex_ : c (o + 3 + K) (tN (((c f i).toNat : Nat) : Int) k) = c (o + 3 + K) (bn_ (n : Int) (fd_ (n : Int) i) k) := by rw [en_]
            have hxx := sx_l hsx hn1 hn4 hKn (b := bn_ (n : Int) (fd_ (n : Int) i) k) (by omega) (by omega)
            rw [if_pos ⟨by omega, by omega, by omega⟩] at tB3
            obtain ⟨u1, u2, u3, u4, u5, u6, u7⟩ := tB3
            refine am_E.go (t2 := (118, [vR o, vR f, vI z, vI i, vI k, vI (tN (((c f i).toNat : Nat) : Int) k)], [vR o], aq_h m s F c)) rfl rfl ?_
            refine am_E.go (t2 := (120, [vR o, vR f, vI z, vI i, vI k, vI (tN (((c f i).toNat : Nat) : Int) k)], [vI (tN (((c f i).toNat : Nat) : Int) k), vR o], aq_h m s F c)) rfl rfl ?_
            refine am_E.go (t2 := (121, [vR o, vR f, vI z, vI i, vI k, vI (tN (((c f i).toNat : Nat) : Int) k)], [vR f, vI (tN (((c f i).toNat : Nat) : Int) k), vR o], aq_h m s F c)) rfl rfl ?_
            refine am_E.go (t2 := (122, [vR o, vR f, vI z, vI i, vI k, vI (tN (((c f i).toNat : Nat) : Int) k)], [vI i, vR f, vI (tN (((c f i).toNat : Nat) : Int) k), vR o], aq_h m s F c)) rfl rfl ?_
            refine aq_al (ok := fun k => k == 0) (v := vI (c f i)) rfl rfl hf hff rfl (by omega) (by omega) rfl ?_
            show am_E _ (123, [vR o, vR f, vI z, vI i, vI k, vI (tN (((c f i).toNat : Nat) : Int) k)], [vI (c f i), vI (tN (((c f i).toNat : Nat) : Int) k), vR o], aq_h m s F c) _
            have f_8 := sx_f hsx hn1 hn4 hKn (j := i) h3 (by omega) (by omega)
            refine am_E.go (t2 := (125, [vR o, vR f, vI z, vI i, vI k, vI (tN (((c f i).toNat : Nat) : Int) k)], [vI k, vI (c f i), vI (tN (((c f i).toNat : Nat) : Int) k), vR o], aq_h m s F c)) rfl rfl ?_
            refine aq_callv (y := 4) (as2 := [vI (tN (((c f i).toNat : Nat) : Int) k), vI (c f i), vI k]) (rest := []) rfl rfl (by decide) (Nat.le_of_ble_eq_true rfl) rfl rfl (Nat.le_of_ble_eq_true rfl) (by omega) hFo rfl (Nat.le_of_ble_eq_true rfl) (qz_spellBehind (S := (fun a => a = o + 3 + K ∨ (o + 5 + K ≤ a ∧ a < o + 5 + K + K))) ⟨hm, hn1, hn4, hK, hFo, hFd, hFs⟩ hL hGg hGr (Or.inl rfl) (fun b hb => Or.inr (by omega)) (b := (tN (((c f i).toNat : Nat) : Int) k)) (w := (c f i)) (k := k) (by omega) (by omega) (by omega) (by omega) (by omega) (by omega)) ?_
            rintro r5 h5 ⟨c_9, rfl, sc_9, rfl, hjc_9⟩
            show am_E _ (128, [vR o, vR f, vI z, vI i, vI k, vI (tN (((c f i).toNat : Nat) : Int) k)], [], aq_h m s F c_9) _
            refine am_E.go (t2 := (129, [vR o, vR f, vI z, vI i, vI k, vI (tN (((c f i).toNat : Nat) : Int) k)], [vR f], aq_h m s F c_9)) rfl rfl ?_
            refine am_E.go (t2 := (130, [vR o, vR f, vI z, vI i, vI k, vI (tN (((c f i).toNat : Nat) : Int) k)], [vI z, vR f], aq_h m s F c_9)) rfl rfl ?_
            refine am_E.go (t2 := (132, [vR o, vR f, vI z, vI i, vI k, vI (tN (((c f i).toNat : Nat) : Int) k)], [vI (tN (((c f i).toNat : Nat) : Int) k), vI z, vR f], aq_h m s F c_9)) rfl rfl ?_
            refine aq_as (kd := 0) rfl rfl hf hff (by omega) (by omega) rfl rfl ?_
            show am_E _ (133, [vR o, vR f, vI z, vI i, vI k, vI (tN (((c f i).toNat : Nat) : Int) k)], [], aq_h m s F (aq_u c_9 f z (tN (((c f i).toNat : Nat) : Int) k))) _
            generalize hdc_10 : aq_u c_9 f z (tN (((c f i).toNat : Nat) : Int) k) = c_10
            have sc_10 := aq_smu (aq_smt hs (aq_smi sc_9 (fun a h => by rcases h with h | h; (rw [h]; exact hSl); (have := hSg (a - (o + 5 + K)) (by omega); rw [show o + 5 + K + (a - (o + 5 + K)) = a by omega] at this; exact this)))) hdc_10 hSf
            have hdrc_10 := aq_rgn (aq_rgs hr sc_9 (by omega)) hdc_10 (by omega)
            refine ae_iinc rfl rfl (am_ri (by omega) (by omega)) ?_
            show am_E _ (136, [vR o, vR f, vI (z + 1), vI i, vI k, vI (tN (((c f i).toNat : Nat) : Int) k)], [], aq_h m s F c_10) _
            refine ae_iinc rfl rfl (am_ri (by omega) (by omega)) ?_
            show am_E _ (139, [vR o, vR f, vI (z + 1), vI i, vI (k + 1), vI (tN (((c f i).toNat : Nat) : Int) k)], [], aq_h m s F c_10) _
            refine am_E.go (t2 := (67, [vR o, vR f, vI (z + 1), vI i, vI (k + 1), vI (tN (((c f i).toNat : Nat) : Int) k)], [], aq_h m s F c_10)) rfl rfl ?_
            exact qz_spell_i ⟨hm, hn1, hn4, hK, hFo, hFd, hFs⟩ hSd hSs hL hGg hGr hSl hSg hNg hNr hNt hKn hf hff hfo hSf hi0 d (z + 1) (k + 1) (vI (tN (((c f i).toNat : Nat) : Int) k)) c_10 sc_10 (by omega) (by omega) (by omega) (by omega) hdrc_10 (by rw [u7, hzz]) (by rw [hzz] at hsx hdc_10 ⊢; exact sx_u hn1 hn4 hKn hfo hsx hi0 (by omega) (by omega) (by omega) (by omega) (by omega) (by omega) (by omega) (by have h9 := hjc_9; rw [en_, hw_.1] at h9; exact h9) (fun j => sc_9 f (by omega) j) (by rw [← hdc_10, en_])) (by omega) K0

theorem qz_spell_o {m s : Nat} {F : aq_F} {c0 : aq_C} {S : Nat → Prop} {o n K : Nat} (hB : bx_0 m F o n K) (hSd : S (o + 6 + 3 * K)) (hSs : S (o + 7 + 3 * K)) (hL : F (o + 3 + K) = (0, K, fun _ => .inl 0)) (hGg : F (o + 4 + K) = (3, K, fun j => aq_g K j (o + 5 + K + j))) (hGr : ∀ b, b < K → F (o + 5 + K + b) = (0, 6, fun _ => .inl 0)) (hSl : S (o + 3 + K)) (hSg : ∀ b, b < K → S (o + 5 + K + b)) {tN : Int → Int → Int} (hNg : F (o + 5 + 2 * K) = (3, K, fun j => aq_g K j (o + 6 + 2 * K + j))) (hNr : ∀ b, b < K → F (o + 6 + 2 * K + b) = (0, 2 * n - 2, fun j => .inr (vI (tN (b : Int) (j : Int))))) (hNt : ∀ b k : Int, 0 ≤ b → b < (K : Int) → 0 ≤ k → k < 2 * (n : Int) - 2 → tN b k = bn_ (n : Int) b k) (hKn : (K : Int) = bx_K (n : Int)) {f : Nat} (hf : f < m) (hff : F f = (0, K, fun _ => .inl 0)) (hfo : o + 8 + 3 * K ≤ f) (hSf : S f) : ∀ (d : Nat) (z : Int) (i : Int) (v4 : am_V) (v5 : am_V) (c : aq_C) (hs : aq_sm S c0 c) (h0 : 0 ≤ i) (h1 : i ≤ z) (h3 : z ≤ (K : Int)) (hr : aq_rg (o + 6 + 3 * K) (2 * (n : Int)) 0 (2 * (n : Int)) c) (hzz : z = sz_ (n : Int) i 0) (hsx : bx_sx o n K f z c) (hd : (K : Int) - i < (d : Int)), am_E ac_X0_spellAll (51, [vR o, vR f, vI z, vI i, v4, v5], [], aq_h m s F c) (aq_Z m s F S c0 (fun r d => r = none ∧ aq_rg (o + 6 + 3 * K) (2 * (n : Int)) 0 (2 * (n : Int)) d ∧ bx_sx o n K f (K : Int) d))
  | 0, z, i, v4, v5, c, hs, h0, h1, h3, hr, hzz, hsx, hd => by exfalso; omega
  | d + 1, z, i, v4, v5, c, hs, h0, h1, h3, hr, hzz, hsx, hd => by
    obtain ⟨hm, hn1, hn4, hK, hFo, hFd, hFs⟩ := hB
    refine am_E.go (t2 := (52, [vR o, vR f, vI z, vI i, v4, v5], [vI i], aq_h m s F c)) rfl rfl ?_
    refine am_E.go (t2 := (53, [vR o, vR f, vI z, vI i, v4, v5], [vI z, vI i], aq_h m s F c)) rfl rfl ?_
    refine ae_icmp rfl (fun (q_1 : z ≤ i) => ?_) (fun (q_1 : i < z) => ?_)
    · refine am_E.ret rfl rfl ?_
      have tE := (tb_E_a (n := (n : Int)) (x := i) (by omega) (by omega) h0 (by omega)).1
      have ez : z = (K : Int) := by omega
      rw [ez] at hsx
      exact ⟨_, rfl, hs, rfl, hr, hsx⟩
    · refine am_E.go (t2 := (57, [vR o, vR f, vI z, vI i, v4, v5], [vI z], aq_h m s F c)) rfl rfl ?_
      refine am_E.go (t2 := (58, [vR o, vR f, vI z, vI i, v4, v5], [vR o, vI z], aq_h m s F c)) rfl rfl ?_
      refine aq_gf (v := vI (K : Int)) rfl (by omega) hFo (by decide) rfl ?_
      show am_E _ (61, [vR o, vR f, vI z, vI i, v4, v5], [vI (K : Int), vI z], aq_h m s F c) _
      refine ae_icmp rfl (fun (q_2 : (K : Int) ≤ z) => ?_) (fun (q_2 : z < (K : Int)) => ?_)
      · refine am_E.ret rfl rfl ?_
        have tE := (tb_E_a (n := (n : Int)) (x := i) (by omega) (by omega) h0 (by omega)).1
        have ez : z = (K : Int) := by omega
        rw [ez] at hsx
        exact ⟨_, rfl, hs, rfl, hr, hsx⟩
      · refine am_E.go (t2 := (65, [vR o, vR f, vI z, vI i, v4, v5], [vI 0], aq_h m s F c)) rfl rfl ?_
        refine am_E.go (t2 := (67, [vR o, vR f, vI z, vI i, vI 0, v5], [], aq_h m s F c)) rfl rfl ?_
        refine qz_spell_i ⟨hm, hn1, hn4, hK, hFo, hFd, hFs⟩ hSd hSs hL hGg hGr hSl hSg hNg hNr hNt hKn hf hff hfo hSf (by omega) 9 z 0 (v5) c hs (by omega) (by omega) (by omega) (by omega) hr hzz hsx (by omega) ?_
        · intro z2_67 k2_67 v52_67 c_3 sc_3 g1_67 g2_67 hr2_67 hzz2_67 hsx2_67
          refine ae_iinc rfl rfl (am_ri (by omega) (by omega)) ?_
          show am_E _ (145, [vR o, vR f, vI z2_67, vI (i + 1), vI k2_67, v52_67], [], aq_h m s F c_3) _
          refine am_E.go (t2 := (51, [vR o, vR f, vI z2_67, vI (i + 1), vI k2_67, v52_67], [], aq_h m s F c_3)) rfl rfl ?_
          exact qz_spell_o ⟨hm, hn1, hn4, hK, hFo, hFd, hFs⟩ hSd hSs hL hGg hGr hSl hSg hNg hNr hNt hKn hf hff hfo hSf d z2_67 (i + 1) (vI k2_67) (v52_67) c_3 sc_3 (by omega) (by omega) (by omega) hr2_67 (by rw [hzz2_67]; exact ((tb_E_a (n := (n : Int)) (x := i) (by omega) (by omega) h0 (by omega)).2 (by omega)).2) hsx2_67 (by omega)
