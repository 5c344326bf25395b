
theorem se_r {y d : Nat} {t u : Int} {c : aq_C} {k : Int} : se_ (rf_v y t c) (rf_v y u c) (d + 1) k = if k < c (y + 6) t then (if (c (y + 7) (40 * t + k) = c (y + 7) (40 * u + k) ∧ c (y + 8) (40 * t + k) = c (y + 8) (40 * u + k)) ∧ c (y + 9) (40 * t + k) = c (y + 9) (40 * u + k) then se_ (rf_v y t c) (rf_v y u c) d (k + 1) else 0) else 1 := rfl
theorem sa_r {y : Nat} {t u : Int} {c : aq_C} : sa_l (c (y + 5) t) (rf_v y t c) (c (y + 5) u) (rf_v y u c) = if c (y + 5) t = c (y + 5) u ∧ c (y + 6) t = c (y + 6) u then se_ (rf_v y t c) (rf_v y u c) 42 0 else 0 := rfl
theorem se_c {t t2 u u2 : sm_} (h1 : sm_e t t2) (h2 : sm_e u u2) (hz : t.1 = u.1) : ∀ (d : Nat) (i : Int), 0 ≤ i → se_ t u d i = se_ t2 u2 d i
  | 0, _, _ => rfl
  | d + 1, i, i0 => by
    rw [se_, se_, ← h1.1]
    by_cases e : i < t.1
    · have a := h1.2 i i0 e
      have b := h2.2 i i0 (by omega)
      rw [if_pos e, if_pos e, ← a.1, ← a.2.1, ← a.2.2, ← b.1, ← b.2.1, ← b.2.2, se_c h1 h2 hz d (i + 1) (by omega)]
    · rw [if_neg e, if_neg e]
theorem sv_c {n n2 s s2 : Int} {t t2 u u2 : sm_} (h1 : sm_e t t2) (h2 : sm_e u u2) : sv_a n t n2 u s s2 = sv_a n t2 n2 u2 s s2 := by
  unfold sv_a sa_l
  rw [← h1.1, ← h2.1]
  by_cases e : n = n2 ∧ t.1 = u.1
  · rw [if_pos e, if_pos e, se_c h1 h2 e.2 42 0 (by omega)]
  · rw [if_neg e, if_neg e]

theorem qx_same_l {m s : Nat} {F : aq_F} {c : aq_C} {y : Nat} (hO : mo_0 m F y) (hI : mo_I y c) {t u : Int} (ht0 : 0 ≤ t) (ht1 : t < 8) (hu0 : 0 ≤ u) (hu1 : u < 8) (h40 : c (y + 6) t ≤ 40) {T : Int} : ∀ (d : Nat) (x : Int) (k : Int) (h0 : 0 ≤ k) (h1 : k ≤ 40) (hx : (x = 0 ∧ T = 0) ∨ (x = 1 ∧ se_ (rf_v y t c) (rf_v y u c) d k = T)) (hd : max 0 (c (y + 6) t - k) < (d : Int)), am_E ac_X5_same (55, [vR y, vI t, vI u, vI x, vI k], [], aq_h m s F c) (aq_Z m s F (fun a => y ≤ a ∧ a < y + 24) c (fun r d => r = some (vI T) ∧ mo_I y d ∧ ∀ x j, d x j = c x j))
  | 0, x, k, h0, h1, hx, hd => by exfalso; omega
  | d + 1, x, k, h0, h1, hx, hd => by
    obtain ⟨hm, hFo, hG5, hG6, hG7, hG8, hG9, hG10, hG11, hG12, hG13, hG14, hG15, hG16, hG17, hG18, hG19, hG20, hG21, hG22, hG23⟩ := hO
    refine am_E.go (t2 := (57, [vR y, vI t, vI u, vI x, vI k], [vI k], aq_h m s F c)) rfl rfl ?_
    refine am_E.go (t2 := (58, [vR y, vI t, vI u, vI x, vI k], [vR y, vI k], aq_h m s F c)) rfl rfl ?_
    refine aq_gf (v := vR (y + 6)) rfl (by omega) hFo (by decide) rfl ?_
    show am_E _ (61, [vR y, vI t, vI u, vI x, vI k], [vR (y + 6), vI k], aq_h m s F c) _
    refine am_E.go (t2 := (62, [vR y, vI t, vI u, vI x, vI k], [vI t, vR (y + 6), vI k], aq_h m s F c)) rfl rfl ?_
    refine aq_al (ok := fun k => k == 0) (v := vI (c (y + 6) t)) rfl rfl (by omega) hG6 rfl (by omega) (by omega) rfl ?_
    show am_E _ (63, [vR y, vI t, vI u, vI x, vI k], [vI (c (y + 6) t), vI k], aq_h m s F c) _
    refine ae_icmp rfl (fun (q_1 : (c (y + 6) t) ≤ k) => ?_) (fun (q_1 : k < (c (y + 6) t)) => ?_)
    · refine am_E.go (t2 := (165, [vR y, vI t, vI u, vI x, vI k], [vI x], aq_h m s F c)) rfl rfl ?_
      refine ae_if0 rfl (fun (q_2 : x = 0) => ?_) (fun (q_2 : x ≠ 0) => ?_)
      · refine am_E.go (t2 := (173, [vR y, vI t, vI u, vI x, vI k], [vI 0], aq_h m s F c)) rfl rfl ?_
        refine am_E.ret rfl rfl ?_
        have e_T : T = 0 := by
          rcases hx with ⟨k1, k2⟩ | ⟨k1, k2⟩
          · omega
          · first | (exfalso; omega) | (rw [← k2, se_r, if_neg (show ¬ k < c (y + 6) t by omega)])
        exact ⟨_, rfl, aq_sm0, by rw [e_T], hI, fun _ _ => rfl⟩
      · refine am_E.go (t2 := (169, [vR y, vI t, vI u, vI x, vI k], [vI 1], aq_h m s F c)) rfl rfl ?_
        refine am_E.go (t2 := (173, [vR y, vI t, vI u, vI x, vI k], [vI 1], aq_h m s F c)) rfl rfl ?_
        refine am_E.ret rfl rfl ?_
        have e_T : T = 1 := by
          rcases hx with ⟨k1, k2⟩ | ⟨k1, k2⟩
          · omega
          · first | (exfalso; omega) | (rw [← k2, se_r, if_neg (show ¬ k < c (y + 6) t by omega)])
        exact ⟨_, rfl, aq_sm0, by rw [e_T], hI, fun _ _ => rfl⟩
    · refine am_E.go (t2 := (67, [vR y, vI t, vI u, vI x, vI k], [vI x], aq_h m s F c)) rfl rfl ?_
      refine ae_if0 rfl (fun (q_3 : x = 0) => ?_) (fun (q_3 : x ≠ 0) => ?_)
      · refine am_E.go (t2 := (165, [vR y, vI t, vI u, vI x, vI k], [vI x], aq_h m s F c)) rfl rfl ?_
        refine ae_if0 rfl (fun (q_4 : x = 0) => ?_) (fun (q_4 : x ≠ 0) => ?_)
        · refine am_E.go (t2 := (173, [vR y, vI t, vI u, vI x, vI k], [vI 0], aq_h m s F c)) rfl rfl ?_
          refine am_E.ret rfl rfl ?_
          have e_T : T = 0 := by
            rcases hx with ⟨k1, k2⟩ | ⟨k1, k2⟩
            · omega
            · first | (exfalso; omega) | (rw [← k2, se_r, if_neg (show ¬ k < c (y + 6) t by omega)])
          exact ⟨_, rfl, aq_sm0, by rw [e_T], hI, fun _ _ => rfl⟩
        · refine am_E.go (t2 := (169, [vR y, vI t, vI u, vI x, vI k], [vI 1], aq_h m s F c)) rfl rfl ?_
          refine am_E.go (t2 := (173, [vR y, vI t, vI u, vI x, vI k], [vI 1], aq_h m s F c)) rfl rfl ?_
          refine am_E.ret rfl rfl ?_
          have e_T : T = 1 := by
            rcases hx with ⟨k1, k2⟩ | ⟨k1, k2⟩
            · omega
            · first | (exfalso; omega) | (rw [← k2, se_r, if_neg (show ¬ k < c (y + 6) t by omega)])
          exact ⟨_, rfl, aq_sm0, by rw [e_T], hI, fun _ _ => rfl⟩
      · have hT2 : se_ (rf_v y t c) (rf_v y u c) (d + 1) k = T := by
          rcases hx with ⟨k1, k2⟩ | ⟨k1, k2⟩
          · exfalso; omega
          · exact k2
        refine am_E.go (t2 := (71, [vR y, vI t, vI u, vI x, vI k], [vR y], aq_h m s F c)) rfl rfl ?_
        refine aq_gf (v := vR (y + 7)) rfl (by omega) hFo (by decide) rfl ?_
        show am_E _ (74, [vR y, vI t, vI u, vI x, vI k], [vR (y + 7)], aq_h m s F c) _
        refine am_E.go (t2 := (76, [vR y, vI t, vI u, vI x, vI k], [vI 40, vR (y + 7)], aq_h m s F c)) rfl rfl ?_
        refine am_E.go (t2 := (77, [vR y, vI t, vI u, vI x, vI k], [vI t, vI 40, vR (y + 7)], aq_h m s F c)) rfl rfl ?_
        refine ae_mul rfl (am_ri (by omega) (by omega)) ?_
        show am_E _ (78, [vR y, vI t, vI u, vI x, vI k], [vI (40 * t), vR (y + 7)], aq_h m s F c) _
        refine am_E.go (t2 := (80, [vR y, vI t, vI u, vI x, vI k], [vI k, vI (40 * t), vR (y + 7)], aq_h m s F c)) rfl rfl ?_
        refine ae_add rfl (am_ri (by omega) (by omega)) ?_
        show am_E _ (81, [vR y, vI t, vI u, vI x, vI k], [vI ((40 * t) + k), vR (y + 7)], aq_h m s F c) _
        refine aq_al (ok := fun k => k == 0) (v := vI (c (y + 7) ((40 * t) + k))) rfl rfl (by omega) hG7 rfl (by omega) (by omega) rfl ?_
        show am_E _ (82, [vR y, vI t, vI u, vI x, vI k], [vI (c (y + 7) ((40 * t) + k))], aq_h m s F c) _
        refine am_E.go (t2 := (83, [vR y, vI t, vI u, vI x, vI k], [vR y, vI (c (y + 7) ((40 * t) + k))], aq_h m s F c)) rfl rfl ?_
        refine aq_gf (v := vR (y + 7)) rfl (by omega) hFo (by decide) rfl ?_
        show am_E _ (86, [vR y, vI t, vI u, vI x, vI k], [vR (y + 7), vI (c (y + 7) ((40 * t) + k))], aq_h m s F c) _
        refine am_E.go (t2 := (88, [vR y, vI t, vI u, vI x, vI k], [vI 40, vR (y + 7), vI (c (y + 7) ((40 * t) + k))], aq_h m s F c)) rfl rfl ?_
        refine am_E.go (t2 := (89, [vR y, vI t, vI u, vI x, vI k], [vI u, vI 40, vR (y + 7), vI (c (y + 7) ((40 * t) + k))], aq_h m s F c)) rfl rfl ?_
        refine ae_mul rfl (am_ri (by omega) (by omega)) ?_
        show am_E _ (90, [vR y, vI t, vI u, vI x, vI k], [vI (40 * u), vR (y + 7), vI (c (y + 7) ((40 * t) + k))], aq_h m s F c) _
        refine am_E.go (t2 := (92, [vR y, vI t, vI u, vI x, vI k], [vI k, vI (40 * u), vR (y + 7), vI (c (y + 7) ((40 * t) + k))], aq_h m s F c)) rfl rfl ?_
        refine ae_add rfl (am_ri (by omega) (by omega)) ?_
        show am_E _ (93, [vR y, vI t, vI u, vI x, vI k], [vI ((40 * u) + k), vR (y + 7), vI (c (y + 7) ((40 * t) + k))], aq_h m s F c) _
        refine aq_al (ok := fun k => k == 0) (v := vI (c (y + 7) ((40 * u) + k))) rfl rfl (by omega) hG7 rfl (by omega) (by omega) rfl ?_
        show am_E _ (94, [vR y, vI t, vI u, vI x, vI k], [vI (c (y + 7) ((40 * u) + k)), vI (c (y + 7) ((40 * t) + k))], aq_h m s F c) _
        refine ae_icmp rfl (fun (q_5 : (c (y + 7) ((40 * t) + k)) ≠ (c (y + 7) ((40 * u) + k))) => ?_) (fun (q_5 : (c (y + 7) ((40 * t) + k)) = (c (y + 7) ((40 * u) + k))) => ?_)
        · refine am_E.go (t2 := (157, [vR y, vI t, vI u, vI x, vI k], [vI 0], aq_h m s F c)) rfl rfl ?_
          refine am_E.go (t2 := (158, [vR y, vI t, vI u, vI 0, vI k], [], aq_h m s F c)) rfl rfl ?_
          refine ae_iinc rfl rfl (am_ri (by omega) (by omega)) ?_
          show am_E _ (161, [vR y, vI t, vI u, vI 0, vI (k + 1)], [], aq_h m s F c) _
          refine am_E.go (t2 := (55, [vR y, vI t, vI u, vI 0, vI (k + 1)], [], aq_h m s F c)) rfl rfl ?_
          exact qx_same_l ⟨hm, hFo, hG5, hG6, hG7, hG8, hG9, hG10, hG11, hG12, hG13, hG14, hG15, hG16, hG17, hG18, hG19, hG20, hG21, hG22, hG23⟩ hI ht0 ht1 hu0 hu1 h40 d 0 (k + 1) (by omega) (by omega) (Or.inl ⟨rfl, by rw [← hT2, se_r, if_pos (show k < c (y + 6) t by omega), if_neg (show ¬ ((c (y + 7) (40 * t + k) = c (y + 7) (40 * u + k) ∧ c (y + 8) (40 * t + k) = c (y + 8) (40 * u + k)) ∧ c (y + 9) (40 * t + k) = c (y + 9) (40 * u + k)) by omega)]⟩) (by omega)
        · refine am_E.go (t2 := (98, [vR y, vI t, vI u, vI x, vI k], [vR y], aq_h m s F c)) rfl rfl ?_
          refine aq_gf (v := vR (y + 8)) rfl (by omega) hFo (by decide) rfl ?_
          show am_E _ (101, [vR y, vI t, vI u, vI x, vI k], [vR (y + 8)], aq_h m s F c) _
          refine am_E.go (t2 := (103, [vR y, vI t, vI u, vI x, vI k], [vI 40, vR (y + 8)], aq_h m s F c)) rfl rfl ?_
          refine am_E.go (t2 := (104, [vR y, vI t, vI u, vI x, vI k], [vI t, vI 40, vR (y + 8)], aq_h m s F c)) rfl rfl ?_
          refine ae_mul rfl (am_ri (by omega) (by omega)) ?_
          show am_E _ (105, [vR y, vI t, vI u, vI x, vI k], [vI (40 * t), vR (y + 8)], aq_h m s F c) _
          refine am_E.go (t2 := (107, [vR y, vI t, vI u, vI x, vI k], [vI k, vI (40 * t), vR (y + 8)], aq_h m s F c)) rfl rfl ?_
          refine ae_add rfl (am_ri (by omega) (by omega)) ?_
          show am_E _ (108, [vR y, vI t, vI u, vI x, vI k], [vI ((40 * t) + k), vR (y + 8)], aq_h m s F c) _
          refine aq_al (ok := fun k => k == 0) (v := vI (c (y + 8) ((40 * t) + k))) rfl rfl (by omega) hG8 rfl (by omega) (by omega) rfl ?_
          show am_E _ (109, [vR y, vI t, vI u, vI x, vI k], [vI (c (y + 8) ((40 * t) + k))], aq_h m s F c) _
          refine am_E.go (t2 := (110, [vR y, vI t, vI u, vI x, vI k], [vR y, vI (c (y + 8) ((40 * t) + k))], aq_h m s F c)) rfl rfl ?_
          refine aq_gf (v := vR (y + 8)) rfl (by omega) hFo (by decide) rfl ?_
          show am_E _ (113, [vR y, vI t, vI u, vI x, vI k], [vR (y + 8), vI (c (y + 8) ((40 * t) + k))], aq_h m s F c) _
          refine am_E.go (t2 := (115, [vR y, vI t, vI u, vI x, vI k], [vI 40, vR (y + 8), vI (c (y + 8) ((40 * t) + k))], aq_h m s F c)) rfl rfl ?_
          refine am_E.go (t2 := (116, [vR y, vI t, vI u, vI x, vI k], [vI u, vI 40, vR (y + 8), vI (c (y + 8) ((40 * t) + k))], aq_h m s F c)) rfl rfl ?_
          refine ae_mul rfl (am_ri (by omega) (by omega)) ?_
          show am_E _ (117, [vR y, vI t, vI u, vI x, vI k], [vI (40 * u), vR (y + 8), vI (c (y + 8) ((40 * t) + k))], aq_h m s F c) _
          refine am_E.go (t2 := (119, [vR y, vI t, vI u, vI x, vI k], [vI k, vI (40 * u), vR (y + 8), vI (c (y + 8) ((40 * t) + k))], aq_h m s F c)) rfl rfl ?_
          refine ae_add rfl (am_ri (by omega) (by omega)) ?_
          show am_E _ (120, [vR y, vI t, vI u, vI x, vI k], [vI ((40 * u) + k), vR (y + 8), vI (c (y + 8) ((40 * t) + k))], aq_h m s F c) _
          refine aq_al (ok := fun k => k == 0) (v := vI (c (y + 8) ((40 * u) + k))) rfl rfl (by omega) hG8 rfl (by omega) (by omega) rfl ?_
          show am_E _ (121, [vR y, vI t, vI u, vI x, vI k], [vI (c (y + 8) ((40 * u) + k)), vI (c (y + 8) ((40 * t) + k))], aq_h m s F c) _
          refine ae_icmp rfl (fun (q_6 : (c (y + 8) ((40 * t) + k)) ≠ (c (y + 8) ((40 * u) + k))) => ?_) (fun (q_6 : (c (y + 8) ((40 * t) + k)) = (c (y + 8) ((40 * u) + k))) => ?_)
          · refine am_E.go (t2 := (157, [vR y, vI t, vI u, vI x, vI k], [vI 0], aq_h m s F c)) rfl rfl ?_
            refine am_E.go (t2 := (158, [vR y, vI t, vI u, vI 0, vI k], [], aq_h m s F c)) rfl rfl ?_
            refine ae_iinc rfl rfl (am_ri (by omega) (by omega)) ?_
            show am_E _ (161, [vR y, vI t, vI u, vI 0, vI (k + 1)], [], aq_h m s F c) _
            refine am_E.go (t2 := (55, [vR y, vI t, vI u, vI 0, vI (k + 1)], [], aq_h m s F c)) rfl rfl ?_
            exact qx_same_l ⟨hm, hFo, hG5, hG6, hG7, hG8, hG9, hG10, hG11, hG12, hG13, hG14, hG15, hG16, hG17, hG18, hG19, hG20, hG21, hG22, hG23⟩ hI ht0 ht1 hu0 hu1 h40 d 0 (k + 1) (by omega) (by omega) (Or.inl ⟨rfl, by rw [← hT2, se_r, if_pos (show k < c (y + 6) t by omega), if_neg (show ¬ ((c (y + 7) (40 * t + k) = c (y + 7) (40 * u + k) ∧ c (y + 8) (40 * t + k) = c (y + 8) (40 * u + k)) ∧ c (y + 9) (40 * t + k) = c (y + 9) (40 * u + k)) by omega)]⟩) (by omega)
          · refine am_E.go (t2 := (125, [vR y, vI t, vI u, vI x, vI k], [vR y], aq_h m s F c)) rfl rfl ?_
            refine aq_gf (v := vR (y + 9)) rfl (by omega) hFo (by decide) rfl ?_
            show am_E _ (128, [vR y, vI t, vI u, vI x, vI k], [vR (y + 9)], aq_h m s F c) _
            refine am_E.go (t2 := (130, [vR y, vI t, vI u, vI x, vI k], [vI 40, vR (y + 9)], aq_h m s F c)) rfl rfl ?_
            refine am_E.go (t2 := (131, [vR y, vI t, vI u, vI x, vI k], [vI t, vI 40, vR (y + 9)], aq_h m s F c)) rfl rfl ?_
            refine ae_mul rfl (am_ri (by omega) (by omega)) ?_
            show am_E _ (132, [vR y, vI t, vI u, vI x, vI k], [vI (40 * t), vR (y + 9)], aq_h m s F c) _
            refine am_E.go (t2 := (134, [vR y, vI t, vI u, vI x, vI k], [vI k, vI (40 * t), vR (y + 9)], aq_h m s F c)) rfl rfl ?_
            refine ae_add rfl (am_ri (by omega) (by omega)) ?_
            show am_E _ (135, [vR y, vI t, vI u, vI x, vI k], [vI ((40 * t) + k), vR (y + 9)], aq_h m s F c) _
            refine aq_al (ok := fun k => k == 2) (v := vL (c (y + 9) ((40 * t) + k))) rfl rfl (by omega) hG9 rfl (by omega) (by omega) rfl ?_
            show am_E _ (136, [vR y, vI t, vI u, vI x, vI k], [vL (c (y + 9) ((40 * t) + k))], aq_h m s F c) _
            refine am_E.go (t2 := (137, [vR y, vI t, vI u, vI x, vI k], [vR y, vL (c (y + 9) ((40 * t) + k))], aq_h m s F c)) rfl rfl ?_
            refine aq_gf (v := vR (y + 9)) rfl (by omega) hFo (by decide) rfl ?_
            show am_E _ (140, [vR y, vI t, vI u, vI x, vI k], [vR (y + 9), vL (c (y + 9) ((40 * t) + k))], aq_h m s F c) _
            refine am_E.go (t2 := (142, [vR y, vI t, vI u, vI x, vI k], [vI 40, vR (y + 9), vL (c (y + 9) ((40 * t) + k))], aq_h m s F c)) rfl rfl ?_
            refine am_E.go (t2 := (143, [vR y, vI t, vI u, vI x, vI k], [vI u, vI 40, vR (y + 9), vL (c (y + 9) ((40 * t) + k))], aq_h m s F c)) rfl rfl ?_
            refine ae_mul rfl (am_ri (by omega) (by omega)) ?_
            show am_E _ (144, [vR y, vI t, vI u, vI x, vI k], [vI (40 * u), vR (y + 9), vL (c (y + 9) ((40 * t) + k))], aq_h m s F c) _
            refine am_E.go (t2 := (146, [vR y, vI t, vI u, vI x, vI k], [vI k, vI (40 * u), vR (y + 9), vL (c (y + 9) ((40 * t) + k))], aq_h m s F c)) rfl rfl ?_
            refine ae_add rfl (am_ri (by omega) (by omega)) ?_
            show am_E _ (147, [vR y, vI t, vI u, vI x, vI k], [vI ((40 * u) + k), vR (y + 9), vL (c (y + 9) ((40 * t) + k))], aq_h m s F c) _
            refine aq_al (ok := fun k => k == 2) (v := vL (c (y + 9) ((40 * u) + k))) rfl rfl (by omega) hG9 rfl (by omega) (by omega) rfl ?_
            show am_E _ (148, [vR y, vI t, vI u, vI x, vI k], [vL (c (y + 9) ((40 * u) + k)), vL (c (y + 9) ((40 * t) + k))], aq_h m s F c) _
            have ez_7 := am_lcf (c (y + 9) ((40 * t) + k)) (c (y + 9) ((40 * u) + k))
            refine am_E.go (t2 := (149, [vR y, vI t, vI u, vI x, vI k], [vI (if (c (y + 9) ((40 * t) + k)) < (c (y + 9) ((40 * u) + k)) then -1 else if (c (y + 9) ((40 * t) + k)) = (c (y + 9) ((40 * u) + k)) then 0 else 1)], aq_h m s F c)) rfl rfl ?_
            generalize (if (c (y + 9) ((40 * t) + k)) < (c (y + 9) ((40 * u) + k)) then -1 else if (c (y + 9) ((40 * t) + k)) = (c (y + 9) ((40 * u) + k)) then 0 else 1) = z_7 at ez_7 ⊢
            refine ae_if0 rfl (fun (q_8 : z_7 ≠ 0) => ?_) (fun (q_8 : z_7 = 0) => ?_)
            · refine am_E.go (t2 := (157, [vR y, vI t, vI u, vI x, vI k], [vI 0], aq_h m s F c)) rfl rfl ?_
              refine am_E.go (t2 := (158, [vR y, vI t, vI u, vI 0, vI k], [], aq_h m s F c)) rfl rfl ?_
              refine ae_iinc rfl rfl (am_ri (by omega) (by omega)) ?_
              show am_E _ (161, [vR y, vI t, vI u, vI 0, vI (k + 1)], [], aq_h m s F c) _
              refine am_E.go (t2 := (55, [vR y, vI t, vI u, vI 0, vI (k + 1)], [], aq_h m s F c)) rfl rfl ?_
              exact qx_same_l ⟨hm, hFo, hG5, hG6, hG7, hG8, hG9, hG10, hG11, hG12, hG13, hG14, hG15, hG16, hG17, hG18, hG19, hG20, hG21, hG22, hG23⟩ hI ht0 ht1 hu0 hu1 h40 d 0 (k + 1) (by omega) (by omega) (Or.inl ⟨rfl, by rw [← hT2, se_r, if_pos (show k < c (y + 6) t by omega), if_neg (show ¬ ((c (y + 7) (40 * t + k) = c (y + 7) (40 * u + k) ∧ c (y + 8) (40 * t + k) = c (y + 8) (40 * u + k)) ∧ c (y + 9) (40 * t + k) = c (y + 9) (40 * u + k)) by omega)]⟩) (by omega)
            · refine am_E.go (t2 := (153, [vR y, vI t, vI u, vI x, vI k], [vI 1], aq_h m s F c)) rfl rfl ?_
              refine am_E.go (t2 := (157, [vR y, vI t, vI u, vI x, vI k], [vI 1], aq_h m s F c)) rfl rfl ?_
              refine am_E.go (t2 := (158, [vR y, vI t, vI u, vI 1, vI k], [], aq_h m s F c)) rfl rfl ?_
              refine ae_iinc rfl rfl (am_ri (by omega) (by omega)) ?_
              show am_E _ (161, [vR y, vI t, vI u, vI 1, vI (k + 1)], [], aq_h m s F c) _
              refine am_E.go (t2 := (55, [vR y, vI t, vI u, vI 1, vI (k + 1)], [], aq_h m s F c)) rfl rfl ?_
              exact qx_same_l ⟨hm, hFo, hG5, hG6, hG7, hG8, hG9, hG10, hG11, hG12, hG13, hG14, hG15, hG16, hG17, hG18, hG19, hG20, hG21, hG22, hG23⟩ hI ht0 ht1 hu0 hu1 h40 d 1 (k + 1) (by omega) (by omega) (Or.inr ⟨rfl, by rw [← hT2, se_r, if_pos (show k < c (y + 6) t by omega), if_pos (show ((c (y + 7) (40 * t + k) = c (y + 7) (40 * u + k) ∧ c (y + 8) (40 * t + k) = c (y + 8) (40 * u + k)) ∧ c (y + 9) (40 * t + k) = c (y + 9) (40 * u + k)) by omega)]⟩) (by omega)

theorem qx_X5_same {m s : Nat} {F : aq_F} {c : aq_C} {y : Nat} (hC : mo_C m F y) (hI : mo_I y c) {t u : Int} : am_E ac_X5_same (0, [vR y, vI t, vI u, vU, vU], [], aq_h m s F c) (aq_Z m s F (fun a => y ≤ a ∧ a < y + 24) c (fun r d => r = some (vI (sv_a (c (y + 5) t) (rf_v y t c) (c (y + 5) u) (rf_v y u c) t u)) ∧ mo_I y d ∧ ∀ x j, d x j = c x j)) := by
  obtain ⟨⟨hm, hFo, hG5, hG6, hG7, hG8, hG9, hG10, hG11, hG12, hG13, hG14, hG15, hG16, hG17, hG18, hG19, hG20, hG21, hG22, hG23⟩, ⟨tbl, hT1, hTt⟩, ⟨tA, tB, tD, hL1, hL2, hL3, hLt⟩⟩ := hC
  refine am_E.go (t2 := (1, [vR y, vI t, vI u, vU, vU], [vI t], aq_h m s F c)) rfl rfl ?_
  refine am_E.call rfl rfl rfl (Nat.le_of_ble_eq_true rfl) (qm_isSum) ?_
  rintro r5 h5 ⟨rfl, v_1, rfl, hv_1⟩
  show am_E _ (4, [vR y, vI t, vI u, vU, vU], [vI v_1], aq_h m s F c) _
  refine ae_if0 rfl (fun (q_2 : v_1 = 0) => ?_) (fun (q_2 : v_1 ≠ 0) => ?_)
  · refine am_E.go (t2 := (15, [vR y, vI t, vI u, vU, vU], [vI (-1)], aq_h m s F c)) rfl rfl ?_
    refine am_E.ret rfl rfl ?_
    refine ⟨_, rfl, (aq_sm0 (c := c) (S := fun a => y ≤ a ∧ a < y + 24)), ?_, hI, fun _ _ => rfl⟩
    unfold sv_a
    rw [if_neg (by omega)]
  · refine am_E.go (t2 := (8, [vR y, vI t, vI u, vU, vU], [vI u], aq_h m s F c)) rfl rfl ?_
    refine am_E.call rfl rfl rfl (Nat.le_of_ble_eq_true rfl) (qm_isSum) ?_
    rintro r5 h5 ⟨rfl, v_3, rfl, hv_3⟩
    show am_E _ (11, [vR y, vI t, vI u, vU, vU], [vI v_3], aq_h m s F c) _
    refine ae_if0 rfl (fun (q_4 : v_3 ≠ 0) => ?_) (fun (q_4 : v_3 = 0) => ?_)
    · refine am_E.go (t2 := (17, [vR y, vI t, vI u, vU, vU], [vR y], aq_h m s F c)) rfl rfl ?_
      refine aq_gf (v := vR (y + 5)) rfl (by omega) hFo (by decide) rfl ?_
      show am_E _ (20, [vR y, vI t, vI u, vU, vU], [vR (y + 5)], aq_h m s F c) _
      refine am_E.go (t2 := (21, [vR y, vI t, vI u, vU, vU], [vI t, vR (y + 5)], aq_h m s F c)) rfl rfl ?_
      refine aq_al (ok := fun k => k == 0) (v := vI (c (y + 5) t)) rfl rfl (by omega) hG5 rfl (by omega) (by omega) rfl ?_
      show am_E _ (22, [vR y, vI t, vI u, vU, vU], [vI (c (y + 5) t)], aq_h m s F c) _
      refine am_E.go (t2 := (23, [vR y, vI t, vI u, vU, vU], [vR y, vI (c (y + 5) t)], aq_h m s F c)) rfl rfl ?_
      refine aq_gf (v := vR (y + 5)) rfl (by omega) hFo (by decide) rfl ?_
      show am_E _ (26, [vR y, vI t, vI u, vU, vU], [vR (y + 5), vI (c (y + 5) t)], aq_h m s F c) _
      refine am_E.go (t2 := (27, [vR y, vI t, vI u, vU, vU], [vI u, vR (y + 5), vI (c (y + 5) t)], aq_h m s F c)) rfl rfl ?_
      refine aq_al (ok := fun k => k == 0) (v := vI (c (y + 5) u)) rfl rfl (by omega) hG5 rfl (by omega) (by omega) rfl ?_
      show am_E _ (28, [vR y, vI t, vI u, vU, vU], [vI (c (y + 5) u), vI (c (y + 5) t)], aq_h m s F c) _
      refine ae_icmp rfl (fun (q_5 : (c (y + 5) t) ≠ (c (y + 5) u)) => ?_) (fun (q_5 : (c (y + 5) t) = (c (y + 5) u)) => ?_)
      · refine am_E.go (t2 := (51, [vR y, vI t, vI u, vU, vU], [vI 0], aq_h m s F c)) rfl rfl ?_
        refine am_E.go (t2 := (52, [vR y, vI t, vI u, vI 0, vU], [], aq_h m s F c)) rfl rfl ?_
        refine am_E.go (t2 := (53, [vR y, vI t, vI u, vI 0, vU], [vI 0], aq_h m s F c)) rfl rfl ?_
        refine am_E.go (t2 := (55, [vR y, vI t, vI u, vI 0, vI 0], [], aq_h m s F c)) rfl rfl ?_
        have hu3 := (hI.2 t (by omega) (by omega)).2.2.1
        have hu4 := (hI.2 t (by omega) (by omega)).2.2.2.1
        have e7 : sv_a (c (y + 5) t) (rf_v y t c) (c (y + 5) u) (rf_v y u c) t u = sa_l (c (y + 5) t) (rf_v y t c) (c (y + 5) u) (rf_v y u c) := by unfold sv_a; rw [if_pos (by omega)]
        rw [e7]
        exact qx_same_l ⟨hm, hFo, hG5, hG6, hG7, hG8, hG9, hG10, hG11, hG12, hG13, hG14, hG15, hG16, hG17, hG18, hG19, hG20, hG21, hG22, hG23⟩ hI (by omega) (by omega) (by omega) (by omega) (hI.2 t (by omega) (by omega)).2.2.2.1 (T := sa_l (c (y + 5) t) (rf_v y t c) (c (y + 5) u) (rf_v y u c)) 42 0 0 (by omega) (by omega) (Or.inl ⟨rfl, by rw [sa_r, if_neg (show ¬ (c (y + 5) t = c (y + 5) u ∧ c (y + 6) t = c (y + 6) u) by omega)]⟩) (by omega)
      · refine am_E.go (t2 := (32, [vR y, vI t, vI u, vU, vU], [vR y], aq_h m s F c)) rfl rfl ?_
        refine aq_gf (v := vR (y + 6)) rfl (by omega) hFo (by decide) rfl ?_
        show am_E _ (35, [vR y, vI t, vI u, vU, vU], [vR (y + 6)], aq_h m s F c) _
        refine am_E.go (t2 := (36, [vR y, vI t, vI u, vU, vU], [vI t, vR (y + 6)], aq_h m s F c)) rfl rfl ?_
        refine aq_al (ok := fun k => k == 0) (v := vI (c (y + 6) t)) rfl rfl (by omega) hG6 rfl (by omega) (by omega) rfl ?_
        show am_E _ (37, [vR y, vI t, vI u, vU, vU], [vI (c (y + 6) t)], aq_h m s F c) _
        refine am_E.go (t2 := (38, [vR y, vI t, vI u, vU, vU], [vR y, vI (c (y + 6) t)], aq_h m s F c)) rfl rfl ?_
        refine aq_gf (v := vR (y + 6)) rfl (by omega) hFo (by decide) rfl ?_
        show am_E _ (41, [vR y, vI t, vI u, vU, vU], [vR (y + 6), vI (c (y + 6) t)], aq_h m s F c) _
        refine am_E.go (t2 := (42, [vR y, vI t, vI u, vU, vU], [vI u, vR (y + 6), vI (c (y + 6) t)], aq_h m s F c)) rfl rfl ?_
        refine aq_al (ok := fun k => k == 0) (v := vI (c (y + 6) u)) rfl rfl (by omega) hG6 rfl (by omega) (by omega) rfl ?_
        show am_E _ (43, [vR y, vI t, vI u, vU, vU], [vI (c (y + 6) u), vI (c (y + 6) t)], aq_h m s F c) _
        refine ae_icmp rfl (fun (q_6 : (c (y + 6) t) ≠ (c (y + 6) u)) => ?_) (fun (q_6 : (c (y + 6) t) = (c (y + 6) u)) => ?_)
        · refine am_E.go (t2 := (51, [vR y, vI t, vI u, vU, vU], [vI 0], aq_h m s F c)) rfl rfl ?_
          refine am_E.go (t2 := (52, [vR y, vI t, vI u, vI 0, vU], [], aq_h m s F c)) rfl rfl ?_
          refine am_E.go (t2 := (53, [vR y, vI t, vI u, vI 0, vU], [vI 0], aq_h m s F c)) rfl rfl ?_
          refine am_E.go (t2 := (55, [vR y, vI t, vI u, vI 0, vI 0], [], aq_h m s F c)) rfl rfl ?_
          have hu3 := (hI.2 t (by omega) (by omega)).2.2.1
          have hu4 := (hI.2 t (by omega) (by omega)).2.2.2.1
          have e7 : sv_a (c (y + 5) t) (rf_v y t c) (c (y + 5) u) (rf_v y u c) t u = sa_l (c (y + 5) t) (rf_v y t c) (c (y + 5) u) (rf_v y u c) := by unfold sv_a; rw [if_pos (by omega)]
          rw [e7]
          exact qx_same_l ⟨hm, hFo, hG5, hG6, hG7, hG8, hG9, hG10, hG11, hG12, hG13, hG14, hG15, hG16, hG17, hG18, hG19, hG20, hG21, hG22, hG23⟩ hI (by omega) (by omega) (by omega) (by omega) (hI.2 t (by omega) (by omega)).2.2.2.1 (T := sa_l (c (y + 5) t) (rf_v y t c) (c (y + 5) u) (rf_v y u c)) 42 0 0 (by omega) (by omega) (Or.inl ⟨rfl, by rw [sa_r, if_neg (show ¬ (c (y + 5) t = c (y + 5) u ∧ c (y + 6) t = c (y + 6) u) by omega)]⟩) (by omega)
        · refine am_E.go (t2 := (47, [vR y, vI t, vI u, vU, vU], [vI 1], aq_h m s F c)) rfl rfl ?_
          refine am_E.go (t2 := (51, [vR y, vI t, vI u, vU, vU], [vI 1], aq_h m s F c)) rfl rfl ?_
          refine am_E.go (t2 := (52, [vR y, vI t, vI u, vI 1, vU], [], aq_h m s F c)) rfl rfl ?_
          refine am_E.go (t2 := (53, [vR y, vI t, vI u, vI 1, vU], [vI 0], aq_h m s F c)) rfl rfl ?_
          refine am_E.go (t2 := (55, [vR y, vI t, vI u, vI 1, vI 0], [], aq_h m s F c)) rfl rfl ?_
          have hu3 := (hI.2 t (by omega) (by omega)).2.2.1
          have hu4 := (hI.2 t (by omega) (by omega)).2.2.2.1
          have e7 : sv_a (c (y + 5) t) (rf_v y t c) (c (y + 5) u) (rf_v y u c) t u = sa_l (c (y + 5) t) (rf_v y t c) (c (y + 5) u) (rf_v y u c) := by unfold sv_a; rw [if_pos (by omega)]
          rw [e7]
          exact qx_same_l ⟨hm, hFo, hG5, hG6, hG7, hG8, hG9, hG10, hG11, hG12, hG13, hG14, hG15, hG16, hG17, hG18, hG19, hG20, hG21, hG22, hG23⟩ hI (by omega) (by omega) (by omega) (by omega) (hI.2 t (by omega) (by omega)).2.2.2.1 (T := sa_l (c (y + 5) t) (rf_v y t c) (c (y + 5) u) (rf_v y u c)) 42 1 0 (by omega) (by omega) (Or.inr ⟨rfl, by rw [sa_r, if_pos (show c (y + 5) t = c (y + 5) u ∧ c (y + 6) t = c (y + 6) u by omega)]⟩) (by omega)
    · refine am_E.go (t2 := (15, [vR y, vI t, vI u, vU, vU], [vI (-1)], aq_h m s F c)) rfl rfl ?_
      refine am_E.ret rfl rfl ?_
      refine ⟨_, rfl, (aq_sm0 (c := c) (S := fun a => y ≤ a ∧ a < y + 24)), ?_, hI, fun _ _ => rfl⟩
      unfold sv_a
      rw [if_neg (by omega)]

def cx_ (n : Int) (t : sm_) (p : Int) : Nat → Int → Int → Int
  | 0, _, x => x
  | d + 1, i, x => if i < t.1 then cx_ n t p d (i + 1) (if t.2.2.1 i + rg_ n (t.2.1 i) = p then am_wl (x + t.2.2.2 i) else x) else x
/-- closed's answer -/
def cw_a (n : Int) (t : sm_) (s p : Int) : Int := if (0 ≤ s ∧ s < 8) ∧ 0 ≤ p ∧ p ≤ 24 then cx_ n t p 41 0 0 else 0
theorem cx_c {n p : Int} {t t2 : sm_} (h : sm_e t t2) : ∀ (d : Nat) (i x : Int), 0 ≤ i → cx_ n t p d i x = cx_ n t2 p d i x
  | 0, _, _, _ => rfl
  | d + 1, i, x, i0 => by
    rw [cx_, cx_, ← h.1]
    by_cases e : i < t.1
    · have a := h.2 i i0 e
      rw [if_pos e, if_pos e, ← a.1, ← a.2.1, ← a.2.2]
      exact cx_c h d (i + 1) _ (by omega)
    · rw [if_neg e, if_neg e]
theorem cw_c {n s p : Int} {t t2 : sm_} (h : sm_e t t2) : cw_a n t s p = cw_a n t2 s p := by
  unfold cw_a
  rw [cx_c h 41 0 0 (by omega)]
theorem cx_s {a d : Nat} {c : aq_C} {n p i x : Int} : cx_ n (su_v a c) p (d + 1) i x = if i < c a 1 then cx_ n (su_v a c) p d (i + 1) (if c (a + 2) i + rg_ n (c (a + 1) i) = p then am_wl (x + c (a + 3) i) else x) else x := rfl
theorem cx_r {y d : Nat} {t : Int} {c : aq_C} {n p i x : Int} : cx_ n (rf_v y t c) p (d + 1) i x = if i < c (y + 6) t then cx_ n (rf_v y t c) p d (i + 1) (if c (y + 8) (40 * t + i) + rg_ n (c (y + 7) (40 * t + i)) = p then am_wl (x + c (y + 9) (40 * t + i)) else x) else x := rfl

theorem qx_closed_l {m s : Nat} {F : aq_F} {c0 : aq_C} {y : Nat} (hO : mo_0 m F y) {tbl : Int → Int} (hT : mo_T F y tbl) (hI : mo_I y c0) {t p : Int} (ht0 : 0 ≤ t) (ht1 : t < 8) (hn1 : 1 ≤ c0 (y + 5) t) (hn4 : c0 (y + 5) t ≤ 4) (hWt : sm_w (bx_K (c0 (y + 5) t)) (rf_v y t c0)) {T : Int} : ∀ (d : Nat) (x : Int) (k : Int) (v6 : am_V) (c : aq_C) (hs : aq_sm (fun a => a = y + 13) c0 c) (h0 : 0 ≤ k) (h1 : k ≤ c0 (y + 6) t) (hx : am_r64 x) (hT2 : cx_ (c0 (y + 5) t) (rf_v y t c0) p d k x = T) (hd : c0 (y + 6) t - k < (d : Int)), am_E ac_X5_closed (26, [vR y, vI t, vI p, vL x, vU, vI k, v6], [], aq_h m s F c) (aq_Z m s F (fun a => y ≤ a ∧ a < y + 24) c0 (fun r d => r = some (vL T) ∧ mo_I y d ∧ aq_sm (fun a => a = y + 13) c0 d))
  | 0, x, k, v6, c, hs, h0, h1, hx, hT2, hd => by exfalso; omega
  | d + 1, x, k, v6, c, hs, h0, h1, hx, hT2, hd => by
    obtain ⟨hm, hFo, hG5, hG6, hG7, hG8, hG9, hG10, hG11, hG12, hG13, hG14, hG15, hG16, hG17, hG18, hG19, hG20, hG21, hG22, hG23⟩ := hO
    obtain ⟨hT1, hTt⟩ := hT
    have hzt1 : 0 ≤ c0 (y + 6) t := hWt.1
    have hzt2 : c0 (y + 6) t ≤ 40 := hWt.2.1
    refine am_E.go (t2 := (28, [vR y, vI t, vI p, vL x, vU, vI k, v6], [vI k], aq_h m s F c)) rfl rfl ?_
    refine am_E.go (t2 := (29, [vR y, vI t, vI p, vL x, vU, vI k, v6], [vR y, vI k], aq_h m s F c)) rfl rfl ?_
    refine aq_gf (v := vR (y + 6)) rfl (by omega) hFo (by decide) rfl ?_
    show am_E _ (32, [vR y, vI t, vI p, vL x, vU, vI k, v6], [vR (y + 6), vI k], aq_h m s F c) _
    refine am_E.go (t2 := (33, [vR y, vI t, vI p, vL x, vU, vI k, v6], [vI t, vR (y + 6), vI k], aq_h m s F c)) rfl rfl ?_
    refine aq_al (ok := fun k => k == 0) (v := vI (c (y + 6) t)) rfl rfl (by omega) hG6 rfl (by omega) (by omega) rfl ?_
    show am_E _ (34, [vR y, vI t, vI p, vL x, vU, vI k, v6], [vI (c (y + 6) t), vI k], aq_h m s F c) _
    have f_1 := hs (y + 6) (by omega) t
    refine ae_icmp rfl (fun (q_2 : (c (y + 6) t) ≤ k) => ?_) (fun (q_2 : k < (c (y + 6) t)) => ?_)
    · refine am_E.go (t2 := (106, [vR y, vI t, vI p, vL x, vU, vI k, v6], [vL x], aq_h m s F c)) rfl rfl ?_
      refine am_E.ret rfl rfl ?_
      refine ⟨_, rfl, aq_smi hs (fun a h => by omega), ?_, mo_Is hI hs (mo_ks mo_k0 hs (by omega)) (by omega) (by omega) (by omega) (by omega) (by omega), hs⟩
      rw [← hT2, cx_r, if_neg (show ¬ k < c0 (y + 6) t by omega)]
    · refine am_E.go (t2 := (38, [vR y, vI t, vI p, vL x, vU, vI k, v6], [vR y], aq_h m s F c)) rfl rfl ?_
      refine aq_gf (v := vR (y + 8)) rfl (by omega) hFo (by decide) rfl ?_
      show am_E _ (41, [vR y, vI t, vI p, vL x, vU, vI k, v6], [vR (y + 8)], aq_h m s F c) _
      refine am_E.go (t2 := (43, [vR y, vI t, vI p, vL x, vU, vI k, v6], [vI 40, vR (y + 8)], aq_h m s F c)) rfl rfl ?_
      refine am_E.go (t2 := (44, [vR y, vI t, vI p, vL x, vU, vI k, v6], [vI t, vI 40, vR (y + 8)], aq_h m s F c)) rfl rfl ?_
      refine ae_mul rfl (am_ri (by omega) (by omega)) ?_
      show am_E _ (45, [vR y, vI t, vI p, vL x, vU, vI k, v6], [vI (40 * t), vR (y + 8)], aq_h m s F c) _
      refine am_E.go (t2 := (47, [vR y, vI t, vI p, vL x, vU, vI k, v6], [vI k, vI (40 * t), vR (y + 8)], aq_h m s F c)) rfl rfl ?_
      refine ae_add rfl (am_ri (by omega) (by omega)) ?_
      show am_E _ (48, [vR y, vI t, vI p, vL x, vU, vI k, v6], [vI ((40 * t) + k), vR (y + 8)], aq_h m s F c) _
      refine aq_al (ok := fun k => k == 0) (v := vI (c (y + 8) ((40 * t) + k))) rfl rfl (by omega) hG8 rfl (by omega) (by omega) rfl ?_
      show am_E _ (49, [vR y, vI t, vI p, vL x, vU, vI k, v6], [vI (c (y + 8) ((40 * t) + k))], aq_h m s F c) _
      have f_3 := hs (y + 8) (by omega) ((40 * t) + k)
      have kk : (0 ≤ c0 (y + 7) (40 * t + k) ∧ c0 (y + 7) (40 * t + k) < bx_K (c0 (y + 5) t)) ∧ (0 ≤ c0 (y + 8) (40 * t + k) ∧ c0 (y + 8) (40 * t + k) ≤ 20) ∧ sm_ok (c0 (y + 9) (40 * t + k)) ∧ c0 (y + 9) (40 * t + k) ≠ 0 := hWt.2.2.1 k (by omega) (show k < c0 (y + 6) t by omega)
      obtain ⟨⟨kb0, kb1⟩, ⟨kp0, kp1⟩, kf, kn⟩ := kk
      refine am_E.go (t2 := (50, [vR y, vI t, vI p, vL x, vU, vI k, v6], [vR y, vI (c (y + 8) ((40 * t) + k))], aq_h m s F c)) rfl rfl ?_
      refine am_E.go (t2 := (51, [vR y, vI t, vI p, vL x, vU, vI k, v6], [vR y, vR y, vI (c (y + 8) ((40 * t) + k))], aq_h m s F c)) rfl rfl ?_
      refine aq_gf (v := vR (y + 5)) rfl (by omega) hFo (by decide) rfl ?_
      show am_E _ (54, [vR y, vI t, vI p, vL x, vU, vI k, v6], [vR (y + 5), vR y, vI (c (y + 8) ((40 * t) + k))], aq_h m s F c) _
      refine am_E.go (t2 := (55, [vR y, vI t, vI p, vL x, vU, vI k, v6], [vI t, vR (y + 5), vR y, vI (c (y + 8) ((40 * t) + k))], aq_h m s F c)) rfl rfl ?_
      refine aq_al (ok := fun k => k == 0) (v := vI (c (y + 5) t)) rfl rfl (by omega) hG5 rfl (by omega) (by omega) rfl ?_
      show am_E _ (56, [vR y, vI t, vI p, vL x, vU, vI k, v6], [vI (c (y + 5) t), vR y, vI (c (y + 8) ((40 * t) + k))], aq_h m s F c) _
      have f_4 := hs (y + 5) (by omega) t
      refine am_E.go (t2 := (57, [vR y, vI t, vI p, vL x, vU, vI k, v6], [vR y, vI (c (y + 5) t), vR y, vI (c (y + 8) ((40 * t) + k))], aq_h m s F c)) rfl rfl ?_
      refine aq_gf (v := vR (y + 7)) rfl (by omega) hFo (by decide) rfl ?_
      show am_E _ (60, [vR y, vI t, vI p, vL x, vU, vI k, v6], [vR (y + 7), vI (c (y + 5) t), vR y, vI (c (y + 8) ((40 * t) + k))], aq_h m s F c) _
      refine am_E.go (t2 := (62, [vR y, vI t, vI p, vL x, vU, vI k, v6], [vI 40, vR (y + 7), vI (c (y + 5) t), vR y, vI (c (y + 8) ((40 * t) + k))], aq_h m s F c)) rfl rfl ?_
      refine am_E.go (t2 := (63, [vR y, vI t, vI p, vL x, vU, vI k, v6], [vI t, vI 40, vR (y + 7), vI (c (y + 5) t), vR y, vI (c (y + 8) ((40 * t) + k))], aq_h m s F c)) rfl rfl ?_
      refine ae_mul rfl (am_ri (by omega) (by omega)) ?_
      show am_E _ (64, [vR y, vI t, vI p, vL x, vU, vI k, v6], [vI (40 * t), vR (y + 7), vI (c (y + 5) t), vR y, vI (c (y + 8) ((40 * t) + k))], aq_h m s F c) _
      refine am_E.go (t2 := (66, [vR y, vI t, vI p, vL x, vU, vI k, v6], [vI k, vI (40 * t), vR (y + 7), vI (c (y + 5) t), vR y, vI (c (y + 8) ((40 * t) + k))], aq_h m s F c)) rfl rfl ?_
      refine ae_add rfl (am_ri (by omega) (by omega)) ?_
      show am_E _ (67, [vR y, vI t, vI p, vL x, vU, vI k, v6], [vI ((40 * t) + k), vR (y + 7), vI (c (y + 5) t), vR y, vI (c (y + 8) ((40 * t) + k))], aq_h m s F c) _
      refine aq_al (ok := fun k => k == 0) (v := vI (c (y + 7) ((40 * t) + k))) rfl rfl (by omega) hG7 rfl (by omega) (by omega) rfl ?_
      show am_E _ (68, [vR y, vI t, vI p, vL x, vU, vI k, v6], [vI (c (y + 7) ((40 * t) + k)), vI (c (y + 5) t), vR y, vI (c (y + 8) ((40 * t) + k))], aq_h m s F c) _
      have f_5 := hs (y + 7) (by omega) ((40 * t) + k)
      refine aq_callv (y := 3) (as2 := [vI (c (y + 5) t), vI (c (y + 7) ((40 * t) + k))]) (rest := [vI (c (y + 8) ((40 * t) + k))]) rfl rfl (by decide) (Nat.le_of_ble_eq_true rfl) rfl rfl (Nat.le_of_ble_eq_true rfl) (by omega) hFo rfl (Nat.le_of_ble_eq_true rfl) (qy_mrings (S := (fun a => a = y + 13)) ⟨hm, hFo, hG5, hG6, hG7, hG8, hG9, hG10, hG11, hG12, hG13, hG14, hG15, hG16, hG17, hG18, hG19, hG20, hG21, hG22, hG23⟩ rfl ⟨hT1, hTt⟩ (by omega) (by omega) (by omega) (by rw [hs (y + 5) (by omega) t]; omega)) ?_
      rintro r5 h5 ⟨c_b, rfl, s_b, rfl⟩
      show am_E _ (71, [vR y, vI t, vI p, vL x, vU, vI k, v6], [vI (ry_ (c (y + 5) t) (prt (c (y + 5) t) (c (y + 7) ((40 * t) + k))) 6 0 0 (fun _ => 0)), vI (c (y + 8) ((40 * t) + k))], aq_h m s F c_b) _
      have e_r : ry_ (c (y + 5) t) (prt (c (y + 5) t) (c (y + 7) ((40 * t) + k))) 6 0 0 (fun _ => 0) = rg_ (c0 (y + 5) t) (c0 (y + 7) (40 * t + k)) := by rw [hs (y + 5) (by omega) t, hs (y + 7) (by omega) (40 * t + k)]; exact ry_e hn1 hn4 kb0 kb1
      have e_b := (tb_A_a (n := c0 (y + 5) t) (x := c0 (y + 7) (40 * t + k)) hn1 hn4 kb0 (by omega)).2.2.2
      refine ae_add rfl (am_ri (by omega) (by omega)) ?_
      show am_E _ (72, [vR y, vI t, vI p, vL x, vU, vI k, v6], [vI ((c (y + 8) ((40 * t) + k)) + (ry_ (c (y + 5) t) (prt (c (y + 5) t) (c (y + 7) ((40 * t) + k))) 6 0 0 (fun _ => 0)))], aq_h m s F c_b) _
      refine am_E.go (t2 := (74, [vR y, vI t, vI p, vL x, vU, vI k, vI ((c (y + 8) ((40 * t) + k)) + (ry_ (c (y + 5) t) (prt (c (y + 5) t) (c (y + 7) ((40 * t) + k))) 6 0 0 (fun _ => 0)))], [], aq_h m s F c_b)) rfl rfl ?_
      refine am_E.go (t2 := (75, [vR y, vI t, vI p, vL x, vU, vI k, vI ((c (y + 8) ((40 * t) + k)) + (ry_ (c (y + 5) t) (prt (c (y + 5) t) (c (y + 7) ((40 * t) + k))) 6 0 0 (fun _ => 0)))], [vL x], aq_h m s F c_b)) rfl rfl ?_
      refine am_E.go (t2 := (77, [vR y, vI t, vI p, vL x, vU, vI k, vI ((c (y + 8) ((40 * t) + k)) + (ry_ (c (y + 5) t) (prt (c (y + 5) t) (c (y + 7) ((40 * t) + k))) 6 0 0 (fun _ => 0)))], [vI ((c (y + 8) ((40 * t) + k)) + (ry_ (c (y + 5) t) (prt (c (y + 5) t) (c (y + 7) ((40 * t) + k))) 6 0 0 (fun _ => 0))), vL x], aq_h m s F c_b)) rfl rfl ?_
      refine am_E.go (t2 := (78, [vR y, vI t, vI p, vL x, vU, vI k, vI ((c (y + 8) ((40 * t) + k)) + (ry_ (c (y + 5) t) (prt (c (y + 5) t) (c (y + 7) ((40 * t) + k))) 6 0 0 (fun _ => 0)))], [vI p, vI ((c (y + 8) ((40 * t) + k)) + (ry_ (c (y + 5) t) (prt (c (y + 5) t) (c (y + 7) ((40 * t) + k))) 6 0 0 (fun _ => 0))), vL x], aq_h m s F c_b)) rfl rfl ?_
      refine ae_icmp rfl (fun (q_6 : ((c (y + 8) ((40 * t) + k)) + (ry_ (c (y + 5) t) (prt (c (y + 5) t) (c (y + 7) ((40 * t) + k))) 6 0 0 (fun _ => 0))) ≠ p) => ?_) (fun (q_6 : ((c (y + 8) ((40 * t) + k)) + (ry_ (c (y + 5) t) (prt (c (y + 5) t) (c (y + 7) ((40 * t) + k))) 6 0 0 (fun _ => 0))) = p) => ?_)
      · refine am_E.go (t2 := (97, [vR y, vI t, vI p, vL x, vU, vI k, vI ((c (y + 8) ((40 * t) + k)) + (ry_ (c (y + 5) t) (prt (c (y + 5) t) (c (y + 7) ((40 * t) + k))) 6 0 0 (fun _ => 0)))], [vL 0, vL x], aq_h m s F c_b)) rfl rfl ?_
        refine am_E.go (t2 := (98, [vR y, vI t, vI p, vL x, vU, vI k, vI ((c (y + 8) ((40 * t) + k)) + (ry_ (c (y + 5) t) (prt (c (y + 5) t) (c (y + 7) ((40 * t) + k))) 6 0 0 (fun _ => 0)))], [vL (am_wl (x + 0))], aq_h m s F c_b)) rfl rfl ?_
        refine am_E.go (t2 := (99, [vR y, vI t, vI p, vL (am_wl (x + 0)), vU, vI k, vI ((c (y + 8) ((40 * t) + k)) + (ry_ (c (y + 5) t) (prt (c (y + 5) t) (c (y + 7) ((40 * t) + k))) 6 0 0 (fun _ => 0)))], [], aq_h m s F c_b)) rfl rfl ?_
        refine ae_iinc rfl rfl (am_ri (by omega) (by omega)) ?_
        show am_E _ (102, [vR y, vI t, vI p, vL (am_wl (x + 0)), vU, vI (k + 1), vI ((c (y + 8) ((40 * t) + k)) + (ry_ (c (y + 5) t) (prt (c (y + 5) t) (c (y + 7) ((40 * t) + k))) 6 0 0 (fun _ => 0)))], [], aq_h m s F c_b) _
        refine am_E.go (t2 := (26, [vR y, vI t, vI p, vL (am_wl (x + 0)), vU, vI (k + 1), vI ((c (y + 8) ((40 * t) + k)) + (ry_ (c (y + 5) t) (prt (c (y + 5) t) (c (y + 7) ((40 * t) + k))) 6 0 0 (fun _ => 0)))], [], aq_h m s F c_b)) rfl rfl ?_
        exact qx_closed_l ⟨hm, hFo, hG5, hG6, hG7, hG8, hG9, hG10, hG11, hG12, hG13, hG14, hG15, hG16, hG17, hG18, hG19, hG20, hG21, hG22, hG23⟩ ⟨hT1, hTt⟩ hI ht0 ht1 hn1 hn4 hWt d (am_wl (x + 0)) (k + 1) (vI ((c (y + 8) ((40 * t) + k)) + (ry_ (c (y + 5) t) (prt (c (y + 5) t) (c (y + 7) ((40 * t) + k))) 6 0 0 (fun _ => 0)))) c_b (aq_smt hs s_b) (by omega) (by omega) (am_wl_r _) (by rw [← hT2, cx_r, if_pos (show k < c0 (y + 6) t by omega), if_neg (show ¬ c0 (y + 8) (40 * t + k) + rg_ (c0 (y + 5) t) (c0 (y + 7) (40 * t + k)) = p by omega), Int.add_zero, am_wl_id hx]) (by omega)
      · refine am_E.go (t2 := (82, [vR y, vI t, vI p, vL x, vU, vI k, vI ((c (y + 8) ((40 * t) + k)) + (ry_ (c (y + 5) t) (prt (c (y + 5) t) (c (y + 7) ((40 * t) + k))) 6 0 0 (fun _ => 0)))], [vR y, vL x], aq_h m s F c_b)) rfl rfl ?_
        refine aq_gf (v := vR (y + 9)) rfl (by omega) hFo (by decide) rfl ?_
        show am_E _ (85, [vR y, vI t, vI p, vL x, vU, vI k, vI ((c (y + 8) ((40 * t) + k)) + (ry_ (c (y + 5) t) (prt (c (y + 5) t) (c (y + 7) ((40 * t) + k))) 6 0 0 (fun _ => 0)))], [vR (y + 9), vL x], aq_h m s F c_b) _
        refine am_E.go (t2 := (87, [vR y, vI t, vI p, vL x, vU, vI k, vI ((c (y + 8) ((40 * t) + k)) + (ry_ (c (y + 5) t) (prt (c (y + 5) t) (c (y + 7) ((40 * t) + k))) 6 0 0 (fun _ => 0)))], [vI 40, vR (y + 9), vL x], aq_h m s F c_b)) rfl rfl ?_
        refine am_E.go (t2 := (88, [vR y, vI t, vI p, vL x, vU, vI k, vI ((c (y + 8) ((40 * t) + k)) + (ry_ (c (y + 5) t) (prt (c (y + 5) t) (c (y + 7) ((40 * t) + k))) 6 0 0 (fun _ => 0)))], [vI t, vI 40, vR (y + 9), vL x], aq_h m s F c_b)) rfl rfl ?_
        refine ae_mul rfl (am_ri (by omega) (by omega)) ?_
        show am_E _ (89, [vR y, vI t, vI p, vL x, vU, vI k, vI ((c (y + 8) ((40 * t) + k)) + (ry_ (c (y + 5) t) (prt (c (y + 5) t) (c (y + 7) ((40 * t) + k))) 6 0 0 (fun _ => 0)))], [vI (40 * t), vR (y + 9), vL x], aq_h m s F c_b) _
        refine am_E.go (t2 := (91, [vR y, vI t, vI p, vL x, vU, vI k, vI ((c (y + 8) ((40 * t) + k)) + (ry_ (c (y + 5) t) (prt (c (y + 5) t) (c (y + 7) ((40 * t) + k))) 6 0 0 (fun _ => 0)))], [vI k, vI (40 * t), vR (y + 9), vL x], aq_h m s F c_b)) rfl rfl ?_
        refine ae_add rfl (am_ri (by omega) (by omega)) ?_
        show am_E _ (92, [vR y, vI t, vI p, vL x, vU, vI k, vI ((c (y + 8) ((40 * t) + k)) + (ry_ (c (y + 5) t) (prt (c (y + 5) t) (c (y + 7) ((40 * t) + k))) 6 0 0 (fun _ => 0)))], [vI ((40 * t) + k), vR (y + 9), vL x], aq_h m s F c_b) _
        refine aq_al (ok := fun k => k == 2) (v := vL (c_b (y + 9) ((40 * t) + k))) rfl rfl (by omega) hG9 rfl (by omega) (by omega) rfl ?_
        show am_E _ (93, [vR y, vI t, vI p, vL x, vU, vI k, vI ((c (y + 8) ((40 * t) + k)) + (ry_ (c (y + 5) t) (prt (c (y + 5) t) (c (y + 7) ((40 * t) + k))) 6 0 0 (fun _ => 0)))], [vL (c_b (y + 9) ((40 * t) + k)), vL x], aq_h m s F c_b) _
        have f_7 := (aq_smt hs s_b) (y + 9) (by omega) ((40 * t) + k)
        refine am_E.go (t2 := (97, [vR y, vI t, vI p, vL x, vU, vI k, vI ((c (y + 8) ((40 * t) + k)) + (ry_ (c (y + 5) t) (prt (c (y + 5) t) (c (y + 7) ((40 * t) + k))) 6 0 0 (fun _ => 0)))], [vL (c_b (y + 9) ((40 * t) + k)), vL x], aq_h m s F c_b)) rfl rfl ?_
        have e_9 : (c_b (y + 9) ((40 * t) + k)) = c0 (y + 9) (40 * t + k) := by assumption
        refine am_E.go (t2 := (98, [vR y, vI t, vI p, vL x, vU, vI k, vI ((c (y + 8) ((40 * t) + k)) + (ry_ (c (y + 5) t) (prt (c (y + 5) t) (c (y + 7) ((40 * t) + k))) 6 0 0 (fun _ => 0)))], [vL (am_wl (x + (c_b (y + 9) ((40 * t) + k))))], aq_h m s F c_b)) rfl rfl ?_
        refine am_E.go (t2 := (99, [vR y, vI t, vI p, vL (am_wl (x + (c_b (y + 9) ((40 * t) + k)))), vU, vI k, vI ((c (y + 8) ((40 * t) + k)) + (ry_ (c (y + 5) t) (prt (c (y + 5) t) (c (y + 7) ((40 * t) + k))) 6 0 0 (fun _ => 0)))], [], aq_h m s F c_b)) rfl rfl ?_
        refine ae_iinc rfl rfl (am_ri (by omega) (by omega)) ?_
        show am_E _ (102, [vR y, vI t, vI p, vL (am_wl (x + (c_b (y + 9) ((40 * t) + k)))), vU, vI (k + 1), vI ((c (y + 8) ((40 * t) + k)) + (ry_ (c (y + 5) t) (prt (c (y + 5) t) (c (y + 7) ((40 * t) + k))) 6 0 0 (fun _ => 0)))], [], aq_h m s F c_b) _
        refine am_E.go (t2 := (26, [vR y, vI t, vI p, vL (am_wl (x + (c_b (y + 9) ((40 * t) + k)))), vU, vI (k + 1), vI ((c (y + 8) ((40 * t) + k)) + (ry_ (c (y + 5) t) (prt (c (y + 5) t) (c (y + 7) ((40 * t) + k))) 6 0 0 (fun _ => 0)))], [], aq_h m s F c_b)) rfl rfl ?_
        exact qx_closed_l ⟨hm, hFo, hG5, hG6, hG7, hG8, hG9, hG10, hG11, hG12, hG13, hG14, hG15, hG16, hG17, hG18, hG19, hG20, hG21, hG22, hG23⟩ ⟨hT1, hTt⟩ hI ht0 ht1 hn1 hn4 hWt d (am_wl (x + (c_b (y + 9) ((40 * t) + k)))) (k + 1) (vI ((c (y + 8) ((40 * t) + k)) + (ry_ (c (y + 5) t) (prt (c (y + 5) t) (c (y + 7) ((40 * t) + k))) 6 0 0 (fun _ => 0)))) c_b (aq_smt hs s_b) (by omega) (by omega) (am_wl_r _) (by rw [← hT2, cx_r, if_pos (show k < c0 (y + 6) t by omega), if_pos (show c0 (y + 8) (40 * t + k) + rg_ (c0 (y + 5) t) (c0 (y + 7) (40 * t + k)) = p by omega), e_9]) (by omega)

theorem qx_X5_closed {m s : Nat} {F : aq_F} {c : aq_C} {y : Nat} (hC : mo_C m F y) (hI : mo_I y c) {t p : Int} (hWs : ∀ x : Int, 0 ≤ x → x < 8 → sm_w (bx_K (c (y + 5) x)) (rf_v y x c)) : am_E ac_X5_closed (0, [vR y, vI t, vI p, vU, vU, vU, vU], [], aq_h m s F c) (aq_Z m s F (fun a => y ≤ a ∧ a < y + 24) c (fun r d => r = some (vL (cw_a (c (y + 5) t) (rf_v y t c) t p)) ∧ mo_I y d ∧ aq_sm (fun a => a = y + 13) c d)) := by
  obtain ⟨⟨hm, hFo, hG5, hG6, hG7, hG8, hG9, hG10, hG11, hG12, hG13, hG14, hG15, hG16, hG17, hG18, hG19, hG20, hG21, hG22, hG23⟩, ⟨tbl, hT1, hTt⟩, ⟨tA, tB, tD, hL1, hL2, hL3, hLt⟩⟩ := hC
  refine am_E.go (t2 := (1, [vR y, vI t, vI p, vU, vU, vU, vU], [vI t], aq_h m s F c)) rfl rfl ?_
  refine am_E.call rfl rfl rfl (Nat.le_of_ble_eq_true rfl) (qm_isSum) ?_
  rintro r5 h5 ⟨rfl, v_1, rfl, hv_1⟩
  show am_E _ (4, [vR y, vI t, vI p, vU, vU, vU, vU], [vI v_1], aq_h m s F c) _
  refine ae_if0 rfl (fun (q_2 : v_1 = 0) => ?_) (fun (q_2 : v_1 ≠ 0) => ?_)
  · refine am_E.go (t2 := (20, [vR y, vI t, vI p, vU, vU, vU, vU], [vL 0], aq_h m s F c)) rfl rfl ?_
    refine am_E.ret rfl rfl ?_
    refine ⟨_, rfl, aq_sm0, ?_, hI, aq_sm0⟩
    unfold cw_a
    rw [if_neg (by omega)]
  · refine am_E.go (t2 := (8, [vR y, vI t, vI p, vU, vU, vU, vU], [vI p], aq_h m s F c)) rfl rfl ?_
    refine am_E.go (t2 := (9, [vR y, vI t, vI p, vU, vU, vU, vU], [vL p], aq_h m s F c)) rfl rfl ?_
    refine am_E.go (t2 := (10, [vR y, vI t, vI p, vU, vU, vU, vU], [vL 0, vL p], aq_h m s F c)) rfl rfl ?_
    refine am_E.go (t2 := (13, [vR y, vI t, vI p, vU, vU, vU, vU], [vL 24, vL 0, vL p], aq_h m s F c)) rfl rfl ?_
    refine am_E.call rfl rfl rfl (Nat.le_of_ble_eq_true rfl) (qm_in) ?_
    rintro r5 h5 ⟨rfl, v_3, rfl, hv_3⟩
    show am_E _ (16, [vR y, vI t, vI p, vU, vU, vU, vU], [vI v_3], aq_h m s F c) _
    refine ae_if0 rfl (fun (q_4 : v_3 ≠ 0) => ?_) (fun (q_4 : v_3 = 0) => ?_)
    · refine am_E.go (t2 := (22, [vR y, vI t, vI p, vU, vU, vU, vU], [vL 0], aq_h m s F c)) rfl rfl ?_
      refine am_E.go (t2 := (23, [vR y, vI t, vI p, vL 0, vU, vU, vU], [], aq_h m s F c)) rfl rfl ?_
      refine am_E.go (t2 := (24, [vR y, vI t, vI p, vL 0, vU, vU, vU], [vI 0], aq_h m s F c)) rfl rfl ?_
      refine am_E.go (t2 := (26, [vR y, vI t, vI p, vL 0, vU, vI 0, vU], [], aq_h m s F c)) rfl rfl ?_
      have hWt := hWs t (by omega) (by omega)
      have hn1 := (hI.2 t (by omega) (by omega)).1
      have hn4 := (hI.2 t (by omega) (by omega)).2.1
      have hzt1 : 0 ≤ c (y + 6) t := hWt.1
      have hzt2 : c (y + 6) t ≤ 40 := hWt.2.1
      have e7 : cw_a (c (y + 5) t) (rf_v y t c) t p = cx_ (c (y + 5) t) (rf_v y t c) p 41 0 0 := by unfold cw_a; rw [if_pos (by omega)]
      rw [e7]
      exact qx_closed_l ⟨hm, hFo, hG5, hG6, hG7, hG8, hG9, hG10, hG11, hG12, hG13, hG14, hG15, hG16, hG17, hG18, hG19, hG20, hG21, hG22, hG23⟩ ⟨hT1, hTt⟩ hI (by omega) (by omega) hn1 hn4 hWt 41 0 0 (vU) c (aq_sm0 (c := c) (S := (fun a => a = y + 13))) (by omega) (by omega) (am_rl (by omega) (by omega)) rfl (by omega)
    · refine am_E.go (t2 := (20, [vR y, vI t, vI p, vU, vU, vU, vU], [vL 0], aq_h m s F c)) rfl rfl ?_
      refine am_E.ret rfl rfl ?_
      refine ⟨_, rfl, aq_sm0, ?_, hI, aq_sm0⟩
      unfold cw_a
      rw [if_neg (by omega)]

theorem qx_X4_closed_l {m s : Nat} {F : aq_F} {c : aq_C} (hI : cl_I c) {a o n K : Nat} {sa p : Int} {tG tN : Int → Int → Int} {tR tL : Int → Int} (hex : bx_e n K tG tN tR tL) (hn1 : 1 ≤ n) (hn4 : n ≤ 4) (hKn : (K : Int) = bx_K (n : Int)) (hma : su_0 m F a) (hWa : sm_w (K : Int) (su_v a c)) (hmo : o + 2 + K < m) (hR : F (o + 2 + K) = (0, K, fun j => .inr (vI (tR (j : Int))))) {T : Int} : ∀ (d : Nat) (x : Int) (i : Int) (h0 : 0 ≤ i) (h1 : i ≤ c a 1) (hT2 : cx_ (n : Int) (su_v a c) p d i x = T) (hd : c a 1 - i < (d : Int)), am_E ac_X4_closed (48, [vR 0, vI sa, vI p, vR a, vR (o + 2 + K), vL x, vU, vI i], [], aq_h m s F c) (aq_Z m s F (fun a => a < 527) c (fun r d => r = some (vL T) ∧ cl_I d ∧ ∀ x i, d x i = c x i))
  | 0, x, i, h0, h1, hT2, hd => by exfalso; omega
  | d + 1, x, i, h0, h1, hT2, hd => by
    obtain ⟨hmaa, hFaa, hFna, hFpa, hFfa⟩ := hma
    have hk1a : 0 ≤ c a 1 := hWa.1
    have hk2a : c a 1 ≤ 40 := hWa.2.1
    refine am_E.go (t2 := (50, [vR 0, vI sa, vI p, vR a, vR (o + 2 + K), vL x, vU, vI i], [vI i], aq_h m s F c)) rfl rfl ?_
    refine am_E.go (t2 := (51, [vR 0, vI sa, vI p, vR a, vR (o + 2 + K), vL x, vU, vI i], [vR a, vI i], aq_h m s F c)) rfl rfl ?_
    refine aq_gf (v := vI (c a 1)) rfl (by omega) hFaa (by decide) rfl ?_
    show am_E _ (54, [vR 0, vI sa, vI p, vR a, vR (o + 2 + K), vL x, vU, vI i], [vI (c a 1), vI i], aq_h m s F c) _
    refine ae_icmp rfl (fun (q_1 : (c a 1) ≤ i) => ?_) (fun (q_1 : i < (c a 1)) => ?_)
    · refine am_E.go (t2 := (99, [vR 0, vI sa, vI p, vR a, vR (o + 2 + K), vL x, vU, vI i], [vL x], aq_h m s F c)) rfl rfl ?_
      refine am_E.ret rfl rfl ?_
      refine ⟨_, rfl, aq_sm0, ?_, hI, fun _ _ => rfl⟩
      rw [← hT2, cx_s, if_neg (show ¬ i < c a 1 by omega)]
    · refine am_E.go (t2 := (58, [vR 0, vI sa, vI p, vR a, vR (o + 2 + K), vL x, vU, vI i], [vR a], aq_h m s F c)) rfl rfl ?_
      refine aq_gf (v := vR (a + 2)) rfl (by omega) hFaa (by decide) rfl ?_
      show am_E _ (61, [vR 0, vI sa, vI p, vR a, vR (o + 2 + K), vL x, vU, vI i], [vR (a + 2)], aq_h m s F c) _
      refine am_E.go (t2 := (63, [vR 0, vI sa, vI p, vR a, vR (o + 2 + K), vL x, vU, vI i], [vI i, vR (a + 2)], aq_h m s F c)) rfl rfl ?_
      refine aq_al (ok := fun k => k == 0) (v := vI (c (a + 2) i)) rfl rfl (by omega) hFpa rfl (by omega) (by omega) rfl ?_
      show am_E _ (64, [vR 0, vI sa, vI p, vR a, vR (o + 2 + K), vL x, vU, vI i], [vI (c (a + 2) i)], aq_h m s F c) _
      have kk : (0 ≤ c (a + 1) i ∧ c (a + 1) i < (K : Int)) ∧ (0 ≤ c (a + 2) i ∧ c (a + 2) i ≤ 20) ∧ sm_ok (c (a + 3) i) ∧ c (a + 3) i ≠ 0 := hWa.2.2.1 i (by omega) (show i < c a 1 by omega)
      obtain ⟨⟨kb0, kb1⟩, ⟨kp0, kp1⟩, kf, kn⟩ := kk
      have e_r := (hex.1 (c (a + 1) i) kb0 kb1).1
      have e_b := (tb_A_a (n := (n : Int)) (x := c (a + 1) i) (by omega) (by omega) kb0 (by omega)).2.2.2
      refine am_E.go (t2 := (66, [vR 0, vI sa, vI p, vR a, vR (o + 2 + K), vL x, vU, vI i], [vR (o + 2 + K), vI (c (a + 2) i)], aq_h m s F c)) rfl rfl ?_
      refine am_E.go (t2 := (67, [vR 0, vI sa, vI p, vR a, vR (o + 2 + K), vL x, vU, vI i], [vR a, vR (o + 2 + K), vI (c (a + 2) i)], aq_h m s F c)) rfl rfl ?_
      refine aq_gf (v := vR (a + 1)) rfl (by omega) hFaa (by decide) rfl ?_
      show am_E _ (70, [vR 0, vI sa, vI p, vR a, vR (o + 2 + K), vL x, vU, vI i], [vR (a + 1), vR (o + 2 + K), vI (c (a + 2) i)], aq_h m s F c) _
      refine am_E.go (t2 := (72, [vR 0, vI sa, vI p, vR a, vR (o + 2 + K), vL x, vU, vI i], [vI i, vR (a + 1), vR (o + 2 + K), vI (c (a + 2) i)], aq_h m s F c)) rfl rfl ?_
      refine aq_al (ok := fun k => k == 0) (v := vI (c (a + 1) i)) rfl rfl (by omega) hFna rfl (by omega) (by omega) rfl ?_
      show am_E _ (73, [vR 0, vI sa, vI p, vR a, vR (o + 2 + K), vL x, vU, vI i], [vI (c (a + 1) i), vR (o + 2 + K), vI (c (a + 2) i)], aq_h m s F c) _
      refine aq_alt (ok := fun k => k == 0) rfl rfl (by omega) hR rfl (by omega) (by omega) ?_
      show am_E _ (74, [vR 0, vI sa, vI p, vR a, vR (o + 2 + K), vL x, vU, vI i], [vI (tR (c (a + 1) i)), vI (c (a + 2) i)], aq_h m s F c) _
      refine ae_add rfl (am_ri (by omega) (by omega)) ?_
      show am_E _ (75, [vR 0, vI sa, vI p, vR a, vR (o + 2 + K), vL x, vU, vI i], [vI ((c (a + 2) i) + (tR (c (a + 1) i)))], aq_h m s F c) _
      refine am_E.go (t2 := (76, [vR 0, vI sa, vI p, vR a, vR (o + 2 + K), vL x, vU, vI i], [vI p, vI ((c (a + 2) i) + (tR (c (a + 1) i)))], aq_h m s F c)) rfl rfl ?_
      refine ae_icmp rfl (fun (q_4 : ((c (a + 2) i) + (tR (c (a + 1) i))) ≠ p) => ?_) (fun (q_4 : ((c (a + 2) i) + (tR (c (a + 1) i))) = p) => ?_)
      · refine ae_iinc rfl rfl (am_ri (by omega) (by omega)) ?_
        show am_E _ (94, [vR 0, vI sa, vI p, vR a, vR (o + 2 + K), vL x, vU, vI (i + 1)], [], aq_h m s F c) _
        refine am_E.go (t2 := (48, [vR 0, vI sa, vI p, vR a, vR (o + 2 + K), vL x, vU, vI (i + 1)], [], aq_h m s F c)) rfl rfl ?_
        exact qx_X4_closed_l hI hex hn1 hn4 hKn ⟨hmaa, hFaa, hFna, hFpa, hFfa⟩ hWa hmo hR d x (i + 1) (by omega) (by omega) (by rw [← hT2, cx_s, if_pos (show i < c a 1 by omega), if_neg (show ¬ c (a + 2) i + rg_ (n : Int) (c (a + 1) i) = p by omega)]) (by omega)
      · refine am_E.go (t2 := (81, [vR 0, vI sa, vI p, vR a, vR (o + 2 + K), vL x, vU, vI i], [vL x], aq_h m s F c)) rfl rfl ?_
        refine am_E.go (t2 := (82, [vR 0, vI sa, vI p, vR a, vR (o + 2 + K), vL x, vU, vI i], [vR a, vL x], aq_h m s F c)) rfl rfl ?_
        refine aq_gf (v := vR (a + 3)) rfl (by omega) hFaa (by decide) rfl ?_
        show am_E _ (85, [vR 0, vI sa, vI p, vR a, vR (o + 2 + K), vL x, vU, vI i], [vR (a + 3), vL x], aq_h m s F c) _
        refine am_E.go (t2 := (87, [vR 0, vI sa, vI p, vR a, vR (o + 2 + K), vL x, vU, vI i], [vI i, vR (a + 3), vL x], aq_h m s F c)) rfl rfl ?_
        refine aq_al (ok := fun k => k == 2) (v := vL (c (a + 3) i)) rfl rfl (by omega) hFfa rfl (by omega) (by omega) rfl ?_
        show am_E _ (88, [vR 0, vI sa, vI p, vR a, vR (o + 2 + K), vL x, vU, vI i], [vL (c (a + 3) i), vL x], aq_h m s F c) _
        refine am_E.go (t2 := (89, [vR 0, vI sa, vI p, vR a, vR (o + 2 + K), vL x, vU, vI i], [vL (am_wl (x + (c (a + 3) i)))], aq_h m s F c)) rfl rfl ?_
        refine am_E.go (t2 := (91, [vR 0, vI sa, vI p, vR a, vR (o + 2 + K), vL (am_wl (x + (c (a + 3) i))), vU, vI i], [], aq_h m s F c)) rfl rfl ?_
        refine ae_iinc rfl rfl (am_ri (by omega) (by omega)) ?_
        show am_E _ (94, [vR 0, vI sa, vI p, vR a, vR (o + 2 + K), vL (am_wl (x + (c (a + 3) i))), vU, vI (i + 1)], [], aq_h m s F c) _
        refine am_E.go (t2 := (48, [vR 0, vI sa, vI p, vR a, vR (o + 2 + K), vL (am_wl (x + (c (a + 3) i))), vU, vI (i + 1)], [], aq_h m s F c)) rfl rfl ?_
        exact qx_X4_closed_l hI hex hn1 hn4 hKn ⟨hmaa, hFaa, hFna, hFpa, hFfa⟩ hWa hmo hR d (am_wl (x + (c (a + 3) i))) (i + 1) (by omega) (by omega) (by rw [← hT2, cx_s, if_pos (show i < c a 1 by omega), if_pos (show c (a + 2) i + rg_ (n : Int) (c (a + 1) i) = p by omega)]) (by omega)

theorem qx_X4_closed {m s : Nat} {F : aq_F} {c : aq_C} (hC : sb_C m F) (hI : cl_I c) {sa p : Int} {aa : Nat} (haa : aa = 495 + 4 * sa.toNat) (hWs : ∀ x : Int, 0 ≤ x → x < 8 → sm_w (bx_K (c (495 + 4 * x.toNat) 0)) (su_v (495 + 4 * x.toNat) c)) : am_E ac_X4_closed (0, [vR 0, vI sa, vI p, vU, vU, vU, vU, vU], [], aq_h m s F c) (aq_Z m s F (fun a => a < 527) c (fun r d => r = some (vL (cw_a (c aa 0) (su_v aa c) sa p)) ∧ cl_I d ∧ ∀ x i, d x i = c x i)) := by
  obtain ⟨hCm, hC0, hC1, hC2, hC3, ⟨hma4, hFa4, hFn4, hFp4, hFf4⟩, ⟨hmx, hFx, hFl, hFw⟩, hCs, hCb, hCh⟩ := id hC
  refine am_E.go (t2 := (1, [vR 0, vI sa, vI p, vU, vU, vU, vU, vU], [vI sa], aq_h m s F c)) rfl rfl ?_
  refine am_E.call rfl rfl rfl (Nat.le_of_ble_eq_true rfl) (qn_X4_isSum) ?_
  rintro r5 h5 ⟨rfl, v_1, rfl, hv_1⟩
  show am_E _ (4, [vR 0, vI sa, vI p, vU, vU, vU, vU, vU], [vI v_1], aq_h m s F c) _
  refine ae_if0 rfl (fun (q_2 : v_1 = 0) => ?_) (fun (q_2 : v_1 ≠ 0) => ?_)
  · refine am_E.go (t2 := (18, [vR 0, vI sa, vI p, vU, vU, vU, vU, vU], [vL 0], aq_h m s F c)) rfl rfl ?_
    refine am_E.ret rfl rfl ?_
    refine ⟨_, rfl, aq_sm0, ?_, hI, fun _ _ => rfl⟩
    unfold cw_a
    rw [if_neg (by omega)]
  · refine am_E.go (t2 := (8, [vR 0, vI sa, vI p, vU, vU, vU, vU, vU], [vI p], aq_h m s F c)) rfl rfl ?_
    refine ae_if0 rfl (fun (q_3 : p < 0) => ?_) (fun (q_3 : 0 ≤ p) => ?_)
    · refine am_E.go (t2 := (18, [vR 0, vI sa, vI p, vU, vU, vU, vU, vU], [vL 0], aq_h m s F c)) rfl rfl ?_
      refine am_E.ret rfl rfl ?_
      refine ⟨_, rfl, aq_sm0, ?_, hI, fun _ _ => rfl⟩
      unfold cw_a
      rw [if_neg (by omega)]
    · refine am_E.go (t2 := (12, [vR 0, vI sa, vI p, vU, vU, vU, vU, vU], [vI p], aq_h m s F c)) rfl rfl ?_
      refine am_E.go (t2 := (14, [vR 0, vI sa, vI p, vU, vU, vU, vU, vU], [vI 24, vI p], aq_h m s F c)) rfl rfl ?_
      refine ae_icmp rfl (fun (q_4 : p ≤ 24) => ?_) (fun (q_4 : 24 < p) => ?_)
      · refine am_E.go (t2 := (20, [vR 0, vI sa, vI p, vU, vU, vU, vU, vU], [vR 0], aq_h m s F c)) rfl rfl ?_
        refine aq_gf (v := vR 3) rfl (by omega) hC0 (by decide) rfl ?_
        show am_E _ (23, [vR 0, vI sa, vI p, vU, vU, vU, vU, vU], [vR 3], aq_h m s F c) _
        refine am_E.go (t2 := (24, [vR 0, vI sa, vI p, vU, vU, vU, vU, vU], [vI sa, vR 3], aq_h m s F c)) rfl rfl ?_
        obtain ⟨a, e_a⟩ : ∃ x, x = 495 + 4 * (sa).toNat := ⟨_, rfl⟩
        obtain ⟨hmaa, hFaa, hFna, hFpa, hFfa⟩ : su_0 m F a := by rw [e_a]; exact hCs _ (by omega)
        obtain ⟨hu0a, hu4a, hka⟩ : sb_u a c := by rw [e_a]; exact hI.2.2 _ (by omega)
        have hk1a := hka.1
        have hk2a := hka.2.1
        have hWa : sm_w (bx_K (c a 0)) (su_v a c) := by rw [e_a]; exact hWs sa (by omega) (by omega)
        refine aq_al (ok := fun k => decide (3 ≤ k) && decide (k < 7)) (v := vR a) rfl rfl (by omega) hC3 rfl (by omega) (by omega) (aq_gi2 (by omega) e_a.symm) ?_
        show am_E _ (25, [vR 0, vI sa, vI p, vU, vU, vU, vU, vU], [vR a], aq_h m s F c) _
        refine am_E.go (t2 := (26, [vR 0, vI sa, vI p, vR a, vU, vU, vU, vU], [], aq_h m s F c)) rfl rfl ?_
        refine am_E.go (t2 := (27, [vR 0, vI sa, vI p, vR a, vU, vU, vU, vU], [vR 0], aq_h m s F c)) rfl rfl ?_
        refine aq_gf (v := vR 1) rfl (by omega) hC0 (by decide) rfl ?_
        show am_E _ (30, [vR 0, vI sa, vI p, vR a, vU, vU, vU, vU], [vR 1], aq_h m s F c) _
        refine am_E.go (t2 := (31, [vR 0, vI sa, vI p, vR a, vU, vU, vU, vU], [vR a, vR 1], aq_h m s F c)) rfl rfl ?_
        refine aq_gf (v := vI (c a 0)) rfl (by omega) hFaa (by decide) rfl ?_
        show am_E _ (34, [vR 0, vI sa, vI p, vR a, vU, vU, vU, vU], [vI (c a 0), vR 1], aq_h m s F c) _
        refine am_E.go (t2 := (35, [vR 0, vI sa, vI p, vR a, vU, vU, vU, vU], [vI 1, vI (c a 0), vR 1], aq_h m s F c)) rfl rfl ?_
        refine ae_sub rfl (am_ri (by omega) (by omega)) ?_
        show am_E _ (36, [vR 0, vI sa, vI p, vR a, vU, vU, vU, vU], [vI ((c a 0) - 1), vR 1], aq_h m s F c) _
        obtain ⟨o, n, K, e_o, e_n, e_K, e_j, e_k, tP, tG, tN, tR, tL, ⟨hm, hn1, hn4, hK, hFo, hFd, hFs⟩, ⟨hPg, hPr, hPt⟩, ⟨hL, hGg, hGr, hNg, hNr, hLt, hGt, hNt⟩, ⟨hR, hRt⟩, hst, hex⟩ := sb_box hC (i := ((c a 0) - 1)) (by omega) (by omega)
        have hb := sb_bnd (((c a 0) - 1)).toNat (by omega)
        rw [e_o, e_k] at hb
        have hbK : (K : Int) = bx_K (c a 0) := by rw [e_K]; congr 1; omega
        refine aq_al (ok := fun k => decide (3 ≤ k) && decide (k < 7)) (v := vR o) rfl rfl (by omega) hC1 rfl (by omega) (by omega) (aq_gi2 (by omega) e_o) ?_
        show am_E _ (37, [vR 0, vI sa, vI p, vR a, vU, vU, vU, vU], [vR o], aq_h m s F c) _
        refine aq_gf (v := vR (o + 2 + K)) rfl (by omega) hFo (by decide) rfl ?_
        show am_E _ (40, [vR 0, vI sa, vI p, vR a, vU, vU, vU, vU], [vR (o + 2 + K)], aq_h m s F c) _
        refine am_E.go (t2 := (42, [vR 0, vI sa, vI p, vR a, vR (o + 2 + K), vU, vU, vU], [], aq_h m s F c)) rfl rfl ?_
        refine am_E.go (t2 := (43, [vR 0, vI sa, vI p, vR a, vR (o + 2 + K), vU, vU, vU], [vL 0], aq_h m s F c)) rfl rfl ?_
        refine am_E.go (t2 := (45, [vR 0, vI sa, vI p, vR a, vR (o + 2 + K), vL 0, vU, vU], [], aq_h m s F c)) rfl rfl ?_
        refine am_E.go (t2 := (46, [vR 0, vI sa, vI p, vR a, vR (o + 2 + K), vL 0, vU, vU], [vI 0], aq_h m s F c)) rfl rfl ?_
        refine am_E.go (t2 := (48, [vR 0, vI sa, vI p, vR a, vR (o + 2 + K), vL 0, vU, vI 0], [], aq_h m s F c)) rfl rfl ?_
        have e9 : aa = a := by rw [haa, e_a]
        rw [e9]
        have e7 : cw_a (c a 0) (su_v a c) sa p = cx_ (n : Int) (su_v a c) p 41 0 0 := by unfold cw_a; rw [if_pos (by omega), show (n : Int) = c a 0 by omega]
        rw [e7]
        exact qx_X4_closed_l hI hex hn1 hn4 (by rw [e_K]; congr 1; omega) ⟨hmaa, hFaa, hFna, hFpa, hFfa⟩ (by rw [hbK]; exact hWa) (by omega) hR 41 0 0 (by omega) (by omega) rfl (by omega)
      · refine am_E.go (t2 := (18, [vR 0, vI sa, vI p, vU, vU, vU, vU, vU], [vL 0], aq_h m s F c)) rfl rfl ?_
        refine am_E.ret rfl rfl ?_
        refine ⟨_, rfl, aq_sm0, ?_, hI, fun _ _ => rfl⟩
        unfold cw_a
        rw [if_neg (by omega)]
theorem qf_X4_many {m s : Nat} {F : aq_F} {c : aq_C} (hC : sb_C m F) (hI : cl_I c) {nn p : Int} : am_E ac_X4_many (0, [vR 0, vI nn, vI p], [], aq_h m s F c) (aq_Z m s F (fun a => a < 495) c (fun r d => aq_vi r ∧ cl_I d)) := by
  obtain ⟨hCm, hC0, hC1, hC2, hC3, ⟨hma4, hFa4, hFn4, hFp4, hFf4⟩, ⟨hmx, hFx, hFl, hFw⟩, hCs, hCb, hCh⟩ := id hC
  refine am_E.go (t2 := (1, [vR 0, vI nn, vI p], [vI nn], aq_h m s F c)) rfl rfl ?_
  refine am_E.call rfl rfl rfl (Nat.le_of_ble_eq_true rfl) (qn_X4_isStrands) ?_
  rintro r5 h5 ⟨rfl, v_1, rfl, hv_1⟩
  show am_E _ (4, [vR 0, vI nn, vI p], [vI v_1], aq_h m s F c) _
  refine ae_if0 rfl (fun (q_2 : v_1 = 0) => ?_) (fun (q_2 : v_1 ≠ 0) => ?_)
  · refine am_E.go (t2 := (17, [vR 0, vI nn, vI p], [vI (-1)], aq_h m s F c)) rfl rfl ?_
    refine am_E.ret rfl rfl ?_
    exact ⟨_, rfl, (aq_sm0 (S := fun a => a < 495)), ⟨_, rfl⟩, hI⟩
  · refine am_E.go (t2 := (8, [vR 0, vI nn, vI p], [vI p], aq_h m s F c)) rfl rfl ?_
    refine ae_if0 rfl (fun (q_3 : p < 0) => ?_) (fun (q_3 : 0 ≤ p) => ?_)
    · refine am_E.go (t2 := (17, [vR 0, vI nn, vI p], [vI (-1)], aq_h m s F c)) rfl rfl ?_
      refine am_E.ret rfl rfl ?_
      exact ⟨_, rfl, (aq_sm0 (S := fun a => a < 495)), ⟨_, rfl⟩, hI⟩
    · refine am_E.go (t2 := (12, [vR 0, vI nn, vI p], [vI p], aq_h m s F c)) rfl rfl ?_
      refine am_E.go (t2 := (13, [vR 0, vI nn, vI p], [vI 1, vI p], aq_h m s F c)) rfl rfl ?_
      refine ae_icmp rfl (fun (q_4 : p ≤ 1) => ?_) (fun (q_4 : 1 < p) => ?_)
      · refine am_E.go (t2 := (19, [vR 0, vI nn, vI p], [vI p], aq_h m s F c)) rfl rfl ?_
        refine ae_if0 rfl (fun (q_5 : p ≠ 0) => ?_) (fun (q_5 : p = 0) => ?_)
        · refine am_E.go (t2 := (37, [vR 0, vI nn, vI p], [vR 0], aq_h m s F c)) rfl rfl ?_
          refine aq_gf (v := vR 1) rfl (by omega) hC0 (by decide) rfl ?_
          show am_E _ (40, [vR 0, vI nn, vI p], [vR 1], aq_h m s F c) _
          refine am_E.go (t2 := (41, [vR 0, vI nn, vI p], [vI nn, vR 1], aq_h m s F c)) rfl rfl ?_
          refine am_E.go (t2 := (42, [vR 0, vI nn, vI p], [vI 1, vI nn, vR 1], aq_h m s F c)) rfl rfl ?_
          refine ae_sub rfl (am_ri (by omega) (by omega)) ?_
          show am_E _ (43, [vR 0, vI nn, vI p], [vI (nn - 1), vR 1], aq_h m s F c) _
          obtain ⟨o, n, K, e_o, e_n, e_K, e_j, e_k, tP, tG, tN, tR, tL, ⟨hm, hn1, hn4, hK, hFo, hFd, hFs⟩, ⟨hPg, hPr, hPt⟩, ⟨hL, hGg, hGr, hNg, hNr, hLt, hGt, hNt⟩, ⟨hR, hRt⟩, hst, hex⟩ := sb_box hC (i := (nn - 1)) (by omega) (by omega)
          have hb := sb_bnd ((nn - 1)).toNat (by omega)
          rw [e_o, e_k] at hb
          refine aq_al (ok := fun k => decide (3 ≤ k) && decide (k < 7)) (v := vR o) rfl rfl (by omega) hC1 rfl (by omega) (by omega) (aq_gi2 (by omega) e_o) ?_
          show am_E _ (44, [vR 0, vI nn, vI p], [vR o], aq_h m s F c) _
          refine aq_callv (y := 1) (as2 := []) (rest := []) rfl rfl (by decide) (Nat.le_of_ble_eq_true rfl) rfl rfl (Nat.le_of_ble_eq_true rfl) (by omega) hFo rfl (Nat.le_of_ble_eq_true rfl) (qn_X0_countPlane ⟨hm, hn1, hn4, hK, hFo, hFd, hFs⟩ ⟨hPg, hPr, hPt⟩) ?_
          rintro r5 h5 ⟨rfl, v_6, rfl⟩
          show am_E _ (47, [vR 0, vI nn, vI p], [vI v_6], aq_h m s F c) _
          refine am_E.ret rfl rfl ?_
          exact ⟨_, rfl, (aq_sm0 (S := fun a => a < 495)), ⟨_, rfl⟩, hI⟩
        · refine am_E.go (t2 := (23, [vR 0, vI nn, vI p], [vR 0], aq_h m s F c)) rfl rfl ?_
          refine aq_gf (v := vR 1) rfl (by omega) hC0 (by decide) rfl ?_
          show am_E _ (26, [vR 0, vI nn, vI p], [vR 1], aq_h m s F c) _
          refine am_E.go (t2 := (27, [vR 0, vI nn, vI p], [vI nn, vR 1], aq_h m s F c)) rfl rfl ?_
          refine am_E.go (t2 := (28, [vR 0, vI nn, vI p], [vI 1, vI nn, vR 1], aq_h m s F c)) rfl rfl ?_
          refine ae_sub rfl (am_ri (by omega) (by omega)) ?_
          show am_E _ (29, [vR 0, vI nn, vI p], [vI (nn - 1), vR 1], aq_h m s F c) _
          obtain ⟨o, n, K, e_o, e_n, e_K, e_j, e_k, tP, tG, tN, tR, tL, ⟨hm, hn1, hn4, hK, hFo, hFd, hFs⟩, ⟨hPg, hPr, hPt⟩, ⟨hL, hGg, hGr, hNg, hNr, hLt, hGt, hNt⟩, ⟨hR, hRt⟩, hst, hex⟩ := sb_box hC (i := (nn - 1)) (by omega) (by omega)
          have hb := sb_bnd ((nn - 1)).toNat (by omega)
          rw [e_o, e_k] at hb
          refine aq_al (ok := fun k => decide (3 ≤ k) && decide (k < 7)) (v := vR o) rfl rfl (by omega) hC1 rfl (by omega) (by omega) (aq_gi2 (by omega) e_o) ?_
          show am_E _ (30, [vR 0, vI nn, vI p], [vR o], aq_h m s F c) _
          refine aq_gf (v := vI (K : Int)) rfl (by omega) hFo (by decide) rfl ?_
          show am_E _ (33, [vR 0, vI nn, vI p], [vI (K : Int)], aq_h m s F c) _
          refine am_E.go (t2 := (47, [vR 0, vI nn, vI p], [vI (K : Int)], aq_h m s F c)) rfl rfl ?_
          refine am_E.ret rfl rfl ?_
          exact ⟨_, rfl, (aq_sm0 (S := fun a => a < 495)), ⟨_, rfl⟩, hI⟩
      · refine am_E.go (t2 := (17, [vR 0, vI nn, vI p], [vI (-1)], aq_h m s F c)) rfl rfl ?_
        refine am_E.ret rfl rfl ?_
        exact ⟨_, rfl, (aq_sm0 (S := fun a => a < 495)), ⟨_, rfl⟩, hI⟩

theorem qf_X4_partner {m s : Nat} {F : aq_F} {c : aq_C} (hC : sb_C m F) (hI : cl_I c) {nn b p : Int} : am_E ac_X4_partner (0, [vR 0, vI nn, vI b, vI p], [], aq_h m s F c) (aq_Z m s F (fun a => a < 495) c (fun r d => aq_vi r ∧ cl_I d)) := by
  obtain ⟨hCm, hC0, hC1, hC2, hC3, ⟨hma4, hFa4, hFn4, hFp4, hFf4⟩, ⟨hmx, hFx, hFl, hFw⟩, hCs, hCb, hCh⟩ := id hC
  refine am_E.go (t2 := (1, [vR 0, vI nn, vI b, vI p], [vR 0], aq_h m s F c)) rfl rfl ?_
  refine am_E.go (t2 := (2, [vR 0, vI nn, vI b, vI p], [vI nn, vR 0], aq_h m s F c)) rfl rfl ?_
  refine am_E.go (t2 := (3, [vR 0, vI nn, vI b, vI p], [vI b, vI nn, vR 0], aq_h m s F c)) rfl rfl ?_
  refine aq_callv (y := 3) (as2 := [vI nn, vI b]) (rest := []) rfl rfl (by decide) (Nat.le_of_ble_eq_true rfl) rfl rfl (Nat.le_of_ble_eq_true rfl) (by omega) hC0 rfl (Nat.le_of_ble_eq_true rfl) (qn_X4_isBox hC) ?_
  rintro r5 h5 ⟨rfl, v_1, rfl, hv_1⟩
  show am_E _ (6, [vR 0, vI nn, vI b, vI p], [vI v_1], aq_h m s F c) _
  refine ae_if0 rfl (fun (q_2 : v_1 = 0) => ?_) (fun (q_2 : v_1 ≠ 0) => ?_)
  · refine am_E.go (t2 := (21, [vR 0, vI nn, vI b, vI p], [vI (-1)], aq_h m s F c)) rfl rfl ?_
    refine am_E.ret rfl rfl ?_
    exact ⟨_, rfl, (aq_sm0 (S := fun a => a < 495)), ⟨_, rfl⟩, hI⟩
  · refine am_E.go (t2 := (10, [vR 0, vI nn, vI b, vI p], [vI p], aq_h m s F c)) rfl rfl ?_
    refine ae_if0 rfl (fun (q_3 : p < 0) => ?_) (fun (q_3 : 0 ≤ p) => ?_)
    · refine am_E.go (t2 := (21, [vR 0, vI nn, vI b, vI p], [vI (-1)], aq_h m s F c)) rfl rfl ?_
      refine am_E.ret rfl rfl ?_
      exact ⟨_, rfl, (aq_sm0 (S := fun a => a < 495)), ⟨_, rfl⟩, hI⟩
    · refine am_E.go (t2 := (14, [vR 0, vI nn, vI b, vI p], [vI p], aq_h m s F c)) rfl rfl ?_
      refine am_E.go (t2 := (15, [vR 0, vI nn, vI b, vI p], [vI 2, vI p], aq_h m s F c)) rfl rfl ?_
      refine am_E.go (t2 := (16, [vR 0, vI nn, vI b, vI p], [vI nn, vI 2, vI p], aq_h m s F c)) rfl rfl ?_
      refine ae_mul rfl (am_ri (by omega) (by omega)) ?_
      show am_E _ (17, [vR 0, vI nn, vI b, vI p], [vI (2 * nn), vI p], aq_h m s F c) _
      refine ae_icmp rfl (fun (q_4 : p < (2 * nn)) => ?_) (fun (q_4 : (2 * nn) ≤ p) => ?_)
      · refine am_E.go (t2 := (23, [vR 0, vI nn, vI b, vI p], [vR 0], aq_h m s F c)) rfl rfl ?_
        refine aq_gf (v := vR 1) rfl (by omega) hC0 (by decide) rfl ?_
        show am_E _ (26, [vR 0, vI nn, vI b, vI p], [vR 1], aq_h m s F c) _
        refine am_E.go (t2 := (27, [vR 0, vI nn, vI b, vI p], [vI nn, vR 1], aq_h m s F c)) rfl rfl ?_
        refine am_E.go (t2 := (28, [vR 0, vI nn, vI b, vI p], [vI 1, vI nn, vR 1], aq_h m s F c)) rfl rfl ?_
        refine ae_sub rfl (am_ri (by omega) (by omega)) ?_
        show am_E _ (29, [vR 0, vI nn, vI b, vI p], [vI (nn - 1), vR 1], aq_h m s F c) _
        obtain ⟨o, n, K, e_o, e_n, e_K, e_j, e_k, tP, tG, tN, tR, tL, ⟨hm, hn1, hn4, hK, hFo, hFd, hFs⟩, ⟨hPg, hPr, hPt⟩, ⟨hL, hGg, hGr, hNg, hNr, hLt, hGt, hNt⟩, ⟨hR, hRt⟩, hst, hex⟩ := sb_box hC (i := (nn - 1)) (by omega) (by omega)
        have hb := sb_bnd ((nn - 1)).toNat (by omega)
        rw [e_o, e_k] at hb
        have hbK : (K : Int) = bx_K nn := by rw [e_K]; congr 1; omega
        refine aq_al (ok := fun k => decide (3 ≤ k) && decide (k < 7)) (v := vR o) rfl rfl (by omega) hC1 rfl (by omega) (by omega) (aq_gi2 (by omega) e_o) ?_
        show am_E _ (30, [vR 0, vI nn, vI b, vI p], [vR o], aq_h m s F c) _
        refine aq_gf (v := vR (o + 1)) rfl (by omega) hFo (by decide) rfl ?_
        show am_E _ (33, [vR 0, vI nn, vI b, vI p], [vR (o + 1)], aq_h m s F c) _
        refine am_E.go (t2 := (34, [vR 0, vI nn, vI b, vI p], [vI b, vR (o + 1)], aq_h m s F c)) rfl rfl ?_
        refine aq_al (ok := fun k => decide (3 ≤ k) && decide (k < 7)) (v := vR (o + 2 + b.toNat)) rfl rfl (by omega) hPg rfl (by omega) (by omega) (aq_gi (by omega)) ?_
        show am_E _ (35, [vR 0, vI nn, vI b, vI p], [vR (o + 2 + b.toNat)], aq_h m s F c) _
        refine am_E.go (t2 := (36, [vR 0, vI nn, vI b, vI p], [vI p, vR (o + 2 + b.toNat)], aq_h m s F c)) rfl rfl ?_
        refine aq_alt (ok := fun k => k == 0) rfl rfl (by omega) (hPr _ (by omega)) rfl (by omega) (by omega) ?_
        show am_E _ (37, [vR 0, vI nn, vI b, vI p], [vI (tP ((b.toNat : Nat) : Int) p)], aq_h m s F c) _
        have f_5 := hPt ((b.toNat : Nat) : Int) p (by omega) (by omega) (by omega) (by omega)
        refine am_E.ret rfl rfl ?_
        exact ⟨_, rfl, (aq_sm0 (S := fun a => a < 495)), ⟨_, rfl⟩, hI⟩
      · refine am_E.go (t2 := (21, [vR 0, vI nn, vI b, vI p], [vI (-1)], aq_h m s F c)) rfl rfl ?_
        refine am_E.ret rfl rfl ?_
        exact ⟨_, rfl, (aq_sm0 (S := fun a => a < 495)), ⟨_, rfl⟩, hI⟩

theorem qf_X4_about {m s : Nat} {F : aq_F} {c : aq_C} (hC : sb_C m F) (hI : cl_I c) {nn b w : Int} : am_E ac_X4_about (0, [vR 0, vI nn, vI b, vI w, vU], [], aq_h m s F c) (aq_Z m s F (fun a => a < 495) c (fun r d => aq_vi r ∧ cl_I d)) := by
  obtain ⟨hCm, hC0, hC1, hC2, hC3, ⟨hma4, hFa4, hFn4, hFp4, hFf4⟩, ⟨hmx, hFx, hFl, hFw⟩, hCs, hCb, hCh⟩ := id hC
  refine am_E.go (t2 := (1, [vR 0, vI nn, vI b, vI w, vU], [vR 0], aq_h m s F c)) rfl rfl ?_
  refine am_E.go (t2 := (2, [vR 0, vI nn, vI b, vI w, vU], [vI nn, vR 0], aq_h m s F c)) rfl rfl ?_
  refine am_E.go (t2 := (3, [vR 0, vI nn, vI b, vI w, vU], [vI b, vI nn, vR 0], aq_h m s F c)) rfl rfl ?_
  refine aq_callv (y := 3) (as2 := [vI nn, vI b]) (rest := []) rfl rfl (by decide) (Nat.le_of_ble_eq_true rfl) rfl rfl (Nat.le_of_ble_eq_true rfl) (by omega) hC0 rfl (Nat.le_of_ble_eq_true rfl) (qn_X4_isBox hC) ?_
  rintro r5 h5 ⟨rfl, v_1, rfl, hv_1⟩
  show am_E _ (6, [vR 0, vI nn, vI b, vI w, vU], [vI v_1], aq_h m s F c) _
  refine ae_if0 rfl (fun (q_2 : v_1 ≠ 0) => ?_) (fun (q_2 : v_1 = 0) => ?_)
  · refine am_E.go (t2 := (12, [vR 0, vI nn, vI b, vI w, vU], [vR 0], aq_h m s F c)) rfl rfl ?_
    refine aq_gf (v := vR 1) rfl (by omega) hC0 (by decide) rfl ?_
    show am_E _ (15, [vR 0, vI nn, vI b, vI w, vU], [vR 1], aq_h m s F c) _
    refine am_E.go (t2 := (16, [vR 0, vI nn, vI b, vI w, vU], [vI nn, vR 1], aq_h m s F c)) rfl rfl ?_
    refine am_E.go (t2 := (17, [vR 0, vI nn, vI b, vI w, vU], [vI 1, vI nn, vR 1], aq_h m s F c)) rfl rfl ?_
    refine ae_sub rfl (am_ri (by omega) (by omega)) ?_
    show am_E _ (18, [vR 0, vI nn, vI b, vI w, vU], [vI (nn - 1), vR 1], aq_h m s F c) _
    obtain ⟨o, n, K, e_o, e_n, e_K, e_j, e_k, tP, tG, tN, tR, tL, ⟨hm, hn1, hn4, hK, hFo, hFd, hFs⟩, ⟨hPg, hPr, hPt⟩, ⟨hL, hGg, hGr, hNg, hNr, hLt, hGt, hNt⟩, ⟨hR, hRt⟩, hst, hex⟩ := sb_box hC (i := (nn - 1)) (by omega) (by omega)
    have hb := sb_bnd ((nn - 1)).toNat (by omega)
    rw [e_o, e_k] at hb
    have hbK : (K : Int) = bx_K nn := by rw [e_K]; congr 1; omega
    refine aq_al (ok := fun k => decide (3 ≤ k) && decide (k < 7)) (v := vR o) rfl rfl (by omega) hC1 rfl (by omega) (by omega) (aq_gi2 (by omega) e_o) ?_
    show am_E _ (19, [vR 0, vI nn, vI b, vI w, vU], [vR o], aq_h m s F c) _
    refine am_E.go (t2 := (21, [vR 0, vI nn, vI b, vI w, vR o], [], aq_h m s F c)) rfl rfl ?_
    refine am_E.go (t2 := (22, [vR 0, vI nn, vI b, vI w, vR o], [vI w], aq_h m s F c)) rfl rfl ?_
    have hsw : w = 0 ∨ w = 1 ∨ w = 2 ∨ w = 3 ∨ w = 4 ∨ (w < 0 ∨ 4 < w) := by omega
    rcases hsw with h | h | h | h | h | h
    · subst h
      refine am_E.go (t2 := (56, [vR 0, vI nn, vI b, vI 0, vR o], [], aq_h m s F c)) rfl rfl ?_
      refine am_E.go (t2 := (58, [vR 0, vI nn, vI b, vI 0, vR o], [vR o], aq_h m s F c)) rfl rfl ?_
      refine am_E.go (t2 := (59, [vR 0, vI nn, vI b, vI 0, vR o], [vI b, vR o], aq_h m s F c)) rfl rfl ?_
      refine aq_callv (y := 2) (as2 := [vI b]) (rest := []) rfl rfl (by decide) (Nat.le_of_ble_eq_true rfl) rfl rfl (Nat.le_of_ble_eq_true rfl) (by omega) hFo rfl (Nat.le_of_ble_eq_true rfl) (qn_X0_isPlane ⟨hm, hn1, hn4, hK, hFo, hFd, hFs⟩ ⟨hPg, hPr, hPt⟩ (by omega) (by omega)) ?_
      rintro r5 h5 ⟨rfl, v_3, rfl, hv_3⟩
      show am_E _ (62, [vR 0, vI nn, vI b, vI 0, vR o], [vI v_3], aq_h m s F c) _
      refine ae_if0 rfl (fun (q_4 : v_3 = 0) => ?_) (fun (q_4 : v_3 ≠ 0) => ?_)
      · refine am_E.go (t2 := (70, [vR 0, vI nn, vI b, vI 0, vR o], [vI 0], aq_h m s F c)) rfl rfl ?_
        refine am_E.ret rfl rfl ?_
        exact ⟨_, rfl, (aq_sm0 (S := fun a => a < 495)), ⟨_, rfl⟩, hI⟩
      · refine am_E.go (t2 := (66, [vR 0, vI nn, vI b, vI 0, vR o], [vI 1], aq_h m s F c)) rfl rfl ?_
        refine am_E.go (t2 := (70, [vR 0, vI nn, vI b, vI 0, vR o], [vI 1], aq_h m s F c)) rfl rfl ?_
        refine am_E.ret rfl rfl ?_
        exact ⟨_, rfl, (aq_sm0 (S := fun a => a < 495)), ⟨_, rfl⟩, hI⟩
    · subst h
      refine am_E.go (t2 := (71, [vR 0, vI nn, vI b, vI 1, vR o], [], aq_h m s F c)) rfl rfl ?_
      refine am_E.go (t2 := (73, [vR 0, vI nn, vI b, vI 1, vR o], [vR o], aq_h m s F c)) rfl rfl ?_
      refine am_E.go (t2 := (74, [vR 0, vI nn, vI b, vI 1, vR o], [vI b, vR o], aq_h m s F c)) rfl rfl ?_
      refine aq_callv (y := 2) (as2 := [vI b]) (rest := []) rfl rfl (by decide) (Nat.le_of_ble_eq_true rfl) rfl rfl (Nat.le_of_ble_eq_true rfl) (by omega) hFo rfl (Nat.le_of_ble_eq_true rfl) (qn_X0_countThrough ⟨hm, hn1, hn4, hK, hFo, hFd, hFs⟩ ⟨hPg, hPr, hPt⟩ (by omega) (by omega)) ?_
      rintro r5 h5 ⟨rfl, v_5, rfl⟩
      show am_E _ (77, [vR 0, vI nn, vI b, vI 1, vR o], [vI v_5], aq_h m s F c) _
      refine am_E.ret rfl rfl ?_
      exact ⟨_, rfl, (aq_sm0 (S := fun a => a < 495)), ⟨_, rfl⟩, hI⟩
    · subst h
      refine am_E.go (t2 := (78, [vR 0, vI nn, vI b, vI 2, vR o], [], aq_h m s F c)) rfl rfl ?_
      refine am_E.go (t2 := (80, [vR 0, vI nn, vI b, vI 2, vR o], [vR o], aq_h m s F c)) rfl rfl ?_
      refine am_E.go (t2 := (81, [vR 0, vI nn, vI b, vI 2, vR o], [vI b, vR o], aq_h m s F c)) rfl rfl ?_
      refine aq_callv (y := 2) (as2 := [vI b]) (rest := []) rfl rfl (by decide) (Nat.le_of_ble_eq_true rfl) rfl rfl (Nat.le_of_ble_eq_true rfl) (by omega) hFo rfl (Nat.le_of_ble_eq_true rfl) (qn_X0_upsideDown (S := fun a => a = o + 6 + 3 * K ∨ a = o + 7 + 3 * K) ⟨hm, hn1, hn4, hK, hFo, hFd, hFs⟩ (Or.inl rfl) (Or.inr rfl) ⟨hPg, hPr, hPt⟩ (by omega) (by omega) (by have h9 := hI.1 ((nn - 1)).toNat (by omega); rw [e_o, e_k, ← e_j] at h9; exact h9)) ?_
      rintro r5 h5 ⟨c_b, rfl, s_b, ⟨v_b, rfl⟩, hr_b⟩
      show am_E _ (84, [vR 0, vI nn, vI b, vI 2, vR o], [vI v_b], aq_h m s F c_b) _
      refine am_E.ret rfl rfl ?_
      exact ⟨_, rfl, (aq_smt (aq_sm0 (S := fun a => a < 495)) (aq_smi s_b (fun a h => by omega))), ⟨_, rfl⟩, cl_b hI (j := ((nn - 1)).toNat) (by omega) (by rw [e_o, e_k]; exact s_b) (by rw [e_o, e_k, ← e_j]; exact hr_b)⟩
    · subst h
      refine am_E.go (t2 := (85, [vR 0, vI nn, vI b, vI 3, vR o], [], aq_h m s F c)) rfl rfl ?_
      refine am_E.go (t2 := (87, [vR 0, vI nn, vI b, vI 3, vR o], [vR o], aq_h m s F c)) rfl rfl ?_
      refine aq_gf (v := vR (o + 2 + K)) rfl (by omega) hFo (by decide) rfl ?_
      show am_E _ (90, [vR 0, vI nn, vI b, vI 3, vR o], [vR (o + 2 + K)], aq_h m s F c) _
      refine am_E.go (t2 := (91, [vR 0, vI nn, vI b, vI 3, vR o], [vI b, vR (o + 2 + K)], aq_h m s F c)) rfl rfl ?_
      refine aq_alt (ok := fun k => k == 0) rfl rfl (by omega) hR rfl (by omega) (by omega) ?_
      show am_E _ (92, [vR 0, vI nn, vI b, vI 3, vR o], [vI (tR b)], aq_h m s F c) _
      refine am_E.ret rfl rfl ?_
      exact ⟨_, rfl, (aq_sm0 (S := fun a => a < 495)), ⟨_, rfl⟩, hI⟩
    · subst h
      refine am_E.go (t2 := (93, [vR 0, vI nn, vI b, vI 4, vR o], [], aq_h m s F c)) rfl rfl ?_
      refine am_E.go (t2 := (95, [vR 0, vI nn, vI b, vI 4, vR o], [vR o], aq_h m s F c)) rfl rfl ?_
      refine aq_gf (v := vR (o + 3 + K)) rfl (by omega) hFo (by decide) rfl ?_
      show am_E _ (98, [vR 0, vI nn, vI b, vI 4, vR o], [vR (o + 3 + K)], aq_h m s F c) _
      refine am_E.go (t2 := (99, [vR 0, vI nn, vI b, vI 4, vR o], [vI b, vR (o + 3 + K)], aq_h m s F c)) rfl rfl ?_
      refine aq_alt (ok := fun k => k == 0) rfl rfl (by omega) hL rfl (by omega) (by omega) ?_
      show am_E _ (100, [vR 0, vI nn, vI b, vI 4, vR o], [vI (tL b)], aq_h m s F c) _
      refine am_E.ret rfl rfl ?_
      exact ⟨_, rfl, (aq_sm0 (S := fun a => a < 495)), ⟨_, rfl⟩, hI⟩
    · refine ae_swd rfl h ?_
      show am_E _ (101, [vR 0, vI nn, vI b, vI w, vR o], [], aq_h m s F c) _
      refine am_E.go (t2 := (102, [vR 0, vI nn, vI b, vI w, vR o], [vI (-1)], aq_h m s F c)) rfl rfl ?_
      refine am_E.ret rfl rfl ?_
      exact ⟨_, rfl, (aq_sm0 (S := fun a => a < 495)), ⟨_, rfl⟩, hI⟩
  · refine am_E.go (t2 := (10, [vR 0, vI nn, vI b, vI w, vU], [vI (-1)], aq_h m s F c)) rfl rfl ?_
    refine am_E.ret rfl rfl ?_
    exact ⟨_, rfl, (aq_sm0 (S := fun a => a < 495)), ⟨_, rfl⟩, hI⟩

theorem qf_X4_stack {m s : Nat} {F : aq_F} {c : aq_C} (hC : sb_C m F) (hI : cl_I c) {nn x y : Int} : am_E ac_X4_stack (0, [vR 0, vI nn, vI x, vI y], [], aq_h m s F c) (aq_Z m s F (fun a => a < 495) c (fun r d => aq_vi r ∧ cl_I d)) := by
  obtain ⟨hCm, hC0, hC1, hC2, hC3, ⟨hma4, hFa4, hFn4, hFp4, hFf4⟩, ⟨hmx, hFx, hFl, hFw⟩, hCs, hCb, hCh⟩ := id hC
  refine am_E.go (t2 := (1, [vR 0, vI nn, vI x, vI y], [vR 0], aq_h m s F c)) rfl rfl ?_
  refine am_E.go (t2 := (2, [vR 0, vI nn, vI x, vI y], [vI nn, vR 0], aq_h m s F c)) rfl rfl ?_
  refine am_E.go (t2 := (3, [vR 0, vI nn, vI x, vI y], [vI x, vI nn, vR 0], aq_h m s F c)) rfl rfl ?_
  refine aq_callv (y := 3) (as2 := [vI nn, vI x]) (rest := []) rfl rfl (by decide) (Nat.le_of_ble_eq_true rfl) rfl rfl (Nat.le_of_ble_eq_true rfl) (by omega) hC0 rfl (Nat.le_of_ble_eq_true rfl) (qn_X4_isBox hC) ?_
  rintro r5 h5 ⟨rfl, v_1, rfl, hv_1⟩
  show am_E _ (6, [vR 0, vI nn, vI x, vI y], [vI v_1], aq_h m s F c) _
  refine ae_if0 rfl (fun (q_2 : v_1 = 0) => ?_) (fun (q_2 : v_1 ≠ 0) => ?_)
  · refine am_E.go (t2 := (19, [vR 0, vI nn, vI x, vI y], [vI (-1)], aq_h m s F c)) rfl rfl ?_
    refine am_E.ret rfl rfl ?_
    exact ⟨_, rfl, (aq_sm0 (S := fun a => a < 495)), ⟨_, rfl⟩, hI⟩
  · refine am_E.go (t2 := (10, [vR 0, vI nn, vI x, vI y], [vR 0], aq_h m s F c)) rfl rfl ?_
    refine am_E.go (t2 := (11, [vR 0, vI nn, vI x, vI y], [vI nn, vR 0], aq_h m s F c)) rfl rfl ?_
    refine am_E.go (t2 := (12, [vR 0, vI nn, vI x, vI y], [vI y, vI nn, vR 0], aq_h m s F c)) rfl rfl ?_
    refine aq_callv (y := 3) (as2 := [vI nn, vI y]) (rest := []) rfl rfl (by decide) (Nat.le_of_ble_eq_true rfl) rfl rfl (Nat.le_of_ble_eq_true rfl) (by omega) hC0 rfl (Nat.le_of_ble_eq_true rfl) (qn_X4_isBox hC) ?_
    rintro r5 h5 ⟨rfl, v_3, rfl, hv_3⟩
    show am_E _ (15, [vR 0, vI nn, vI x, vI y], [vI v_3], aq_h m s F c) _
    refine ae_if0 rfl (fun (q_4 : v_3 ≠ 0) => ?_) (fun (q_4 : v_3 = 0) => ?_)
    · refine am_E.go (t2 := (21, [vR 0, vI nn, vI x, vI y], [vR 0], aq_h m s F c)) rfl rfl ?_
      refine aq_gf (v := vR 1) rfl (by omega) hC0 (by decide) rfl ?_
      show am_E _ (24, [vR 0, vI nn, vI x, vI y], [vR 1], aq_h m s F c) _
      refine am_E.go (t2 := (25, [vR 0, vI nn, vI x, vI y], [vI nn, vR 1], aq_h m s F c)) rfl rfl ?_
      refine am_E.go (t2 := (26, [vR 0, vI nn, vI x, vI y], [vI 1, vI nn, vR 1], aq_h m s F c)) rfl rfl ?_
      refine ae_sub rfl (am_ri (by omega) (by omega)) ?_
      show am_E _ (27, [vR 0, vI nn, vI x, vI y], [vI (nn - 1), vR 1], aq_h m s F c) _
      obtain ⟨o, n, K, e_o, e_n, e_K, e_j, e_k, tP, tG, tN, tR, tL, ⟨hm, hn1, hn4, hK, hFo, hFd, hFs⟩, ⟨hPg, hPr, hPt⟩, ⟨hL, hGg, hGr, hNg, hNr, hLt, hGt, hNt⟩, ⟨hR, hRt⟩, hst, hex⟩ := sb_box hC (i := (nn - 1)) (by omega) (by omega)
      have hb := sb_bnd ((nn - 1)).toNat (by omega)
      rw [e_o, e_k] at hb
      have hbK : (K : Int) = bx_K nn := by rw [e_K]; congr 1; omega
      refine aq_al (ok := fun k => decide (3 ≤ k) && decide (k < 7)) (v := vR o) rfl rfl (by omega) hC1 rfl (by omega) (by omega) (aq_gi2 (by omega) e_o) ?_
      show am_E _ (28, [vR 0, vI nn, vI x, vI y], [vR o], aq_h m s F c) _
      refine am_E.go (t2 := (29, [vR 0, vI nn, vI x, vI y], [vI x, vR o], aq_h m s F c)) rfl rfl ?_
      refine am_E.go (t2 := (30, [vR 0, vI nn, vI x, vI y], [vI y, vI x, vR o], aq_h m s F c)) rfl rfl ?_
      refine aq_callv (y := 3) (as2 := [vI x, vI y]) (rest := []) rfl rfl (by decide) (Nat.le_of_ble_eq_true rfl) rfl rfl (Nat.le_of_ble_eq_true rfl) (by omega) hFo rfl (Nat.le_of_ble_eq_true rfl) (qn_X0_stackOn ⟨hm, hn1, hn4, hK, hFo, hFd, hFs⟩ ⟨hL, hGg, hGr, hNg, hNr, hLt, hGt, hNt⟩ (by omega) (by omega) (by omega) (by omega)) ?_
      rintro r5 h5 ⟨rfl, v_5, rfl, hv_5⟩
      show am_E _ (33, [vR 0, vI nn, vI x, vI y], [vI v_5], aq_h m s F c) _
      refine am_E.ret rfl rfl ?_
      exact ⟨_, rfl, (aq_sm0 (S := fun a => a < 495)), ⟨_, rfl⟩, hI⟩
    · refine am_E.go (t2 := (19, [vR 0, vI nn, vI x, vI y], [vI (-1)], aq_h m s F c)) rfl rfl ?_
      refine am_E.ret rfl rfl ?_
      exact ⟨_, rfl, (aq_sm0 (S := fun a => a < 495)), ⟨_, rfl⟩, hI⟩

theorem qf_X4_box {m s : Nat} {F : aq_F} {c : aq_C} (hC : sb_C m F) (hI : cl_I c) {nn w : Int} : am_E ac_X4_box (0, [vR 0, vI nn, vL w, vU], [], aq_h m s F c) (aq_Z m s F (fun a => a < 495) c (fun r d => aq_vi r ∧ cl_I d)) := by
  obtain ⟨hCm, hC0, hC1, hC2, hC3, ⟨hma4, hFa4, hFn4, hFp4, hFf4⟩, ⟨hmx, hFx, hFl, hFw⟩, hCs, hCb, hCh⟩ := id hC
  refine am_E.go (t2 := (1, [vR 0, vI nn, vL w, vU], [vI nn], aq_h m s F c)) rfl rfl ?_
  refine am_E.call rfl rfl rfl (Nat.le_of_ble_eq_true rfl) (qn_X4_isStrands) ?_
  rintro r5 h5 ⟨rfl, v_1, rfl, hv_1⟩
  show am_E _ (4, [vR 0, vI nn, vL w, vU], [vI v_1], aq_h m s F c) _
  refine ae_if0 rfl (fun (q_2 : v_1 ≠ 0) => ?_) (fun (q_2 : v_1 = 0) => ?_)
  · refine am_E.go (t2 := (10, [vR 0, vI nn, vL w, vU], [vR 0], aq_h m s F c)) rfl rfl ?_
    refine aq_gf (v := vR 1) rfl (by omega) hC0 (by decide) rfl ?_
    show am_E _ (13, [vR 0, vI nn, vL w, vU], [vR 1], aq_h m s F c) _
    refine am_E.go (t2 := (14, [vR 0, vI nn, vL w, vU], [vI nn, vR 1], aq_h m s F c)) rfl rfl ?_
    refine am_E.go (t2 := (15, [vR 0, vI nn, vL w, vU], [vI 1, vI nn, vR 1], aq_h m s F c)) rfl rfl ?_
    refine ae_sub rfl (am_ri (by omega) (by omega)) ?_
    show am_E _ (16, [vR 0, vI nn, vL w, vU], [vI (nn - 1), vR 1], aq_h m s F c) _
    obtain ⟨o, n, K, e_o, e_n, e_K, e_j, e_k, tP, tG, tN, tR, tL, ⟨hm, hn1, hn4, hK, hFo, hFd, hFs⟩, ⟨hPg, hPr, hPt⟩, ⟨hL, hGg, hGr, hNg, hNr, hLt, hGt, hNt⟩, ⟨hR, hRt⟩, hst, hex⟩ := sb_box hC (i := (nn - 1)) (by omega) (by omega)
    have hb := sb_bnd ((nn - 1)).toNat (by omega)
    rw [e_o, e_k] at hb
    have hbK : (K : Int) = bx_K nn := by rw [e_K]; congr 1; omega
    refine aq_al (ok := fun k => decide (3 ≤ k) && decide (k < 7)) (v := vR o) rfl rfl (by omega) hC1 rfl (by omega) (by omega) (aq_gi2 (by omega) e_o) ?_
    show am_E _ (17, [vR 0, vI nn, vL w, vU], [vR o], aq_h m s F c) _
    refine am_E.go (t2 := (18, [vR 0, vI nn, vL w, vU], [vL w, vR o], aq_h m s F c)) rfl rfl ?_
    refine aq_callv (y := 2) (as2 := [vL w]) (rest := []) rfl rfl (by decide) (Nat.le_of_ble_eq_true rfl) rfl rfl (Nat.le_of_ble_eq_true rfl) (by omega) hFo rfl (Nat.le_of_ble_eq_true rfl) (qn_X0_ofPairs (S := fun a => a = o + 6 + 3 * K ∨ a = o + 7 + 3 * K) ⟨hm, hn1, hn4, hK, hFo, hFd, hFs⟩ (Or.inl rfl) (Or.inr rfl)  (by have h9 := hI.1 ((nn - 1)).toNat (by omega); rw [e_o, e_k, ← e_j] at h9; exact h9)) ?_
    rintro r5 h5 ⟨c_b, rfl, s_b, ⟨v_b, rfl⟩, hr_b⟩
    show am_E _ (21, [vR 0, vI nn, vL w, vU], [vI v_b], aq_h m s F c_b) _
    refine am_E.ret rfl rfl ?_
    exact ⟨_, rfl, (aq_smt (aq_sm0 (S := fun a => a < 495)) (aq_smi s_b (fun a h => by omega))), ⟨_, rfl⟩, cl_b hI (j := ((nn - 1)).toNat) (by omega) (by rw [e_o, e_k]; exact s_b) (by rw [e_o, e_k, ← e_j]; exact hr_b)⟩
  · refine am_E.go (t2 := (8, [vR 0, vI nn, vL w, vU], [vI (-1)], aq_h m s F c)) rfl rfl ?_
    refine am_E.ret rfl rfl ?_
    exact ⟨_, rfl, (aq_sm0 (S := fun a => a < 495)), ⟨_, rfl⟩, hI⟩

theorem qf_X4_plain {m s : Nat} {F : aq_F} {c : aq_C} (hC : sb_C m F) (hI : cl_I c) {nn l : Int} : am_E ac_X4_plain (0, [vR 0, vI nn, vI l], [], aq_h m s F c) (aq_Z m s F (fun a => a < 495) c (fun r d => aq_vi r ∧ cl_I d)) := by
  obtain ⟨hCm, hC0, hC1, hC2, hC3, ⟨hma4, hFa4, hFn4, hFp4, hFf4⟩, ⟨hmx, hFx, hFl, hFw⟩, hCs, hCb, hCh⟩ := id hC
  refine am_E.go (t2 := (1, [vR 0, vI nn, vI l], [vI nn], aq_h m s F c)) rfl rfl ?_
  refine am_E.call rfl rfl rfl (Nat.le_of_ble_eq_true rfl) (qn_X4_isStrands) ?_
  rintro r5 h5 ⟨rfl, v_1, rfl, hv_1⟩
  show am_E _ (4, [vR 0, vI nn, vI l], [vI v_1], aq_h m s F c) _
  refine ae_if0 rfl (fun (q_2 : v_1 ≠ 0) => ?_) (fun (q_2 : v_1 = 0) => ?_)
  · refine am_E.go (t2 := (10, [vR 0, vI nn, vI l], [vR 0], aq_h m s F c)) rfl rfl ?_
    refine aq_gf (v := vR 1) rfl (by omega) hC0 (by decide) rfl ?_
    show am_E _ (13, [vR 0, vI nn, vI l], [vR 1], aq_h m s F c) _
    refine am_E.go (t2 := (14, [vR 0, vI nn, vI l], [vI nn, vR 1], aq_h m s F c)) rfl rfl ?_
    refine am_E.go (t2 := (15, [vR 0, vI nn, vI l], [vI 1, vI nn, vR 1], aq_h m s F c)) rfl rfl ?_
    refine ae_sub rfl (am_ri (by omega) (by omega)) ?_
    show am_E _ (16, [vR 0, vI nn, vI l], [vI (nn - 1), vR 1], aq_h m s F c) _
    obtain ⟨o, n, K, e_o, e_n, e_K, e_j, e_k, tP, tG, tN, tR, tL, ⟨hm, hn1, hn4, hK, hFo, hFd, hFs⟩, ⟨hPg, hPr, hPt⟩, ⟨hL, hGg, hGr, hNg, hNr, hLt, hGt, hNt⟩, ⟨hR, hRt⟩, hst, hex⟩ := sb_box hC (i := (nn - 1)) (by omega) (by omega)
    have hb := sb_bnd ((nn - 1)).toNat (by omega)
    rw [e_o, e_k] at hb
    have hbK : (K : Int) = bx_K nn := by rw [e_K]; congr 1; omega
    refine aq_al (ok := fun k => decide (3 ≤ k) && decide (k < 7)) (v := vR o) rfl rfl (by omega) hC1 rfl (by omega) (by omega) (aq_gi2 (by omega) e_o) ?_
    show am_E _ (17, [vR 0, vI nn, vI l], [vR o], aq_h m s F c) _
    refine am_E.go (t2 := (18, [vR 0, vI nn, vI l], [vI l, vR o], aq_h m s F c)) rfl rfl ?_
    refine aq_callv (y := 2) (as2 := [vI l]) (rest := []) rfl rfl (by decide) (Nat.le_of_ble_eq_true rfl) rfl rfl (Nat.le_of_ble_eq_true rfl) (by omega) hFo rfl (Nat.le_of_ble_eq_true rfl) (qn_X0_ofLetter (S := fun a => a = o + 6 + 3 * K ∨ a = o + 7 + 3 * K) ⟨hm, hn1, hn4, hK, hFo, hFd, hFs⟩ (Or.inl rfl) (Or.inr rfl) (by have h9 := hI.1 ((nn - 1)).toNat (by omega); rw [e_o, e_k, ← e_j] at h9; exact h9)) ?_
    rintro r5 h5 ⟨c_b, rfl, s_b, hr_b, hq_b⟩
    obtain ⟨v_b, rfl⟩ : aq_vi r5 := by rcases hq_b with ⟨_, h⟩ | ⟨_, _, h⟩ <;> exact ⟨_, h⟩
    show am_E _ (21, [vR 0, vI nn, vI l], [vI v_b], aq_h m s F c_b) _
    refine am_E.ret rfl rfl ?_
    exact ⟨_, rfl, (aq_smt (aq_sm0 (S := fun a => a < 495)) (aq_smi s_b (fun a h => by omega))), ⟨_, rfl⟩, cl_b hI (j := ((nn - 1)).toNat) (by omega) (by rw [e_o, e_k]; exact s_b) (by rw [e_o, e_k, ← e_j]; exact hr_b)⟩
  · refine am_E.go (t2 := (8, [vR 0, vI nn, vI l], [vI (-1)], aq_h m s F c)) rfl rfl ?_
    refine am_E.ret rfl rfl ?_
    exact ⟨_, rfl, (aq_sm0 (S := fun a => a < 495)), ⟨_, rfl⟩, hI⟩

theorem qf_X4_word {m s : Nat} {F : aq_F} {c : aq_C} (hC : sb_C m F) (hI : cl_I c) {nn b i : Int} : am_E ac_X4_word (0, [vR 0, vI nn, vI b, vI i], [], aq_h m s F c) (aq_Z m s F (fun a => a < 495) c (fun r d => aq_vi r ∧ cl_I d)) := by
  obtain ⟨hCm, hC0, hC1, hC2, hC3, ⟨hma4, hFa4, hFn4, hFp4, hFf4⟩, ⟨hmx, hFx, hFl, hFw⟩, hCs, hCb, hCh⟩ := id hC
  refine am_E.go (t2 := (1, [vR 0, vI nn, vI b, vI i], [vR 0], aq_h m s F c)) rfl rfl ?_
  refine am_E.go (t2 := (2, [vR 0, vI nn, vI b, vI i], [vI nn, vR 0], aq_h m s F c)) rfl rfl ?_
  refine am_E.go (t2 := (3, [vR 0, vI nn, vI b, vI i], [vI b, vI nn, vR 0], aq_h m s F c)) rfl rfl ?_
  refine aq_callv (y := 3) (as2 := [vI nn, vI b]) (rest := []) rfl rfl (by decide) (Nat.le_of_ble_eq_true rfl) rfl rfl (Nat.le_of_ble_eq_true rfl) (by omega) hC0 rfl (Nat.le_of_ble_eq_true rfl) (qn_X4_isBox hC) ?_
  rintro r5 h5 ⟨rfl, v_1, rfl, hv_1⟩
  show am_E _ (6, [vR 0, vI nn, vI b, vI i], [vI v_1], aq_h m s F c) _
  refine ae_if0 rfl (fun (q_2 : v_1 = 0) => ?_) (fun (q_2 : v_1 ≠ 0) => ?_)
  · refine am_E.go (t2 := (14, [vR 0, vI nn, vI b, vI i], [vI (-1)], aq_h m s F c)) rfl rfl ?_
    refine am_E.ret rfl rfl ?_
    exact ⟨_, rfl, (aq_sm0 (S := fun a => a < 495)), ⟨_, rfl⟩, hI⟩
  · refine am_E.go (t2 := (10, [vR 0, vI nn, vI b, vI i], [vI i], aq_h m s F c)) rfl rfl ?_
    refine ae_if0 rfl (fun (q_3 : 0 ≤ i) => ?_) (fun (q_3 : i < 0) => ?_)
    · refine am_E.go (t2 := (16, [vR 0, vI nn, vI b, vI i], [vR 0], aq_h m s F c)) rfl rfl ?_
      refine aq_gf (v := vR 1) rfl (by omega) hC0 (by decide) rfl ?_
      show am_E _ (19, [vR 0, vI nn, vI b, vI i], [vR 1], aq_h m s F c) _
      refine am_E.go (t2 := (20, [vR 0, vI nn, vI b, vI i], [vI nn, vR 1], aq_h m s F c)) rfl rfl ?_
      refine am_E.go (t2 := (21, [vR 0, vI nn, vI b, vI i], [vI 1, vI nn, vR 1], aq_h m s F c)) rfl rfl ?_
      refine ae_sub rfl (am_ri (by omega) (by omega)) ?_
      show am_E _ (22, [vR 0, vI nn, vI b, vI i], [vI (nn - 1), vR 1], aq_h m s F c) _
      obtain ⟨o, n, K, e_o, e_n, e_K, e_j, e_k, tP, tG, tN, tR, tL, ⟨hm, hn1, hn4, hK, hFo, hFd, hFs⟩, ⟨hPg, hPr, hPt⟩, ⟨hL, hGg, hGr, hNg, hNr, hLt, hGt, hNt⟩, ⟨hR, hRt⟩, hst, hex⟩ := sb_box hC (i := (nn - 1)) (by omega) (by omega)
      have hb := sb_bnd ((nn - 1)).toNat (by omega)
      rw [e_o, e_k] at hb
      have hbK : (K : Int) = bx_K nn := by rw [e_K]; congr 1; omega
      refine aq_al (ok := fun k => decide (3 ≤ k) && decide (k < 7)) (v := vR o) rfl rfl (by omega) hC1 rfl (by omega) (by omega) (aq_gi2 (by omega) e_o) ?_
      show am_E _ (23, [vR 0, vI nn, vI b, vI i], [vR o], aq_h m s F c) _
      refine am_E.go (t2 := (24, [vR 0, vI nn, vI b, vI i], [vI b, vR o], aq_h m s F c)) rfl rfl ?_
      refine am_E.go (t2 := (25, [vR 0, vI nn, vI b, vI i], [vI i, vI b, vR o], aq_h m s F c)) rfl rfl ?_
      refine aq_callv (y := 3) (as2 := [vI b, vI i]) (rest := []) rfl rfl (by decide) (Nat.le_of_ble_eq_true rfl) rfl rfl (Nat.le_of_ble_eq_true rfl) (by omega) hFo rfl (Nat.le_of_ble_eq_true rfl) (qn_X0_letterOf ⟨hm, hn1, hn4, hK, hFo, hFd, hFs⟩ ⟨hL, hGg, hGr, hNg, hNr, hLt, hGt, hNt⟩ (by omega) (by omega) (by omega)) ?_
      rintro r5 h5 ⟨rfl, v_4, rfl⟩
      show am_E _ (28, [vR 0, vI nn, vI b, vI i], [vI v_4], aq_h m s F c) _
      refine am_E.ret rfl rfl ?_
      exact ⟨_, rfl, (aq_sm0 (S := fun a => a < 495)), ⟨_, rfl⟩, hI⟩
    · refine am_E.go (t2 := (14, [vR 0, vI nn, vI b, vI i], [vI (-1)], aq_h m s F c)) rfl rfl ?_
      refine am_E.ret rfl rfl ?_
      exact ⟨_, rfl, (aq_sm0 (S := fun a => a < 495)), ⟨_, rfl⟩, hI⟩

theorem qf_X4_halves {m s : Nat} {F : aq_F} {c : aq_C} (hC : sb_C m F) (hI : cl_I c) {nn t : Int} : am_E ac_X4_halves (0, [vR 0, vI nn, vI t], [], aq_h m s F c) (aq_Z m s F (fun a => a < 495) c (fun r d => aq_vi r ∧ cl_I d)) := by
  obtain ⟨hCm, hC0, hC1, hC2, hC3, ⟨hma4, hFa4, hFn4, hFp4, hFf4⟩, ⟨hmx, hFx, hFl, hFw⟩, hCs, hCb, hCh⟩ := id hC
  refine am_E.go (t2 := (1, [vR 0, vI nn, vI t], [vI nn], aq_h m s F c)) rfl rfl ?_
  refine am_E.go (t2 := (2, [vR 0, vI nn, vI t], [vI t, vI nn], aq_h m s F c)) rfl rfl ?_
  refine am_E.call rfl rfl rfl (Nat.le_of_ble_eq_true rfl) (qn_X4_isThrough) ?_
  rintro r5 h5 ⟨rfl, v_1, rfl, hv_1⟩
  show am_E _ (5, [vR 0, vI nn, vI t], [vI v_1], aq_h m s F c) _
  refine ae_if0 rfl (fun (q_2 : v_1 ≠ 0) => ?_) (fun (q_2 : v_1 = 0) => ?_)
  · refine am_E.go (t2 := (11, [vR 0, vI nn, vI t], [vR 0], aq_h m s F c)) rfl rfl ?_
    refine aq_gf (v := vR 2) rfl (by omega) hC0 (by decide) rfl ?_
    show am_E _ (14, [vR 0, vI nn, vI t], [vR 2], aq_h m s F c) _
    refine am_E.go (t2 := (15, [vR 0, vI nn, vI t], [vI nn, vR 2], aq_h m s F c)) rfl rfl ?_
    refine am_E.go (t2 := (16, [vR 0, vI nn, vI t], [vI 1, vI nn, vR 2], aq_h m s F c)) rfl rfl ?_
    refine ae_sub rfl (am_ri (by omega) (by omega)) ?_
    show am_E _ (17, [vR 0, vI nn, vI t], [vI (nn - 1), vR 2], aq_h m s F c) _
    obtain ⟨o, n, e_o, e_n, z, tl, th, ⟨hm, hn1, hn4, hz6, hFo, hFl, hFg, hFt, hFp, hFq, hFd, hFs, hht⟩, hve⟩ := sb_half hC (i := (nn - 1)) (by omega) (by omega)
    have hb := sb_hnd 0 (by omega) ((nn - 1)).toNat (by omega)
    rw [e_o] at hb
    refine aq_al (ok := fun k => decide (3 ≤ k) && decide (k < 7)) (v := vR o) rfl rfl (by omega) hC2 rfl (by omega) (by omega) (aq_gi2 (by omega) e_o) ?_
    show am_E _ (18, [vR 0, vI nn, vI t], [vR o], aq_h m s F c) _
    refine am_E.go (t2 := (19, [vR 0, vI nn, vI t], [vI t, vR o], aq_h m s F c)) rfl rfl ?_
    refine aq_callv (y := 2) (as2 := [vI t]) (rest := []) rfl rfl (by decide) (Nat.le_of_ble_eq_true rfl) rfl rfl (Nat.le_of_ble_eq_true rfl) (by omega) hFo rfl (Nat.le_of_ble_eq_true rfl) (qn_X2_countLeaving ⟨hm, hn1, hn4, hz6, hFo, hFl, hFg, hFt, hFp, hFq, hFd, hFs, hht⟩) ?_
    rintro r5 h5 ⟨rfl, v_3, rfl⟩
    show am_E _ (22, [vR 0, vI nn, vI t], [vI v_3], aq_h m s F c) _
    refine am_E.ret rfl rfl ?_
    exact ⟨_, rfl, (aq_sm0 (S := fun a => a < 495)), ⟨_, rfl⟩, hI⟩
  · refine am_E.go (t2 := (9, [vR 0, vI nn, vI t], [vI (-1)], aq_h m s F c)) rfl rfl ?_
    refine am_E.ret rfl rfl ?_
    exact ⟨_, rfl, (aq_sm0 (S := fun a => a < 495)), ⟨_, rfl⟩, hI⟩

theorem qf_X4_half {m s : Nat} {F : aq_F} {c : aq_C} (hC : sb_C m F) (hI : cl_I c) {nn t i p : Int} : am_E ac_X4_half (0, [vR 0, vI nn, vI t, vI i, vI p, vU], [], aq_h m s F c) (aq_Z m s F (fun a => a < 495) c (fun r d => aq_vi r ∧ cl_I d)) := by
  obtain ⟨hCm, hC0, hC1, hC2, hC3, ⟨hma4, hFa4, hFn4, hFp4, hFf4⟩, ⟨hmx, hFx, hFl, hFw⟩, hCs, hCb, hCh⟩ := id hC
  refine am_E.go (t2 := (1, [vR 0, vI nn, vI t, vI i, vI p, vU], [vI nn], aq_h m s F c)) rfl rfl ?_
  refine am_E.go (t2 := (2, [vR 0, vI nn, vI t, vI i, vI p, vU], [vI t, vI nn], aq_h m s F c)) rfl rfl ?_
  refine am_E.call rfl rfl rfl (Nat.le_of_ble_eq_true rfl) (qn_X4_isThrough) ?_
  rintro r5 h5 ⟨rfl, v_1, rfl, hv_1⟩
  show am_E _ (5, [vR 0, vI nn, vI t, vI i, vI p, vU], [vI v_1], aq_h m s F c) _
  refine ae_if0 rfl (fun (q_2 : v_1 = 0) => ?_) (fun (q_2 : v_1 ≠ 0) => ?_)
  · refine am_E.go (t2 := (20, [vR 0, vI nn, vI t, vI i, vI p, vU], [vI (-1)], aq_h m s F c)) rfl rfl ?_
    refine am_E.ret rfl rfl ?_
    exact ⟨_, rfl, (aq_sm0 (S := fun a => a < 495)), ⟨_, rfl⟩, hI⟩
  · refine am_E.go (t2 := (10, [vR 0, vI nn, vI t, vI i, vI p, vU], [vI p], aq_h m s F c)) rfl rfl ?_
    refine ae_if0 rfl (fun (q_3 : p < 0) => ?_) (fun (q_3 : 0 ≤ p) => ?_)
    · refine am_E.go (t2 := (20, [vR 0, vI nn, vI t, vI i, vI p, vU], [vI (-1)], aq_h m s F c)) rfl rfl ?_
      refine am_E.ret rfl rfl ?_
      exact ⟨_, rfl, (aq_sm0 (S := fun a => a < 495)), ⟨_, rfl⟩, hI⟩
    · refine am_E.go (t2 := (15, [vR 0, vI nn, vI t, vI i, vI p, vU], [vI p], aq_h m s F c)) rfl rfl ?_
      refine am_E.go (t2 := (16, [vR 0, vI nn, vI t, vI i, vI p, vU], [vI nn, vI p], aq_h m s F c)) rfl rfl ?_
      refine ae_icmp rfl (fun (q_4 : p < nn) => ?_) (fun (q_4 : nn ≤ p) => ?_)
      · refine am_E.go (t2 := (22, [vR 0, vI nn, vI t, vI i, vI p, vU], [vR 0], aq_h m s F c)) rfl rfl ?_
        refine aq_gf (v := vR 2) rfl (by omega) hC0 (by decide) rfl ?_
        show am_E _ (25, [vR 0, vI nn, vI t, vI i, vI p, vU], [vR 2], aq_h m s F c) _
        refine am_E.go (t2 := (26, [vR 0, vI nn, vI t, vI i, vI p, vU], [vI nn, vR 2], aq_h m s F c)) rfl rfl ?_
        refine am_E.go (t2 := (27, [vR 0, vI nn, vI t, vI i, vI p, vU], [vI 1, vI nn, vR 2], aq_h m s F c)) rfl rfl ?_
        refine ae_sub rfl (am_ri (by omega) (by omega)) ?_
        show am_E _ (28, [vR 0, vI nn, vI t, vI i, vI p, vU], [vI (nn - 1), vR 2], aq_h m s F c) _
        obtain ⟨o, n, e_o, e_n, z, tl, th, ⟨hm, hn1, hn4, hz6, hFo, hFl, hFg, hFt, hFp, hFq, hFd, hFs, hht⟩, hve⟩ := sb_half hC (i := (nn - 1)) (by omega) (by omega)
        have hb := sb_hnd 0 (by omega) ((nn - 1)).toNat (by omega)
        rw [e_o] at hb
        refine aq_al (ok := fun k => decide (3 ≤ k) && decide (k < 7)) (v := vR o) rfl rfl (by omega) hC2 rfl (by omega) (by omega) (aq_gi2 (by omega) e_o) ?_
        show am_E _ (29, [vR 0, vI nn, vI t, vI i, vI p, vU], [vR o], aq_h m s F c) _
        refine am_E.go (t2 := (30, [vR 0, vI nn, vI t, vI i, vI p, vU], [vI t, vR o], aq_h m s F c)) rfl rfl ?_
        refine am_E.go (t2 := (31, [vR 0, vI nn, vI t, vI i, vI p, vU], [vI i, vI t, vR o], aq_h m s F c)) rfl rfl ?_
        refine aq_callv (y := 3) (as2 := [vI t, vI i]) (rest := []) rfl rfl (by decide) (Nat.le_of_ble_eq_true rfl) rfl rfl (Nat.le_of_ble_eq_true rfl) (by omega) hFo rfl (Nat.le_of_ble_eq_true rfl) (qn_X2_find ⟨hm, hn1, hn4, hz6, hFo, hFl, hFg, hFt, hFp, hFq, hFd, hFs, hht⟩) ?_
        rintro r5 h5 ⟨rfl, v_5, rfl, hv_5⟩
        show am_E _ (34, [vR 0, vI nn, vI t, vI i, vI p, vU], [vI v_5], aq_h m s F c) _
        refine am_E.go (t2 := (36, [vR 0, vI nn, vI t, vI i, vI p, vI v_5], [], aq_h m s F c)) rfl rfl ?_
        refine am_E.go (t2 := (38, [vR 0, vI nn, vI t, vI i, vI p, vI v_5], [vI v_5], aq_h m s F c)) rfl rfl ?_
        refine ae_if0 rfl (fun (q_6 : 0 ≤ v_5) => ?_) (fun (q_6 : v_5 < 0) => ?_)
        · refine am_E.go (t2 := (47, [vR 0, vI nn, vI t, vI i, vI p, vI v_5], [vR 0], aq_h m s F c)) rfl rfl ?_
          refine aq_gf (v := vR 2) rfl (by omega) hC0 (by decide) rfl ?_
          show am_E _ (50, [vR 0, vI nn, vI t, vI i, vI p, vI v_5], [vR 2], aq_h m s F c) _
          refine am_E.go (t2 := (51, [vR 0, vI nn, vI t, vI i, vI p, vI v_5], [vI nn, vR 2], aq_h m s F c)) rfl rfl ?_
          refine am_E.go (t2 := (52, [vR 0, vI nn, vI t, vI i, vI p, vI v_5], [vI 1, vI nn, vR 2], aq_h m s F c)) rfl rfl ?_
          refine ae_sub rfl (am_ri (by omega) (by omega)) ?_
          show am_E _ (53, [vR 0, vI nn, vI t, vI i, vI p, vI v_5], [vI (nn - 1), vR 2], aq_h m s F c) _
          refine aq_al (ok := fun k => decide (3 ≤ k) && decide (k < 7)) (v := vR o) rfl rfl (by omega) hC2 rfl (by omega) (by omega) (aq_gi2 (by omega) e_o) ?_
          show am_E _ (54, [vR 0, vI nn, vI t, vI i, vI p, vI v_5], [vR o], aq_h m s F c) _
          refine aq_gf (v := vR (o + 9)) rfl (by omega) hFo (by decide) rfl ?_
          show am_E _ (57, [vR 0, vI nn, vI t, vI i, vI p, vI v_5], [vR (o + 9)], aq_h m s F c) _
          refine am_E.go (t2 := (59, [vR 0, vI nn, vI t, vI i, vI p, vI v_5], [vI v_5, vR (o + 9)], aq_h m s F c)) rfl rfl ?_
          refine aq_al (ok := fun k => decide (3 ≤ k) && decide (k < 7)) (v := vR (o + 10 + v_5.toNat)) rfl rfl (by omega) hFp rfl (by omega) (by omega) (aq_gi (by omega)) ?_
          show am_E _ (60, [vR 0, vI nn, vI t, vI i, vI p, vI v_5], [vR (o + 10 + v_5.toNat)], aq_h m s F c) _
          refine am_E.go (t2 := (62, [vR 0, vI nn, vI t, vI i, vI p, vI v_5], [vI p, vR (o + 10 + v_5.toNat)], aq_h m s F c)) rfl rfl ?_
          refine aq_alt (ok := fun k => k == 0) rfl rfl (by omega) (hFq _ (by omega)) rfl (by omega) (by omega) ?_
          show am_E _ (63, [vR 0, vI nn, vI t, vI i, vI p, vI v_5], [vI (th ((v_5.toNat : Nat) : Int) p)], aq_h m s F c) _
          have f_7 := hht ((v_5.toNat : Nat) : Int) p (by omega) (by omega) (by omega) (by omega)
          refine am_E.ret rfl rfl ?_
          exact ⟨_, rfl, (aq_sm0 (S := fun a => a < 495)), ⟨_, rfl⟩, hI⟩
        · refine am_E.go (t2 := (43, [vR 0, vI nn, vI t, vI i, vI p, vI v_5], [vI (-4)], aq_h m s F c)) rfl rfl ?_
          refine am_E.go (t2 := (63, [vR 0, vI nn, vI t, vI i, vI p, vI v_5], [vI (-4)], aq_h m s F c)) rfl rfl ?_
          refine am_E.ret rfl rfl ?_
          exact ⟨_, rfl, (aq_sm0 (S := fun a => a < 495)), ⟨_, rfl⟩, hI⟩
      · refine am_E.go (t2 := (20, [vR 0, vI nn, vI t, vI i, vI p, vU], [vI (-1)], aq_h m s F c)) rfl rfl ?_
        refine am_E.ret rfl rfl ?_
        exact ⟨_, rfl, (aq_sm0 (S := fun a => a < 495)), ⟨_, rfl⟩, hI⟩

theorem qf_X4_form {m s : Nat} {F : aq_F} {c : aq_C} (hC : sb_C m F) (hI : cl_I c) {nn t i j : Int} : am_E ac_X4_form (0, [vR 0, vI nn, vI t, vI i, vI j, vU, vU], [], aq_h m s F c) (aq_Z m s F (fun a => a < 495) c (fun r d => aq_vi r ∧ cl_I d)) := by
  obtain ⟨hCm, hC0, hC1, hC2, hC3, ⟨hma4, hFa4, hFn4, hFp4, hFf4⟩, ⟨hmx, hFx, hFl, hFw⟩, hCs, hCb, hCh⟩ := id hC
  refine am_E.go (t2 := (1, [vR 0, vI nn, vI t, vI i, vI j, vU, vU], [vI nn], aq_h m s F c)) rfl rfl ?_
  refine am_E.go (t2 := (2, [vR 0, vI nn, vI t, vI i, vI j, vU, vU], [vI t, vI nn], aq_h m s F c)) rfl rfl ?_
  refine am_E.call rfl rfl rfl (Nat.le_of_ble_eq_true rfl) (qn_X4_isThrough) ?_
  rintro r5 h5 ⟨rfl, v_1, rfl, hv_1⟩
  show am_E _ (5, [vR 0, vI nn, vI t, vI i, vI j, vU, vU], [vI v_1], aq_h m s F c) _
  refine ae_if0 rfl (fun (q_2 : v_1 ≠ 0) => ?_) (fun (q_2 : v_1 = 0) => ?_)
  · refine am_E.go (t2 := (11, [vR 0, vI nn, vI t, vI i, vI j, vU, vU], [vR 0], aq_h m s F c)) rfl rfl ?_
    refine aq_gf (v := vR 2) rfl (by omega) hC0 (by decide) rfl ?_
    show am_E _ (14, [vR 0, vI nn, vI t, vI i, vI j, vU, vU], [vR 2], aq_h m s F c) _
    refine am_E.go (t2 := (15, [vR 0, vI nn, vI t, vI i, vI j, vU, vU], [vI nn, vR 2], aq_h m s F c)) rfl rfl ?_
    refine am_E.go (t2 := (16, [vR 0, vI nn, vI t, vI i, vI j, vU, vU], [vI 1, vI nn, vR 2], aq_h m s F c)) rfl rfl ?_
    refine ae_sub rfl (am_ri (by omega) (by omega)) ?_
    show am_E _ (17, [vR 0, vI nn, vI t, vI i, vI j, vU, vU], [vI (nn - 1), vR 2], aq_h m s F c) _
    obtain ⟨o, n, e_o, e_n, z, tl, th, ⟨hm, hn1, hn4, hz6, hFo, hFl, hFg, hFt, hFp, hFq, hFd, hFs, hht⟩, hve⟩ := sb_half hC (i := (nn - 1)) (by omega) (by omega)
    have hb := sb_hnd 0 (by omega) ((nn - 1)).toNat (by omega)
    rw [e_o] at hb
    refine aq_al (ok := fun k => decide (3 ≤ k) && decide (k < 7)) (v := vR o) rfl rfl (by omega) hC2 rfl (by omega) (by omega) (aq_gi2 (by omega) e_o) ?_
    show am_E _ (18, [vR 0, vI nn, vI t, vI i, vI j, vU, vU], [vR o], aq_h m s F c) _
    refine am_E.go (t2 := (19, [vR 0, vI nn, vI t, vI i, vI j, vU, vU], [vI t, vR o], aq_h m s F c)) rfl rfl ?_
    refine am_E.go (t2 := (20, [vR 0, vI nn, vI t, vI i, vI j, vU, vU], [vI i, vI t, vR o], aq_h m s F c)) rfl rfl ?_
    refine aq_callv (y := 3) (as2 := [vI t, vI i]) (rest := []) rfl rfl (by decide) (Nat.le_of_ble_eq_true rfl) rfl rfl (Nat.le_of_ble_eq_true rfl) (by omega) hFo rfl (Nat.le_of_ble_eq_true rfl) (qn_X2_find ⟨hm, hn1, hn4, hz6, hFo, hFl, hFg, hFt, hFp, hFq, hFd, hFs, hht⟩) ?_
    rintro r5 h5 ⟨rfl, v_3, rfl, hv_3⟩
    show am_E _ (23, [vR 0, vI nn, vI t, vI i, vI j, vU, vU], [vI v_3], aq_h m s F c) _
    refine am_E.go (t2 := (25, [vR 0, vI nn, vI t, vI i, vI j, vI v_3, vU], [], aq_h m s F c)) rfl rfl ?_
    refine am_E.go (t2 := (26, [vR 0, vI nn, vI t, vI i, vI j, vI v_3, vU], [vR 0], aq_h m s F c)) rfl rfl ?_
    refine aq_gf (v := vR 2) rfl (by omega) hC0 (by decide) rfl ?_
    show am_E _ (29, [vR 0, vI nn, vI t, vI i, vI j, vI v_3, vU], [vR 2], aq_h m s F c) _
    refine am_E.go (t2 := (30, [vR 0, vI nn, vI t, vI i, vI j, vI v_3, vU], [vI nn, vR 2], aq_h m s F c)) rfl rfl ?_
    refine am_E.go (t2 := (31, [vR 0, vI nn, vI t, vI i, vI j, vI v_3, vU], [vI 1, vI nn, vR 2], aq_h m s F c)) rfl rfl ?_
    refine ae_sub rfl (am_ri (by omega) (by omega)) ?_
    show am_E _ (32, [vR 0, vI nn, vI t, vI i, vI j, vI v_3, vU], [vI (nn - 1), vR 2], aq_h m s F c) _
    refine aq_al (ok := fun k => decide (3 ≤ k) && decide (k < 7)) (v := vR o) rfl rfl (by omega) hC2 rfl (by omega) (by omega) (aq_gi2 (by omega) e_o) ?_
    show am_E _ (33, [vR 0, vI nn, vI t, vI i, vI j, vI v_3, vU], [vR o], aq_h m s F c) _
    refine am_E.go (t2 := (34, [vR 0, vI nn, vI t, vI i, vI j, vI v_3, vU], [vI t, vR o], aq_h m s F c)) rfl rfl ?_
    refine am_E.go (t2 := (36, [vR 0, vI nn, vI t, vI i, vI j, vI v_3, vU], [vI j, vI t, vR o], aq_h m s F c)) rfl rfl ?_
    refine aq_callv (y := 3) (as2 := [vI t, vI j]) (rest := []) rfl rfl (by decide) (Nat.le_of_ble_eq_true rfl) rfl rfl (Nat.le_of_ble_eq_true rfl) (by omega) hFo rfl (Nat.le_of_ble_eq_true rfl) (qn_X2_find ⟨hm, hn1, hn4, hz6, hFo, hFl, hFg, hFt, hFp, hFq, hFd, hFs, hht⟩) ?_
    rintro r5 h5 ⟨rfl, v_4, rfl, hv_4⟩
    show am_E _ (39, [vR 0, vI nn, vI t, vI i, vI j, vI v_3, vU], [vI v_4], aq_h m s F c) _
    refine am_E.go (t2 := (41, [vR 0, vI nn, vI t, vI i, vI j, vI v_3, vI v_4], [], aq_h m s F c)) rfl rfl ?_
    refine am_E.go (t2 := (43, [vR 0, vI nn, vI t, vI i, vI j, vI v_3, vI v_4], [vI v_3], aq_h m s F c)) rfl rfl ?_
    refine ae_if0 rfl (fun (q_5 : v_3 < 0) => ?_) (fun (q_5 : 0 ≤ v_3) => ?_)
    · refine am_E.go (t2 := (52, [vR 0, vI nn, vI t, vI i, vI j, vI v_3, vI v_4], [vI (-1)], aq_h m s F c)) rfl rfl ?_
      refine am_E.ret rfl rfl ?_
      exact ⟨_, rfl, (aq_sm0 (S := fun a => a < 495)), ⟨_, rfl⟩, hI⟩
    · refine am_E.go (t2 := (48, [vR 0, vI nn, vI t, vI i, vI j, vI v_3, vI v_4], [vI v_4], aq_h m s F c)) rfl rfl ?_
      refine ae_if0 rfl (fun (q_6 : 0 ≤ v_4) => ?_) (fun (q_6 : v_4 < 0) => ?_)
      · refine am_E.go (t2 := (54, [vR 0, vI nn, vI t, vI i, vI j, vI v_3, vI v_4], [vR 0], aq_h m s F c)) rfl rfl ?_
        refine aq_gf (v := vR 2) rfl (by omega) hC0 (by decide) rfl ?_
        show am_E _ (57, [vR 0, vI nn, vI t, vI i, vI j, vI v_3, vI v_4], [vR 2], aq_h m s F c) _
        refine am_E.go (t2 := (58, [vR 0, vI nn, vI t, vI i, vI j, vI v_3, vI v_4], [vI nn, vR 2], aq_h m s F c)) rfl rfl ?_
        refine am_E.go (t2 := (59, [vR 0, vI nn, vI t, vI i, vI j, vI v_3, vI v_4], [vI 1, vI nn, vR 2], aq_h m s F c)) rfl rfl ?_
        refine ae_sub rfl (am_ri (by omega) (by omega)) ?_
        show am_E _ (60, [vR 0, vI nn, vI t, vI i, vI j, vI v_3, vI v_4], [vI (nn - 1), vR 2], aq_h m s F c) _
        refine aq_al (ok := fun k => decide (3 ≤ k) && decide (k < 7)) (v := vR o) rfl rfl (by omega) hC2 rfl (by omega) (by omega) (aq_gi2 (by omega) e_o) ?_
        show am_E _ (61, [vR 0, vI nn, vI t, vI i, vI j, vI v_3, vI v_4], [vR o], aq_h m s F c) _
        refine am_E.go (t2 := (63, [vR 0, vI nn, vI t, vI i, vI j, vI v_3, vI v_4], [vI v_3, vR o], aq_h m s F c)) rfl rfl ?_
        refine am_E.go (t2 := (65, [vR 0, vI nn, vI t, vI i, vI j, vI v_3, vI v_4], [vI v_4, vI v_3, vR o], aq_h m s F c)) rfl rfl ?_
        refine aq_callv (y := 3) (as2 := [vI v_3, vI v_4]) (rest := []) rfl rfl (by decide) (Nat.le_of_ble_eq_true rfl) rfl rfl (Nat.le_of_ble_eq_true rfl) (by omega) hFo rfl (Nat.le_of_ble_eq_true rfl) (qn_X2_lay (S := fun a => o ≤ a ∧ a < o + 18) ⟨hm, hn1, hn4, hz6, hFo, hFl, hFg, hFt, hFp, hFq, hFd, hFs, hht⟩ (by omega) (by omega) (by omega) (by omega) (by omega) (by omega)) ?_
        rintro r5 h5 ⟨c_b, rfl, s_b, v_b, rfl, hv_b⟩
        show am_E _ (68, [vR 0, vI nn, vI t, vI i, vI j, vI v_3, vI v_4], [vI v_b], aq_h m s F c_b) _
        refine am_E.ret rfl rfl ?_
        exact ⟨_, rfl, (aq_smt (aq_sm0 (S := fun a => a < 495)) (aq_smi s_b (fun a h => by omega))), ⟨_, rfl⟩, cl_h hI (j := ((nn - 1)).toNat) (by omega) (by rw [e_o]; exact s_b)⟩
      · refine am_E.go (t2 := (52, [vR 0, vI nn, vI t, vI i, vI j, vI v_3, vI v_4], [vI (-1)], aq_h m s F c)) rfl rfl ?_
        refine am_E.ret rfl rfl ?_
        exact ⟨_, rfl, (aq_sm0 (S := fun a => a < 495)), ⟨_, rfl⟩, hI⟩
  · refine am_E.go (t2 := (9, [vR 0, vI nn, vI t, vI i, vI j, vU, vU], [vI (-1)], aq_h m s F c)) rfl rfl ?_
    refine am_E.ret rfl rfl ?_
    exact ⟨_, rfl, (aq_sm0 (S := fun a => a < 495)), ⟨_, rfl⟩, hI⟩

theorem qf_X4_free {m s : Nat} {F : aq_F} {c : aq_C} (hC : sb_C m F) (hI : cl_I c) {nn t v p : Int} : am_E ac_X4_free (0, [vR 0, vI nn, vI t, vI v, vI p], [], aq_h m s F c) (aq_Z m s F (fun a => a < 495) c (fun r d => aq_vi r ∧ cl_I d)) := by
  obtain ⟨hCm, hC0, hC1, hC2, hC3, ⟨hma4, hFa4, hFn4, hFp4, hFf4⟩, ⟨hmx, hFx, hFl, hFw⟩, hCs, hCb, hCh⟩ := id hC
  refine am_E.go (t2 := (1, [vR 0, vI nn, vI t, vI v, vI p], [vI nn], aq_h m s F c)) rfl rfl ?_
  refine am_E.go (t2 := (2, [vR 0, vI nn, vI t, vI v, vI p], [vI t, vI nn], aq_h m s F c)) rfl rfl ?_
  refine am_E.call rfl rfl rfl (Nat.le_of_ble_eq_true rfl) (qn_X4_isThrough) ?_
  rintro r5 h5 ⟨rfl, v_1, rfl, hv_1⟩
  show am_E _ (5, [vR 0, vI nn, vI t, vI v, vI p], [vI v_1], aq_h m s F c) _
  refine ae_if0 rfl (fun (q_2 : v_1 = 0) => ?_) (fun (q_2 : v_1 ≠ 0) => ?_)
  · refine am_E.go (t2 := (31, [vR 0, vI nn, vI t, vI v, vI p], [vI (-1)], aq_h m s F c)) rfl rfl ?_
    refine am_E.ret rfl rfl ?_
    exact ⟨_, rfl, (aq_sm0 (S := fun a => a < 495)), ⟨_, rfl⟩, hI⟩
  · refine am_E.go (t2 := (9, [vR 0, vI nn, vI t, vI v, vI p], [vI v], aq_h m s F c)) rfl rfl ?_
    refine am_E.go (t2 := (12, [vR 0, vI nn, vI t, vI v, vI p], [vI (-1000), vI v], aq_h m s F c)) rfl rfl ?_
    refine ae_icmp rfl (fun (q_3 : v < (-1000)) => ?_) (fun (q_3 : (-1000) ≤ v) => ?_)
    · refine am_E.go (t2 := (31, [vR 0, vI nn, vI t, vI v, vI p], [vI (-1)], aq_h m s F c)) rfl rfl ?_
      refine am_E.ret rfl rfl ?_
      exact ⟨_, rfl, (aq_sm0 (S := fun a => a < 495)), ⟨_, rfl⟩, hI⟩
    · refine am_E.go (t2 := (16, [vR 0, vI nn, vI t, vI v, vI p], [vI v], aq_h m s F c)) rfl rfl ?_
      refine am_E.go (t2 := (19, [vR 0, vI nn, vI t, vI v, vI p], [vI 1000, vI v], aq_h m s F c)) rfl rfl ?_
      refine ae_icmp rfl (fun (q_4 : 1000 < v) => ?_) (fun (q_4 : v ≤ 1000) => ?_)
      · refine am_E.go (t2 := (31, [vR 0, vI nn, vI t, vI v, vI p], [vI (-1)], aq_h m s F c)) rfl rfl ?_
        refine am_E.ret rfl rfl ?_
        exact ⟨_, rfl, (aq_sm0 (S := fun a => a < 495)), ⟨_, rfl⟩, hI⟩
      · refine am_E.go (t2 := (24, [vR 0, vI nn, vI t, vI v, vI p], [vI p], aq_h m s F c)) rfl rfl ?_
        refine am_E.call rfl rfl rfl (Nat.le_of_ble_eq_true rfl) (qn_X4_isPrime) ?_
        rintro r5 h5 ⟨rfl, v_5, rfl, hv_5⟩
        show am_E _ (27, [vR 0, vI nn, vI t, vI v, vI p], [vI v_5], aq_h m s F c) _
        refine ae_if0 rfl (fun (q_6 : v_5 ≠ 0) => ?_) (fun (q_6 : v_5 = 0) => ?_)
        · refine am_E.go (t2 := (33, [vR 0, vI nn, vI t, vI v, vI p], [vR 0], aq_h m s F c)) rfl rfl ?_
          refine aq_gf (v := vR 2) rfl (by omega) hC0 (by decide) rfl ?_
          show am_E _ (36, [vR 0, vI nn, vI t, vI v, vI p], [vR 2], aq_h m s F c) _
          refine am_E.go (t2 := (37, [vR 0, vI nn, vI t, vI v, vI p], [vI nn, vR 2], aq_h m s F c)) rfl rfl ?_
          refine am_E.go (t2 := (38, [vR 0, vI nn, vI t, vI v, vI p], [vI 1, vI nn, vR 2], aq_h m s F c)) rfl rfl ?_
          refine ae_sub rfl (am_ri (by omega) (by omega)) ?_
          show am_E _ (39, [vR 0, vI nn, vI t, vI v, vI p], [vI (nn - 1), vR 2], aq_h m s F c) _
          obtain ⟨o, n, e_o, e_n, z, tl, th, ⟨hm, hn1, hn4, hz6, hFo, hFl, hFg, hFt, hFp, hFq, hFd, hFs, hht⟩, hve⟩ := sb_half hC (i := (nn - 1)) (by omega) (by omega)
          have hb := sb_hnd 0 (by omega) ((nn - 1)).toNat (by omega)
          rw [e_o] at hb
          refine aq_al (ok := fun k => decide (3 ≤ k) && decide (k < 7)) (v := vR o) rfl rfl (by omega) hC2 rfl (by omega) (by omega) (aq_gi2 (by omega) e_o) ?_
          show am_E _ (40, [vR 0, vI nn, vI t, vI v, vI p], [vR o], aq_h m s F c) _
          refine am_E.go (t2 := (41, [vR 0, vI nn, vI t, vI v, vI p], [vI t, vR o], aq_h m s F c)) rfl rfl ?_
          refine am_E.go (t2 := (42, [vR 0, vI nn, vI t, vI v, vI p], [vI v, vI t, vR o], aq_h m s F c)) rfl rfl ?_
          refine am_E.go (t2 := (44, [vR 0, vI nn, vI t, vI v, vI p], [vI p, vI v, vI t, vR o], aq_h m s F c)) rfl rfl ?_
          refine aq_callv (y := 4) (as2 := [vI t, vI v, vI p]) (rest := []) rfl rfl (by decide) (Nat.le_of_ble_eq_true rfl) rfl rfl (Nat.le_of_ble_eq_true rfl) (by omega) hFo rfl (Nat.le_of_ble_eq_true rfl) (qn_X2_rank (S := fun a => o ≤ a ∧ a < o + 18) ⟨hm, hn1, hn4, hz6, hFo, hFl, hFg, hFt, hFp, hFq, hFd, hFs, hht⟩ (by omega) (by omega) (by omega)) ?_
          rintro r5 h5 ⟨c_b, rfl, s_b, v_b, rfl⟩
          show am_E _ (47, [vR 0, vI nn, vI t, vI v, vI p], [vI v_b], aq_h m s F c_b) _
          refine am_E.ret rfl rfl ?_
          exact ⟨_, rfl, (aq_smt (aq_sm0 (S := fun a => a < 495)) (aq_smi s_b (fun a h => by omega))), ⟨_, rfl⟩, cl_h hI (j := ((nn - 1)).toNat) (by omega) (by rw [e_o]; exact s_b)⟩
        · refine am_E.go (t2 := (31, [vR 0, vI nn, vI t, vI v, vI p], [vI (-1)], aq_h m s F c)) rfl rfl ?_
          refine am_E.ret rfl rfl ?_
          exact ⟨_, rfl, (aq_sm0 (S := fun a => a < 495)), ⟨_, rfl⟩, hI⟩
theorem qf_X4_row {m s : Nat} {F : aq_F} {c : aq_C} (hC : sb_C m F) (hI : cl_I c) {nn : Int} : am_E ac_X4_row (0, [vR 0, vI nn], [], aq_h m s F c) (aq_Z m s F (fun a => a < 495) c (fun r d => cl_I d ∧ ((2 ≤ nn ∧ nn ≤ 4 ∧ r = some (vI 0) ∧ d 8 0 = nn ∧ d 8 1 = 0) ∨ (¬ (2 ≤ nn ∧ nn ≤ 4) ∧ r = some (vI (-1)) ∧ d = c)))) := by
  obtain ⟨hCm, hC0, hC1, hC2, hC3, ⟨hma4, hFa4, hFn4, hFp4, hFf4⟩, ⟨hmx, hFx, hFl, hFw⟩, hCs, hCb, hCh⟩ := id hC
  obtain ⟨hx0, hx1, hx2, hx3, hx4⟩ := hI.2.1
  refine am_E.go (t2 := (1, [vR 0, vI nn], [vI nn], aq_h m s F c)) rfl rfl ?_
  refine am_E.go (t2 := (2, [vR 0, vI nn], [vI 2, vI nn], aq_h m s F c)) rfl rfl ?_
  refine ae_icmp rfl (fun (q_1 : nn < 2) => ?_) (fun (q_1 : 2 ≤ nn) => ?_)
  · refine am_E.go (t2 := (11, [vR 0, vI nn], [vI (-1)], aq_h m s F c)) rfl rfl ?_
    refine am_E.ret rfl rfl ?_
    exact ⟨_, rfl, (aq_sm0 (S := fun a => a < 495)), hI, Or.inr ⟨by omega, rfl, rfl⟩⟩
  · refine am_E.go (t2 := (6, [vR 0, vI nn], [vI nn], aq_h m s F c)) rfl rfl ?_
    refine am_E.go (t2 := (7, [vR 0, vI nn], [vI 4, vI nn], aq_h m s F c)) rfl rfl ?_
    refine ae_icmp rfl (fun (q_2 : nn ≤ 4) => ?_) (fun (q_2 : 4 < nn) => ?_)
    · refine am_E.go (t2 := (13, [vR 0, vI nn], [vR 0], aq_h m s F c)) rfl rfl ?_
      refine aq_gf (v := vR 8) rfl (by omega) hC0 (by decide) rfl ?_
      show am_E _ (16, [vR 0, vI nn], [vR 8], aq_h m s F c) _
      refine am_E.go (t2 := (17, [vR 0, vI nn], [vI nn, vR 8], aq_h m s F c)) rfl rfl ?_
      refine aq_callv (y := 2) (as2 := [vI nn]) (rest := []) rfl rfl (by decide) (Nat.le_of_ble_eq_true rfl) rfl rfl (Nat.le_of_ble_eq_true rfl) (by omega) hFx rfl (Nat.le_of_ble_eq_true rfl) (qn_X1_begin (x := 8) ⟨hmx, hFx, hFl, hFw⟩) ?_
      rintro r5 h5 ⟨c_b, rfl, s_b, rfl, hb0, hb1⟩
      show am_E _ (20, [vR 0, vI nn], [], aq_h m s F c_b) _
      refine am_E.go (t2 := (21, [vR 0, vI nn], [vI 0], aq_h m s F c_b)) rfl rfl ?_
      refine am_E.ret rfl rfl ?_
      exact ⟨_, rfl, (aq_smt (aq_sm0 (S := fun a => a < 495)) (aq_smi s_b (fun b h => by omega))), cl_x hI s_b ⟨by omega, by omega, by omega, by omega, fun i h1 h2 => absurd h2 (by omega)⟩, Or.inl ⟨by omega, by omega, rfl, hb0, hb1⟩⟩
    · refine am_E.go (t2 := (11, [vR 0, vI nn], [vI (-1)], aq_h m s F c)) rfl rfl ?_
      refine am_E.ret rfl rfl ?_
      exact ⟨_, rfl, (aq_sm0 (S := fun a => a < 495)), hI, Or.inr ⟨by omega, rfl, rfl⟩⟩

theorem qf_X4_cross {m s : Nat} {F : aq_F} {c : aq_C} (hC : sb_C m F) (hI : cl_I c) {l : Int} : am_E ac_X4_cross (0, [vR 0, vI l], [], aq_h m s F c) (aq_Z m s F (fun a => a < 495) c (fun r d => cl_I d ∧ ((¬ (l ≠ 0 ∧ -(c 8 0) < l ∧ l < c 8 0) ∧ r = some (vI (-1)) ∧ d = c) ∨ ((l ≠ 0 ∧ -(c 8 0) < l ∧ l < c 8 0) ∧ 8 ≤ c 8 1 ∧ r = some (vI (-3)) ∧ d = c) ∨ ((l ≠ 0 ∧ -(c 8 0) < l ∧ l < c 8 0) ∧ c 8 1 < 8 ∧ r = some (vI (c 8 1 + 1)) ∧ d 8 0 = c 8 0 ∧ d 8 1 = c 8 1 + 1)))) := by
  obtain ⟨hCm, hC0, hC1, hC2, hC3, ⟨hma4, hFa4, hFn4, hFp4, hFf4⟩, ⟨hmx, hFx, hFl, hFw⟩, hCs, hCb, hCh⟩ := id hC
  obtain ⟨hx0, hx1, hx2, hx3, hx4⟩ := hI.2.1
  refine am_E.go (t2 := (1, [vR 0, vI l], [vR 0], aq_h m s F c)) rfl rfl ?_
  refine aq_gf (v := vR 8) rfl (by omega) hC0 (by decide) rfl ?_
  show am_E _ (4, [vR 0, vI l], [vR 8], aq_h m s F c) _
  refine am_E.go (t2 := (5, [vR 0, vI l], [vI l, vR 8], aq_h m s F c)) rfl rfl ?_
  refine aq_callv (y := 2) (as2 := [vI l]) (rest := []) rfl rfl (by decide) (Nat.le_of_ble_eq_true rfl) rfl rfl (Nat.le_of_ble_eq_true rfl) (by omega) hFx rfl (Nat.le_of_ble_eq_true rfl) (qn_X1_allows (x := 8) ⟨hmx, hFx, hFl, hFw⟩ (by omega) (by omega)) ?_
  rintro r5 h5 ⟨rfl, v_1, rfl, hv_1⟩
  show am_E _ (8, [vR 0, vI l], [vI v_1], aq_h m s F c) _
  refine ae_if0 rfl (fun (q_2 : v_1 ≠ 0) => ?_) (fun (q_2 : v_1 = 0) => ?_)
  · refine am_E.go (t2 := (14, [vR 0, vI l], [vR 0], aq_h m s F c)) rfl rfl ?_
    refine aq_gf (v := vR 8) rfl (by omega) hC0 (by decide) rfl ?_
    show am_E _ (17, [vR 0, vI l], [vR 8], aq_h m s F c) _
    refine am_E.go (t2 := (18, [vR 0, vI l], [vI l, vR 8], aq_h m s F c)) rfl rfl ?_
    refine aq_callv (y := 2) (as2 := [vI l]) (rest := []) rfl rfl (by decide) (Nat.le_of_ble_eq_true rfl) rfl rfl (Nat.le_of_ble_eq_true rfl) (by omega) hFx rfl (Nat.le_of_ble_eq_true rfl) (qn_X1_append (x := 8) ⟨hmx, hFx, hFl, hFw⟩ (by omega)) ?_
    rintro r5 h5 ⟨c_b, rfl, s_b, v_b, rfl, hq_b⟩
    show am_E _ (21, [vR 0, vI l], [vI v_b], aq_h m s F c_b) _
    refine ae_if0 rfl (fun (q_3 : v_b = 0) => ?_) (fun (q_3 : v_b ≠ 0) => ?_)
    · refine am_E.go (t2 := (36, [vR 0, vI l], [vI (-3)], aq_h m s F c_b)) rfl rfl ?_
      refine am_E.ret rfl rfl ?_
      have hl5 : (l ≠ 0 ∧ -(c 8 0) < l ∧ l < c 8 0) := by omega
      have hlb := cr_app hI.2.1 hl5 hq_b
      refine ⟨_, rfl, (aq_smt (aq_sm0 (S := fun a => a < 495)) (aq_smi s_b (fun b h => by omega))), cl_x hI s_b hlb, ?_⟩
      rcases hq_b with ⟨h1, h2, h3⟩ | ⟨h1, h2, h3, h4, h5, h6⟩
      · exact Or.inr (Or.inl ⟨hl5, h2, rfl, h3⟩)
      · exfalso; omega
    · refine am_E.go (t2 := (25, [vR 0, vI l], [vR 0], aq_h m s F c_b)) rfl rfl ?_
      refine aq_gf (v := vR 8) rfl (by omega) hC0 (by decide) rfl ?_
      show am_E _ (28, [vR 0, vI l], [vR 8], aq_h m s F c_b) _
      refine aq_gf (v := vI (c_b 8 1)) rfl (by omega) hFx (by decide) rfl ?_
      show am_E _ (31, [vR 0, vI l], [vI (c_b 8 1)], aq_h m s F c_b) _
      refine am_E.go (t2 := (36, [vR 0, vI l], [vI (c_b 8 1)], aq_h m s F c_b)) rfl rfl ?_
      refine am_E.ret rfl rfl ?_
      have hl5 : (l ≠ 0 ∧ -(c 8 0) < l ∧ l < c 8 0) := by omega
      have hlb := cr_app hI.2.1 hl5 hq_b
      refine ⟨_, rfl, (aq_smt (aq_sm0 (S := fun a => a < 495)) (aq_smi s_b (fun b h => by omega))), cl_x hI s_b hlb, ?_⟩
      rcases hq_b with ⟨h1, h2, h3⟩ | ⟨h1, h2, h3, h4, h5, h6⟩
      · exfalso; omega
      · exact Or.inr (Or.inr ⟨hl5, h2, by rw [h4], h3, h4⟩)
  · refine am_E.go (t2 := (12, [vR 0, vI l], [vI (-1)], aq_h m s F c)) rfl rfl ?_
    refine am_E.ret rfl rfl ?_
    exact ⟨_, rfl, (aq_sm0 (S := fun a => a < 495)), hI, Or.inl ⟨by omega, rfl, rfl⟩⟩

theorem qf_X4_back {m s : Nat} {F : aq_F} {c : aq_C} (hC : sb_C m F) (hI : cl_I c) : am_E ac_X4_back (0, [vR 0], [], aq_h m s F c) (aq_Z m s F (fun a => a < 495) c (fun r d => cl_I d ∧ ((c 8 1 ≤ 0 ∧ r = some (vI (-2)) ∧ d = c) ∨ (0 < c 8 1 ∧ r = some (vI (c 8 1 - 1)) ∧ d 8 0 = c 8 0 ∧ d 8 1 = c 8 1 - 1)))) := by
  obtain ⟨hCm, hC0, hC1, hC2, hC3, ⟨hma4, hFa4, hFn4, hFp4, hFf4⟩, ⟨hmx, hFx, hFl, hFw⟩, hCs, hCb, hCh⟩ := id hC
  obtain ⟨hx0, hx1, hx2, hx3, hx4⟩ := hI.2.1
  refine am_E.go (t2 := (1, [vR 0], [vR 0], aq_h m s F c)) rfl rfl ?_
  refine aq_gf (v := vR 8) rfl (by omega) hC0 (by decide) rfl ?_
  show am_E _ (4, [vR 0], [vR 8], aq_h m s F c) _
  refine aq_callv (y := 1) (as2 := []) (rest := []) rfl rfl (by decide) (Nat.le_of_ble_eq_true rfl) rfl rfl (Nat.le_of_ble_eq_true rfl) (by omega) hFx rfl (Nat.le_of_ble_eq_true rfl) (qn_X1_dropLast (x := 8) ⟨hmx, hFx, hFl, hFw⟩ (by omega) (by omega)) ?_
  rintro r5 h5 ⟨c_b, rfl, s_b, v_b, rfl, hq_b⟩
  show am_E _ (7, [vR 0], [vI v_b], aq_h m s F c_b) _
  refine ae_if0 rfl (fun (q_1 : v_b = 0) => ?_) (fun (q_1 : v_b ≠ 0) => ?_)
  · refine am_E.go (t2 := (22, [vR 0], [vI (-2)], aq_h m s F c_b)) rfl rfl ?_
    refine am_E.ret rfl rfl ?_
    have hlb := cr_drp hI.2.1 hq_b
    refine ⟨_, rfl, (aq_smt (aq_sm0 (S := fun a => a < 495)) (aq_smi s_b (fun b h => by omega))), cl_x hI s_b hlb, ?_⟩
    rcases hq_b with ⟨h1, h2, h3⟩ | ⟨h1, h2, h3, h4, h5⟩
    · exact Or.inl ⟨h2, rfl, h3⟩
    · exfalso; omega
  · refine am_E.go (t2 := (11, [vR 0], [vR 0], aq_h m s F c_b)) rfl rfl ?_
    refine aq_gf (v := vR 8) rfl (by omega) hC0 (by decide) rfl ?_
    show am_E _ (14, [vR 0], [vR 8], aq_h m s F c_b) _
    refine aq_gf (v := vI (c_b 8 1)) rfl (by omega) hFx (by decide) rfl ?_
    show am_E _ (17, [vR 0], [vI (c_b 8 1)], aq_h m s F c_b) _
    refine am_E.go (t2 := (22, [vR 0], [vI (c_b 8 1)], aq_h m s F c_b)) rfl rfl ?_
    refine am_E.ret rfl rfl ?_
    have hlb := cr_drp hI.2.1 hq_b
    refine ⟨_, rfl, (aq_smt (aq_sm0 (S := fun a => a < 495)) (aq_smi s_b (fun b h => by omega))), cl_x hI s_b hlb, ?_⟩
    rcases hq_b with ⟨h1, h2, h3⟩ | ⟨h1, h2, h3, h4, h5⟩
    · exfalso; omega
    · exact Or.inr ⟨h2, by rw [h4], h3, h4⟩

theorem qf_X4_power {m s : Nat} {F : aq_F} {c : aq_C} (hC : sb_C m F) (hI : cl_I c) {k : Int} : am_E ac_X4_power (0, [vR 0, vI k], [], aq_h m s F c) (aq_Z m s F (fun a => a < 495) c (fun r d => aq_vi r ∧ cl_I d)) := by
  obtain ⟨hCm, hC0, hC1, hC2, hC3, ⟨hma4, hFa4, hFn4, hFp4, hFf4⟩, ⟨hmx, hFx, hFl, hFw⟩, hCs, hCb, hCh⟩ := id hC
  obtain ⟨hx0, hx1, hx2, hx3, hx4⟩ := hI.2.1
  refine am_E.go (t2 := (1, [vR 0, vI k], [vI k], aq_h m s F c)) rfl rfl ?_
  refine am_E.go (t2 := (3, [vR 0, vI k], [vI (-40), vI k], aq_h m s F c)) rfl rfl ?_
  refine ae_icmp rfl (fun (q_1 : k < (-40)) => ?_) (fun (q_1 : (-40) ≤ k) => ?_)
  · refine am_E.go (t2 := (14, [vR 0, vI k], [vI (-1000000)], aq_h m s F c)) rfl rfl ?_
    refine am_E.ret rfl rfl ?_
    exact ⟨_, rfl, (aq_sm0 (S := fun a => a < 495)), ⟨_, rfl⟩, hI⟩
  · refine am_E.go (t2 := (7, [vR 0, vI k], [vI k], aq_h m s F c)) rfl rfl ?_
    refine am_E.go (t2 := (9, [vR 0, vI k], [vI 40, vI k], aq_h m s F c)) rfl rfl ?_
    refine ae_icmp rfl (fun (q_2 : k ≤ 40) => ?_) (fun (q_2 : 40 < k) => ?_)
    · refine am_E.go (t2 := (16, [vR 0, vI k], [vR 0], aq_h m s F c)) rfl rfl ?_
      refine aq_gf (v := vR 8) rfl (by omega) hC0 (by decide) rfl ?_
      show am_E _ (19, [vR 0, vI k], [vR 8], aq_h m s F c) _
      refine am_E.go (t2 := (20, [vR 0, vI k], [vI k, vR 8], aq_h m s F c)) rfl rfl ?_
      refine am_E.go (t2 := (21, [vR 0, vI k], [vR 0, vI k, vR 8], aq_h m s F c)) rfl rfl ?_
      refine aq_gf (v := vR 1) rfl (by omega) hC0 (by decide) rfl ?_
      show am_E _ (24, [vR 0, vI k], [vR 1, vI k, vR 8], aq_h m s F c) _
      refine am_E.go (t2 := (25, [vR 0, vI k], [vR 0, vR 1, vI k, vR 8], aq_h m s F c)) rfl rfl ?_
      refine aq_gf (v := vR 8) rfl (by omega) hC0 (by decide) rfl ?_
      show am_E _ (28, [vR 0, vI k], [vR 8, vR 1, vI k, vR 8], aq_h m s F c) _
      refine aq_gf (v := vI (c 8 0)) rfl (by omega) hFx (by decide) rfl ?_
      show am_E _ (31, [vR 0, vI k], [vI (c 8 0), vR 1, vI k, vR 8], aq_h m s F c) _
      refine am_E.go (t2 := (32, [vR 0, vI k], [vI 1, vI (c 8 0), vR 1, vI k, vR 8], aq_h m s F c)) rfl rfl ?_
      refine ae_sub rfl (am_ri (by omega) (by omega)) ?_
      show am_E _ (33, [vR 0, vI k], [vI ((c 8 0) - 1), vR 1, vI k, vR 8], aq_h m s F c) _
      obtain ⟨o, n, K, e_o, e_n, e_K, e_j, e_k, tP, tG, tN, tR, tL, ⟨hm, hn1, hn4, hK, hFo, hFd, hFs⟩, ⟨hPg, hPr, hPt⟩, ⟨hL, hGg, hGr, hNg, hNr, hLt, hGt, hNt⟩, ⟨hR, hRt⟩, hst, hex⟩ := sb_box hC (i := ((c 8 0) - 1)) (by omega) (by omega)
      have hb := sb_bnd (((c 8 0) - 1)).toNat (by omega)
      rw [e_o, e_k] at hb
      refine aq_al (ok := fun k => decide (3 ≤ k) && decide (k < 7)) (v := vR o) rfl rfl (by omega) hC1 rfl (by omega) (by omega) (aq_gi2 (by omega) e_o) ?_
      show am_E _ (34, [vR 0, vI k], [vR o, vI k, vR 8], aq_h m s F c) _
      refine aq_callv (y := 3) (as2 := [vI k, vR o]) (rest := []) rfl rfl (by decide) (Nat.le_of_ble_eq_true rfl) rfl rfl (Nat.le_of_ble_eq_true rfl) (by omega) hFx rfl (Nat.le_of_ble_eq_true rfl) (qn_X1_wholeAt (x := 8) (S := fun a => a = 10 ∨ a = o + 6 + 3 * K ∨ a = o + 7 + 3 * K) ⟨hmx, hFx, hFl, hFw⟩ (Or.inl rfl) (by omega) (by omega) hI.2.1 ⟨hm, hn1, hn4, hK, hFo, hFd, hFs⟩ (Or.inr (Or.inl rfl)) (Or.inr (Or.inr rfl)) (by omega) (by omega) ⟨hL, hGg, hGr, hNg, hNr, hLt, hGt, hNt⟩ ⟨hR, hRt⟩ hst (by have h9 := hI.1 (((c 8 0) - 1)).toNat (by omega); rw [e_o, e_k, ← e_j] at h9; exact h9) (by omega) (by omega)) ?_
      rintro r5 h5 ⟨c_b, rfl, s_b, ⟨v_b, rfl⟩, hr_b, h0_b, h1_b, h2_b⟩
      show am_E _ (37, [vR 0, vI k], [vI v_b], aq_h m s F c_b) _
      refine am_E.ret rfl rfl ?_
      exact ⟨_, rfl, (aq_smt (aq_sm0 (S := fun a => a < 495)) (aq_smi s_b (fun a h => by omega))), ⟨_, rfl⟩, cl_p hI (j := (((c 8 0) - 1)).toNat) (by omega) (by rw [e_o, e_k]; exact s_b) (by rw [e_o, e_k, ← e_j]; exact hr_b) h0_b h1_b h2_b⟩
    · refine am_E.go (t2 := (14, [vR 0, vI k], [vI (-1000000)], aq_h m s F c)) rfl rfl ?_
      refine am_E.ret rfl rfl ?_
      exact ⟨_, rfl, (aq_sm0 (S := fun a => a < 495)), ⟨_, rfl⟩, hI⟩
