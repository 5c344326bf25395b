
theorem qn_X1_begin {m s : Nat} {F : aq_F} {c : aq_C} {x : Nat} (hX : cr_0 m F x) {n : Int} : am_E ac_X1_begin (0, [vR x, vI n], [], aq_h m s F c) (aq_Z m s F (fun a => a = x ∨ a = x + 1) c (fun r d => r = none ∧ d x 0 = n ∧ d x 1 = 0)) := by
  obtain ⟨hmx, hFx, hFl, hFw⟩ := hX
  refine am_E.go (t2 := (1, [vR x, vI n], [vR x], aq_h m s F c)) rfl rfl ?_
  refine am_E.go (t2 := (2, [vR x, vI n], [vI n, vR x], aq_h m s F c)) rfl rfl ?_
  refine aq_pf rfl (by omega) hFx (by decide) rfl rfl ?_
  show am_E _ (5, [vR x, vI n], [], aq_h m s F (aq_u c x 0 n)) _
  generalize hdc_1 : aq_u c x 0 n = c_1
  have sc_1 := aq_smu (aq_sm0 (S := fun a => a = x ∨ a = x + 1)) hdc_1 (Or.inl rfl)
  refine am_E.go (t2 := (6, [vR x, vI n], [vR x], aq_h m s F c_1)) rfl rfl ?_
  refine am_E.go (t2 := (7, [vR x, vI n], [vI 0, vR x], aq_h m s F c_1)) rfl rfl ?_
  refine aq_pf rfl (by omega) hFx (by decide) rfl rfl ?_
  show am_E _ (10, [vR x, vI n], [], aq_h m s F (aq_u c_1 x 1 0)) _
  generalize hdc_2 : aq_u c_1 x 1 0 = c_2
  have sc_2 := aq_smu sc_1 hdc_2 (Or.inl rfl)
  refine am_E.go (t2 := (11, [vR x, vI n], [vR x], aq_h m s F c_2)) rfl rfl ?_
  refine am_E.go (t2 := (12, [vR x, vI n], [vI 0, vR x], aq_h m s F c_2)) rfl rfl ?_
  refine aq_pf rfl (by omega) hFx (by decide) rfl rfl ?_
  show am_E _ (15, [vR x, vI n], [], aq_h m s F (aq_u c_2 x 4 0)) _
  generalize hdc_3 : aq_u c_2 x 4 0 = c_3
  have sc_3 := aq_smu sc_2 hdc_3 (Or.inl rfl)
  refine am_E.ret rfl rfl ?_
  refine ⟨_, rfl, sc_3, rfl, ?_⟩
  rw [← hdc_3, ← hdc_2, ← hdc_1]
  simp [aq_u]

theorem qn_X1_allows {m s : Nat} {F : aq_F} {c : aq_C} {x : Nat} (hX : cr_0 m F x) {l : Int} (h1 : 0 ≤ c x 0) (h2 : c x 0 ≤ 4) : am_E ac_X1_allows (0, [vR x, vI l], [], aq_h m s F c) (aq_P m s F c (fun r => ∃ v, r = some (vI v) ∧ ((v = 1 ∧ l ≠ 0 ∧ -(c x 0) < l ∧ l < c x 0) ∨ (v = 0 ∧ ¬ (l ≠ 0 ∧ -(c x 0) < l ∧ l < c x 0))))) := by
  obtain ⟨hmx, hFx, hFl, hFw⟩ := hX
  refine am_E.go (t2 := (1, [vR x, vI l], [vI l], aq_h m s F c)) rfl rfl ?_
  refine ae_if0 rfl (fun (q_1 : l = 0) => ?_) (fun (q_1 : l ≠ 0) => ?_)
  · refine am_E.go (t2 := (26, [vR x, vI l], [vI 0], aq_h m s F c)) rfl rfl ?_
    refine am_E.ret rfl rfl ?_
    exact ⟨rfl, _, rfl, by omega⟩
  · refine am_E.go (t2 := (5, [vR x, vI l], [vI l], aq_h m s F c)) rfl rfl ?_
    refine am_E.go (t2 := (6, [vR x, vI l], [vR x, vI l], aq_h m s F c)) rfl rfl ?_
    refine aq_gf (v := vI (c x 0)) rfl (by omega) hFx (by decide) rfl ?_
    show am_E _ (9, [vR x, vI l], [vI (c x 0), vI l], aq_h m s F c) _
    refine ae_neg rfl (am_ri (by omega) (by omega)) ?_
    show am_E _ (10, [vR x, vI l], [vI (-(c x 0)), vI l], aq_h m s F c) _
    refine ae_icmp rfl (fun (q_2 : l ≤ (-(c x 0))) => ?_) (fun (q_2 : (-(c x 0)) < l) => ?_)
    · refine am_E.go (t2 := (26, [vR x, vI l], [vI 0], aq_h m s F c)) rfl rfl ?_
      refine am_E.ret rfl rfl ?_
      exact ⟨rfl, _, rfl, by omega⟩
    · refine am_E.go (t2 := (14, [vR x, vI l], [vI l], aq_h m s F c)) rfl rfl ?_
      refine am_E.go (t2 := (15, [vR x, vI l], [vR x, vI l], aq_h m s F c)) rfl rfl ?_
      refine aq_gf (v := vI (c x 0)) rfl (by omega) hFx (by decide) rfl ?_
      show am_E _ (18, [vR x, vI l], [vI (c x 0), vI l], aq_h m s F c) _
      refine ae_icmp rfl (fun (q_3 : (c x 0) ≤ l) => ?_) (fun (q_3 : l < (c x 0)) => ?_)
      · refine am_E.go (t2 := (26, [vR x, vI l], [vI 0], aq_h m s F c)) rfl rfl ?_
        refine am_E.ret rfl rfl ?_
        exact ⟨rfl, _, rfl, by omega⟩
      · refine am_E.go (t2 := (22, [vR x, vI l], [vI 1], aq_h m s F c)) rfl rfl ?_
        refine am_E.go (t2 := (26, [vR x, vI l], [vI 1], aq_h m s F c)) rfl rfl ?_
        refine am_E.ret rfl rfl ?_
        exact ⟨rfl, _, rfl, by omega⟩

theorem qn_X1_append {m s : Nat} {F : aq_F} {c : aq_C} {x : Nat} (hX : cr_0 m F x) {l : Int} (h1 : 0 ≤ c x 1) : am_E ac_X1_append (0, [vR x, vI l], [], aq_h m s F c) (aq_Z m s F (fun a => a = x ∨ a = x + 1) c (fun r d => ∃ v, r = some (vI v) ∧ ((v = 0 ∧ 8 ≤ c x 1 ∧ d = c) ∨ (v = 1 ∧ c x 1 < 8 ∧ d x 0 = c x 0 ∧ d x 1 = c x 1 + 1 ∧ d (x + 1) (c x 1) = l ∧ ∀ i, i ≠ c x 1 → d (x + 1) i = c (x + 1) i)))) := by
  obtain ⟨hmx, hFx, hFl, hFw⟩ := hX
  have e1 : x + 1 ≠ x := by omega
  have e2 : x ≠ x + 1 := by omega
  refine am_E.go (t2 := (1, [vR x, vI l], [vR x], aq_h m s F c)) rfl rfl ?_
  refine aq_gf (v := vI (c x 1)) rfl (by omega) hFx (by decide) rfl ?_
  show am_E _ (4, [vR x, vI l], [vI (c x 1)], aq_h m s F c) _
  skip
  refine am_E.go (t2 := (6, [vR x, vI l], [vI 8, vI (c x 1)], aq_h m s F c)) rfl rfl ?_
  refine ae_icmp rfl (fun (q_2 : (c x 1) < 8) => ?_) (fun (q_2 : 8 ≤ (c x 1)) => ?_)
  · refine am_E.go (t2 := (12, [vR x, vI l], [vR x], aq_h m s F c)) rfl rfl ?_
    refine aq_gf (v := vR (x + 1)) rfl (by omega) hFx (by decide) rfl ?_
    show am_E _ (15, [vR x, vI l], [vR (x + 1)], aq_h m s F c) _
    refine am_E.go (t2 := (16, [vR x, vI l], [vR x, vR (x + 1)], aq_h m s F c)) rfl rfl ?_
    refine aq_gf (v := vI (c x 1)) rfl (by omega) hFx (by decide) rfl ?_
    show am_E _ (19, [vR x, vI l], [vI (c x 1), vR (x + 1)], aq_h m s F c) _
    skip
    refine am_E.go (t2 := (20, [vR x, vI l], [vI l, vI (c x 1), vR (x + 1)], aq_h m s F c)) rfl rfl ?_
    refine aq_as (kd := 0) rfl rfl (by omega) hFl (by omega) (by omega) rfl rfl ?_
    show am_E _ (21, [vR x, vI l], [], aq_h m s F (aq_u c (x + 1) (c x 1) l)) _
    generalize hdc_4 : aq_u c (x + 1) (c x 1) l = c_4
    have sc_4 := aq_smu (aq_sm0 (S := fun a => a = x ∨ a = x + 1)) hdc_4 (Or.inr rfl)
    refine am_E.go (t2 := (22, [vR x, vI l], [vR x], aq_h m s F c_4)) rfl rfl ?_
    refine am_E.go (t2 := (23, [vR x, vI l], [vR x, vR x], aq_h m s F c_4)) rfl rfl ?_
    refine aq_gf (v := vI (c_4 x 1)) rfl (by omega) hFx (by decide) rfl ?_
    show am_E _ (26, [vR x, vI l], [vI (c_4 x 1), vR x], aq_h m s F c_4) _
    have f_5 : c_4 x 1 = c x 1 := by rw [← hdc_4]; exact aq_un (Or.inl (by omega))
    refine am_E.go (t2 := (27, [vR x, vI l], [vI 1, vI (c_4 x 1), vR x], aq_h m s F c_4)) rfl rfl ?_
    refine ae_add rfl (am_ri (by omega) (by omega)) ?_
    show am_E _ (28, [vR x, vI l], [vI ((c_4 x 1) + 1), vR x], aq_h m s F c_4) _
    refine aq_pf rfl (by omega) hFx (by decide) rfl rfl ?_
    show am_E _ (31, [vR x, vI l], [], aq_h m s F (aq_u c_4 x 1 ((c_4 x 1) + 1))) _
    generalize hdc_6 : aq_u c_4 x 1 ((c_4 x 1) + 1) = c_6
    have sc_6 := aq_smu sc_4 hdc_6 (Or.inl rfl)
    refine am_E.go (t2 := (32, [vR x, vI l], [vR x], aq_h m s F c_6)) rfl rfl ?_
    refine am_E.go (t2 := (33, [vR x, vI l], [vI 0, vR x], aq_h m s F c_6)) rfl rfl ?_
    refine aq_pf rfl (by omega) hFx (by decide) rfl rfl ?_
    show am_E _ (36, [vR x, vI l], [], aq_h m s F (aq_u c_6 x 4 0)) _
    generalize hdc_7 : aq_u c_6 x 4 0 = c_7
    have sc_7 := aq_smu sc_6 hdc_7 (Or.inl rfl)
    refine am_E.go (t2 := (37, [vR x, vI l], [vI 1], aq_h m s F c_7)) rfl rfl ?_
    refine am_E.ret rfl rfl ?_
    refine ⟨_, rfl, sc_7, 1, rfl, Or.inr ⟨rfl, by omega, ?_⟩⟩
    have e1 : x + 1 ≠ x := by omega
    have e2 : x ≠ x + 1 := by omega
    rw [← hdc_7, ← hdc_6, ← hdc_4]
    simp [aq_u, e1, e2]
    intro i hi h9
    exact absurd h9 hi
  · refine am_E.go (t2 := (10, [vR x, vI l], [vI 0], aq_h m s F c)) rfl rfl ?_
    refine am_E.ret rfl rfl ?_
    exact ⟨_, rfl, (aq_sm0 (S := fun a => a = x ∨ a = x + 1)), 0, rfl, Or.inl ⟨rfl, by omega, rfl⟩⟩

theorem qn_X1_dropLast {m s : Nat} {F : aq_F} {c : aq_C} {x : Nat} (hX : cr_0 m F x) (h1 : 0 ≤ c x 1) (h2 : c x 1 ≤ 8) : am_E ac_X1_dropLast (0, [vR x], [], aq_h m s F c) (aq_Z m s F (fun a => a = x ∨ a = x + 1) c (fun r d => ∃ v, r = some (vI v) ∧ ((v = 0 ∧ c x 1 ≤ 0 ∧ d = c) ∨ (v = 1 ∧ 0 < c x 1 ∧ d x 0 = c x 0 ∧ d x 1 = c x 1 - 1 ∧ ∀ i, d (x + 1) i = c (x + 1) i)))) := by
  obtain ⟨hmx, hFx, hFl, hFw⟩ := hX
  refine am_E.go (t2 := (1, [vR x], [vR x], aq_h m s F c)) rfl rfl ?_
  refine aq_gf (v := vI (c x 1)) rfl (by omega) hFx (by decide) rfl ?_
  show am_E _ (4, [vR x], [vI (c x 1)], aq_h m s F c) _
  refine ae_if0 rfl (fun (q_1 : 0 < (c x 1)) => ?_) (fun (q_1 : (c x 1) ≤ 0) => ?_)
  · refine am_E.go (t2 := (10, [vR x], [vR x], aq_h m s F c)) rfl rfl ?_
    refine am_E.go (t2 := (11, [vR x], [vR x, vR x], aq_h m s F c)) rfl rfl ?_
    refine aq_gf (v := vI (c x 1)) rfl (by omega) hFx (by decide) rfl ?_
    show am_E _ (14, [vR x], [vI (c x 1), vR x], aq_h m s F c) _
    refine am_E.go (t2 := (15, [vR x], [vI 1, vI (c x 1), vR x], aq_h m s F c)) rfl rfl ?_
    refine ae_sub rfl (am_ri (by omega) (by omega)) ?_
    show am_E _ (16, [vR x], [vI ((c x 1) - 1), vR x], aq_h m s F c) _
    refine aq_pf rfl (by omega) hFx (by decide) rfl rfl ?_
    show am_E _ (19, [vR x], [], aq_h m s F (aq_u c x 1 ((c x 1) - 1))) _
    generalize hdc_2 : aq_u c x 1 ((c x 1) - 1) = c_2
    have sc_2 := aq_smu (aq_sm0 (S := fun a => a = x ∨ a = x + 1)) hdc_2 (Or.inl rfl)
    refine am_E.go (t2 := (20, [vR x], [vR x], aq_h m s F c_2)) rfl rfl ?_
    refine am_E.go (t2 := (21, [vR x], [vI 0, vR x], aq_h m s F c_2)) rfl rfl ?_
    refine aq_pf rfl (by omega) hFx (by decide) rfl rfl ?_
    show am_E _ (24, [vR x], [], aq_h m s F (aq_u c_2 x 4 0)) _
    generalize hdc_3 : aq_u c_2 x 4 0 = c_3
    have sc_3 := aq_smu sc_2 hdc_3 (Or.inl rfl)
    refine am_E.go (t2 := (25, [vR x], [vI 1], aq_h m s F c_3)) rfl rfl ?_
    refine am_E.ret rfl rfl ?_
    refine ⟨_, rfl, sc_3, 1, rfl, Or.inr ⟨rfl, by omega, ?_⟩⟩
    have e1 : x + 1 ≠ x := by omega
    rw [← hdc_3, ← hdc_2]
    simp [aq_u, e1]
  · refine am_E.go (t2 := (8, [vR x], [vI 0], aq_h m s F c)) rfl rfl ?_
    refine am_E.ret rfl rfl ?_
    exact ⟨_, rfl, (aq_sm0 (S := fun a => a = x ∨ a = x + 1)), 0, rfl, Or.inl ⟨rfl, by omega, rfl⟩⟩

theorem qn_addState_l {m s : Nat} {F : aq_F} {c0 : aq_C} {S : Nat → Prop} {x : Nat} (hX : cr_0 m F x) (hSw : S (x + 2)) {w t : Int} (ht0 : -1 ≤ t) (ht1 : t ≤ 100) : ∀ (d : Nat) (u : Int) (p : Int) (j : Int) (c : aq_C) (hs : aq_sm S c0 c) (h0 : 0 ≤ j) (h1 : j ≤ 101) (hd : max 0 (t + 1 - j) < (d : Int)), am_E ac_X1_addState (22, [vR x, vI w, vI t, vI u, vI p, vI j], [], aq_h m s F c) (aq_Z m s F S c0 (fun r _ => r = none))
  | 0, u, p, j, c, hs, h0, h1, hd => by exfalso; omega
  | d + 1, u, p, j, c, hs, h0, h1, hd => by
    obtain ⟨hmx, hFx, hFl, hFw⟩ := hX
    refine am_E.go (t2 := (24, [vR x, vI w, vI t, vI u, vI p, vI j], [vI j], aq_h m s F c)) rfl rfl ?_
    refine am_E.go (t2 := (25, [vR x, vI w, vI t, vI u, vI p, vI j], [vI t, vI j], aq_h m s F c)) rfl rfl ?_
    refine ae_icmp rfl (fun (q_1 : t < j) => ?_) (fun (q_1 : j ≤ t) => ?_)
    · refine am_E.ret rfl rfl ?_
      exact ⟨_, rfl, hs, rfl⟩
    · refine am_E.go (t2 := (30, [vR x, vI w, vI t, vI u, vI p, vI j], [vI p], aq_h m s F c)) rfl rfl ?_
      refine am_E.go (t2 := (32, [vR x, vI w, vI t, vI u, vI p, vI j], [vI (-40), vI p], aq_h m s F c)) rfl rfl ?_
      refine ae_icmp rfl (fun (q_2 : p < (-40)) => ?_) (fun (q_2 : (-40) ≤ p) => ?_)
      · refine am_E.go (t2 := (57, [vR x, vI w, vI t, vI u, vI p, vI j], [vI u], aq_h m s F c)) rfl rfl ?_
        refine am_E.go (t2 := (58, [vR x, vI w, vI t, vI u, vI p, vI j], [vI t, vI u], aq_h m s F c)) rfl rfl ?_
        refine am_E.go (t2 := (60, [vR x, vI w, vI t, vI u, vI p, vI j], [vI j, vI t, vI u], aq_h m s F c)) rfl rfl ?_
        refine ae_sub rfl (am_ri (by omega) (by omega)) ?_
        show am_E _ (61, [vR x, vI w, vI t, vI u, vI p, vI j], [vI (t - j), vI u], aq_h m s F c) _
        refine am_E.go (t2 := (62, [vR x, vI w, vI t, vI u, vI p, vI j], [vI (am_w (u * (t - j)))], aq_h m s F c)) rfl rfl ?_
        refine am_E.go (t2 := (64, [vR x, vI w, vI t, vI u, vI p, vI j], [vI j, vI (am_w (u * (t - j)))], aq_h m s F c)) rfl rfl ?_
        refine am_E.go (t2 := (65, [vR x, vI w, vI t, vI u, vI p, vI j], [vI 1, vI j, vI (am_w (u * (t - j)))], aq_h m s F c)) rfl rfl ?_
        refine ae_add rfl (am_ri (by omega) (by omega)) ?_
        show am_E _ (66, [vR x, vI w, vI t, vI u, vI p, vI j], [vI (j + 1), vI (am_w (u * (t - j)))], aq_h m s F c) _
        refine ae_bin (z := am_w ((am_w (u * (t - j))).tdiv (j + 1))) rfl rfl (am_div_s (by omega)) ?_
        show am_E _ (67, [vR x, vI w, vI t, vI u, vI p, vI j], [vI (am_w ((am_w (u * (t - j))).tdiv (j + 1)))], aq_h m s F c) _
        refine am_E.go (t2 := (68, [vR x, vI w, vI t, vI (am_w ((am_w (u * (t - j))).tdiv (j + 1))), vI p, vI j], [], aq_h m s F c)) rfl rfl ?_
        refine am_E.go (t2 := (71, [vR x, vI w, vI t, vI (am_w ((am_w (u * (t - j))).tdiv (j + 1))), vI (am_w (p + (-4))), vI j], [], aq_h m s F c)) rfl rfl ?_
        refine ae_iinc rfl rfl (am_ri (by omega) (by omega)) ?_
        show am_E _ (74, [vR x, vI w, vI t, vI (am_w ((am_w (u * (t - j))).tdiv (j + 1))), vI (am_w (p + (-4))), vI (j + 1)], [], aq_h m s F c) _
        refine am_E.go (t2 := (22, [vR x, vI w, vI t, vI (am_w ((am_w (u * (t - j))).tdiv (j + 1))), vI (am_w (p + (-4))), vI (j + 1)], [], aq_h m s F c)) rfl rfl ?_
        exact qn_addState_l ⟨hmx, hFx, hFl, hFw⟩ hSw ht0 ht1 d (am_w ((am_w (u * (t - j))).tdiv (j + 1))) (am_w (p + (-4))) (j + 1) c hs (by omega) (by omega) (by omega)
      · refine am_E.go (t2 := (37, [vR x, vI w, vI t, vI u, vI p, vI j], [vI p], aq_h m s F c)) rfl rfl ?_
        refine am_E.go (t2 := (39, [vR x, vI w, vI t, vI u, vI p, vI j], [vI 40, vI p], aq_h m s F c)) rfl rfl ?_
        refine ae_icmp rfl (fun (q_3 : 40 < p) => ?_) (fun (q_3 : p ≤ 40) => ?_)
        · refine am_E.go (t2 := (57, [vR x, vI w, vI t, vI u, vI p, vI j], [vI u], aq_h m s F c)) rfl rfl ?_
          refine am_E.go (t2 := (58, [vR x, vI w, vI t, vI u, vI p, vI j], [vI t, vI u], aq_h m s F c)) rfl rfl ?_
          refine am_E.go (t2 := (60, [vR x, vI w, vI t, vI u, vI p, vI j], [vI j, vI t, vI u], aq_h m s F c)) rfl rfl ?_
          refine ae_sub rfl (am_ri (by omega) (by omega)) ?_
          show am_E _ (61, [vR x, vI w, vI t, vI u, vI p, vI j], [vI (t - j), vI u], aq_h m s F c) _
          refine am_E.go (t2 := (62, [vR x, vI w, vI t, vI u, vI p, vI j], [vI (am_w (u * (t - j)))], aq_h m s F c)) rfl rfl ?_
          refine am_E.go (t2 := (64, [vR x, vI w, vI t, vI u, vI p, vI j], [vI j, vI (am_w (u * (t - j)))], aq_h m s F c)) rfl rfl ?_
          refine am_E.go (t2 := (65, [vR x, vI w, vI t, vI u, vI p, vI j], [vI 1, vI j, vI (am_w (u * (t - j)))], aq_h m s F c)) rfl rfl ?_
          refine ae_add rfl (am_ri (by omega) (by omega)) ?_
          show am_E _ (66, [vR x, vI w, vI t, vI u, vI p, vI j], [vI (j + 1), vI (am_w (u * (t - j)))], aq_h m s F c) _
          refine ae_bin (z := am_w ((am_w (u * (t - j))).tdiv (j + 1))) rfl rfl (am_div_s (by omega)) ?_
          show am_E _ (67, [vR x, vI w, vI t, vI u, vI p, vI j], [vI (am_w ((am_w (u * (t - j))).tdiv (j + 1)))], aq_h m s F c) _
          refine am_E.go (t2 := (68, [vR x, vI w, vI t, vI (am_w ((am_w (u * (t - j))).tdiv (j + 1))), vI p, vI j], [], aq_h m s F c)) rfl rfl ?_
          refine am_E.go (t2 := (71, [vR x, vI w, vI t, vI (am_w ((am_w (u * (t - j))).tdiv (j + 1))), vI (am_w (p + (-4))), vI j], [], aq_h m s F c)) rfl rfl ?_
          refine ae_iinc rfl rfl (am_ri (by omega) (by omega)) ?_
          show am_E _ (74, [vR x, vI w, vI t, vI (am_w ((am_w (u * (t - j))).tdiv (j + 1))), vI (am_w (p + (-4))), vI (j + 1)], [], aq_h m s F c) _
          refine am_E.go (t2 := (22, [vR x, vI w, vI t, vI (am_w ((am_w (u * (t - j))).tdiv (j + 1))), vI (am_w (p + (-4))), vI (j + 1)], [], aq_h m s F c)) rfl rfl ?_
          exact qn_addState_l ⟨hmx, hFx, hFl, hFw⟩ hSw ht0 ht1 d (am_w ((am_w (u * (t - j))).tdiv (j + 1))) (am_w (p + (-4))) (j + 1) c hs (by omega) (by omega) (by omega)
        · refine am_E.go (t2 := (43, [vR x, vI w, vI t, vI u, vI p, vI j], [vR x], aq_h m s F c)) rfl rfl ?_
          refine aq_gf (v := vR (x + 2)) rfl (by omega) hFx (by decide) rfl ?_
          show am_E _ (46, [vR x, vI w, vI t, vI u, vI p, vI j], [vR (x + 2)], aq_h m s F c) _
          refine am_E.go (t2 := (48, [vR x, vI w, vI t, vI u, vI p, vI j], [vI p, vR (x + 2)], aq_h m s F c)) rfl rfl ?_
          refine am_E.go (t2 := (50, [vR x, vI w, vI t, vI u, vI p, vI j], [vI 40, vI p, vR (x + 2)], aq_h m s F c)) rfl rfl ?_
          refine ae_add rfl (am_ri (by omega) (by omega)) ?_
          show am_E _ (51, [vR x, vI w, vI t, vI u, vI p, vI j], [vI (p + 40), vR (x + 2)], aq_h m s F c) _
          refine am_E.go (t2 := (52, [vR x, vI w, vI t, vI u, vI p, vI j], [vI (p + 40), vR (x + 2), vI (p + 40), vR (x + 2)], aq_h m s F c)) rfl rfl ?_
          refine aq_al (ok := fun k => k == 0) (v := vI (c (x + 2) (p + 40))) rfl rfl (by omega) hFw rfl (by omega) (by omega) rfl ?_
          show am_E _ (53, [vR x, vI w, vI t, vI u, vI p, vI j], [vI (c (x + 2) (p + 40)), vI (p + 40), vR (x + 2)], aq_h m s F c) _
          refine am_E.go (t2 := (54, [vR x, vI w, vI t, vI u, vI p, vI j], [vI u, vI (c (x + 2) (p + 40)), vI (p + 40), vR (x + 2)], aq_h m s F c)) rfl rfl ?_
          refine am_E.go (t2 := (55, [vR x, vI w, vI t, vI u, vI p, vI j], [vI (am_w ((c (x + 2) (p + 40)) + u)), vI (p + 40), vR (x + 2)], aq_h m s F c)) rfl rfl ?_
          refine aq_as (kd := 0) rfl rfl (by omega) hFw (by omega) (by omega) rfl rfl ?_
          show am_E _ (56, [vR x, vI w, vI t, vI u, vI p, vI j], [], aq_h m s F (aq_u c (x + 2) (p + 40) (am_w ((c (x + 2) (p + 40)) + u)))) _
          generalize hdc_4 : aq_u c (x + 2) (p + 40) (am_w ((c (x + 2) (p + 40)) + u)) = c_4
          have sc_4 := aq_smu hs hdc_4 hSw
          refine am_E.go (t2 := (57, [vR x, vI w, vI t, vI u, vI p, vI j], [vI u], aq_h m s F c_4)) rfl rfl ?_
          refine am_E.go (t2 := (58, [vR x, vI w, vI t, vI u, vI p, vI j], [vI t, vI u], aq_h m s F c_4)) rfl rfl ?_
          refine am_E.go (t2 := (60, [vR x, vI w, vI t, vI u, vI p, vI j], [vI j, vI t, vI u], aq_h m s F c_4)) rfl rfl ?_
          refine ae_sub rfl (am_ri (by omega) (by omega)) ?_
          show am_E _ (61, [vR x, vI w, vI t, vI u, vI p, vI j], [vI (t - j), vI u], aq_h m s F c_4) _
          refine am_E.go (t2 := (62, [vR x, vI w, vI t, vI u, vI p, vI j], [vI (am_w (u * (t - j)))], aq_h m s F c_4)) rfl rfl ?_
          refine am_E.go (t2 := (64, [vR x, vI w, vI t, vI u, vI p, vI j], [vI j, vI (am_w (u * (t - j)))], aq_h m s F c_4)) rfl rfl ?_
          refine am_E.go (t2 := (65, [vR x, vI w, vI t, vI u, vI p, vI j], [vI 1, vI j, vI (am_w (u * (t - j)))], aq_h m s F c_4)) rfl rfl ?_
          refine ae_add rfl (am_ri (by omega) (by omega)) ?_
          show am_E _ (66, [vR x, vI w, vI t, vI u, vI p, vI j], [vI (j + 1), vI (am_w (u * (t - j)))], aq_h m s F c_4) _
          refine ae_bin (z := am_w ((am_w (u * (t - j))).tdiv (j + 1))) rfl rfl (am_div_s (by omega)) ?_
          show am_E _ (67, [vR x, vI w, vI t, vI u, vI p, vI j], [vI (am_w ((am_w (u * (t - j))).tdiv (j + 1)))], aq_h m s F c_4) _
          refine am_E.go (t2 := (68, [vR x, vI w, vI t, vI (am_w ((am_w (u * (t - j))).tdiv (j + 1))), vI p, vI j], [], aq_h m s F c_4)) rfl rfl ?_
          refine am_E.go (t2 := (71, [vR x, vI w, vI t, vI (am_w ((am_w (u * (t - j))).tdiv (j + 1))), vI (am_w (p + (-4))), vI j], [], aq_h m s F c_4)) rfl rfl ?_
          refine ae_iinc rfl rfl (am_ri (by omega) (by omega)) ?_
          show am_E _ (74, [vR x, vI w, vI t, vI (am_w ((am_w (u * (t - j))).tdiv (j + 1))), vI (am_w (p + (-4))), vI (j + 1)], [], aq_h m s F c_4) _
          refine am_E.go (t2 := (22, [vR x, vI w, vI t, vI (am_w ((am_w (u * (t - j))).tdiv (j + 1))), vI (am_w (p + (-4))), vI (j + 1)], [], aq_h m s F c_4)) rfl rfl ?_
          exact qn_addState_l ⟨hmx, hFx, hFl, hFw⟩ hSw ht0 ht1 d (am_w ((am_w (u * (t - j))).tdiv (j + 1))) (am_w (p + (-4))) (j + 1) c_4 sc_4 (by omega) (by omega) (by omega)

theorem qn_X1_addState {m s : Nat} {F : aq_F} {c : aq_C} {S : Nat → Prop} {x : Nat} (hX : cr_0 m F x) (hSw : S (x + 2)) {w t : Int} (ht0 : -1 ≤ t) (ht1 : t ≤ 100) : am_E ac_X1_addState (0, [vR x, vI w, vI t, vU, vU, vU], [], aq_h m s F c) (aq_Z m s F S c (fun r _ => r = none)) := by
  obtain ⟨hmx, hFx, hFl, hFw⟩ := hX
  refine am_E.go (t2 := (1, [vR x, vI w, vI t, vU, vU, vU], [vI t], aq_h m s F c)) rfl rfl ?_
  refine am_E.go (t2 := (2, [vR x, vI w, vI t, vU, vU, vU], [vI 2, vI t], aq_h m s F c)) rfl rfl ?_
  refine ae_bin (z := t.tmod 2) rfl rfl (am_rem_s (by omega)) ?_
  show am_E _ (3, [vR x, vI w, vI t, vU, vU, vU], [vI (t.tmod 2)], aq_h m s F c) _
  refine ae_if0 rfl (fun (q_1 : (t.tmod 2) ≠ 0) => ?_) (fun (q_1 : (t.tmod 2) = 0) => ?_)
  · refine am_E.go (t2 := (11, [vR x, vI w, vI t, vU, vU, vU], [vI (-1)], aq_h m s F c)) rfl rfl ?_
    refine am_E.go (t2 := (12, [vR x, vI w, vI t, vI (-1), vU, vU], [], aq_h m s F c)) rfl rfl ?_
    refine am_E.go (t2 := (13, [vR x, vI w, vI t, vI (-1), vU, vU], [vI w], aq_h m s F c)) rfl rfl ?_
    refine am_E.go (t2 := (14, [vR x, vI w, vI t, vI (-1), vU, vU], [vI 2, vI w], aq_h m s F c)) rfl rfl ?_
    refine am_E.go (t2 := (15, [vR x, vI w, vI t, vI (-1), vU, vU], [vI t, vI 2, vI w], aq_h m s F c)) rfl rfl ?_
    refine am_E.go (t2 := (16, [vR x, vI w, vI t, vI (-1), vU, vU], [vI (am_w (2 * t)), vI w], aq_h m s F c)) rfl rfl ?_
    refine am_E.go (t2 := (17, [vR x, vI w, vI t, vI (-1), vU, vU], [vI (am_w (w + (am_w (2 * t))))], aq_h m s F c)) rfl rfl ?_
    refine am_E.go (t2 := (19, [vR x, vI w, vI t, vI (-1), vI (am_w (w + (am_w (2 * t)))), vU], [], aq_h m s F c)) rfl rfl ?_
    refine am_E.go (t2 := (20, [vR x, vI w, vI t, vI (-1), vI (am_w (w + (am_w (2 * t)))), vU], [vI 0], aq_h m s F c)) rfl rfl ?_
    refine am_E.go (t2 := (22, [vR x, vI w, vI t, vI (-1), vI (am_w (w + (am_w (2 * t)))), vI 0], [], aq_h m s F c)) rfl rfl ?_
    exact qn_addState_l ⟨hmx, hFx, hFl, hFw⟩ hSw ht0 ht1 103 (-1) (am_w (w + (am_w (2 * t)))) 0 c aq_sm0 (by omega) (by omega) (by omega)
  · refine am_E.go (t2 := (7, [vR x, vI w, vI t, vU, vU, vU], [vI 1], aq_h m s F c)) rfl rfl ?_
    refine am_E.go (t2 := (11, [vR x, vI w, vI t, vU, vU, vU], [vI 1], aq_h m s F c)) rfl rfl ?_
    refine am_E.go (t2 := (12, [vR x, vI w, vI t, vI 1, vU, vU], [], aq_h m s F c)) rfl rfl ?_
    refine am_E.go (t2 := (13, [vR x, vI w, vI t, vI 1, vU, vU], [vI w], aq_h m s F c)) rfl rfl ?_
    refine am_E.go (t2 := (14, [vR x, vI w, vI t, vI 1, vU, vU], [vI 2, vI w], aq_h m s F c)) rfl rfl ?_
    refine am_E.go (t2 := (15, [vR x, vI w, vI t, vI 1, vU, vU], [vI t, vI 2, vI w], aq_h m s F c)) rfl rfl ?_
    refine am_E.go (t2 := (16, [vR x, vI w, vI t, vI 1, vU, vU], [vI (am_w (2 * t)), vI w], aq_h m s F c)) rfl rfl ?_
    refine am_E.go (t2 := (17, [vR x, vI w, vI t, vI 1, vU, vU], [vI (am_w (w + (am_w (2 * t))))], aq_h m s F c)) rfl rfl ?_
    refine am_E.go (t2 := (19, [vR x, vI w, vI t, vI 1, vI (am_w (w + (am_w (2 * t)))), vU], [], aq_h m s F c)) rfl rfl ?_
    refine am_E.go (t2 := (20, [vR x, vI w, vI t, vI 1, vI (am_w (w + (am_w (2 * t)))), vU], [vI 0], aq_h m s F c)) rfl rfl ?_
    refine am_E.go (t2 := (22, [vR x, vI w, vI t, vI 1, vI (am_w (w + (am_w (2 * t)))), vI 0], [], aq_h m s F c)) rfl rfl ?_
    exact qn_addState_l ⟨hmx, hFx, hFl, hFw⟩ hSw ht0 ht1 103 1 (am_w (w + (am_w (2 * t)))) 0 c aq_sm0 (by omega) (by omega) (by omega)

theorem qn_addStates_in {m s : Nat} {F : aq_F} {c0 : aq_C} {S : Nat → Prop} {x : Nat} (hX : cr_0 m F x) (hSw : S (x + 2)) (hnx : ¬ S x) (hny : ¬ S (x + 1)) (hl : cr_l x c0) {o n K : Nat} (hB : bx_0 m F o n K) (hSd : S (o + 6 + 3 * K)) (hSs : S (o + 7 + 3 * K)) (hxn : c0 x 0 = (n : Int)) (hdx : o + 6 + 3 * K ≠ x + 2) {tL : Int → Int} {tG tN : Int → Int → Int} (hT : bx_w F o n K tL tG tN) {tR : Int → Int} (hRr : bx_r F o K tR) (hst : 0 ≤ nu_o (bx_ol n 0) (2 * (n : Int)) 9 0 0 (2 * (n : Int) - 1) ∧ nu_o (bx_ol n 0) (2 * (n : Int)) 9 0 0 (2 * (n : Int) - 1) < (K : Int)) {b : Int} : ∀ (d : Nat) (st : Int) (t : Int) (r : Int) (w : Int) (i : Int) (v8 : am_V) (v9 : am_V) (c : aq_C) (hs : aq_sm S c0 c) (h0 : 0 ≤ i) (h1 : i ≤ c0 x 1) (h2 : 0 ≤ t) (h3 : t < (K : Int)) (h4 : 0 ≤ r) (h5 : r ≤ 5 * i) (hr : aq_rg (o + 6 + 3 * K) (2 * (n : Int)) 0 (2 * (n : Int)) c) (hd : c0 x 1 - i < (d : Int)) (K0 : ∀ (t2 : Int) (r2 : Int) (w2 : Int) (i2 : Int) (v82 : am_V) (v92 : am_V) (c2 : aq_C) (hs2 : aq_sm S c0 c2) (f1 : 0 ≤ t2) (f2 : t2 < (K : Int)) (f3 : 0 ≤ r2) (f4 : r2 ≤ 40) (hr2 : aq_rg (o + 6 + 3 * K) (2 * (n : Int)) 0 (2 * (n : Int)) c2), am_E ac_X1_addStates (162, [vR x, vR o, vI b, vI st, vI t2, vI r2, vI w2, vI i2, v82, v92], [], aq_h m s F c2) (aq_Z m s F S c0 (fun r d => r = none ∧ aq_rg (o + 6 + 3 * K) (2 * (n : Int)) 0 (2 * (n : Int)) d))), am_E ac_X1_addStates (54, [vR x, vR o, vI b, vI st, vI t, vI r, vI w, vI i, v8, v9], [], aq_h m s F c) (aq_Z m s F S c0 (fun r d => r = none ∧ aq_rg (o + 6 + 3 * K) (2 * (n : Int)) 0 (2 * (n : Int)) d))
  | 0, st, t, r, w, i, v8, v9, c, hs, h0, h1, h2, h3, h4, h5, hr, hd, K0 => by exfalso; omega
  | d + 1, st, t, r, w, i, v8, v9, c, hs, h0, h1, h2, h3, h4, h5, hr, hd, K0 => by
    obtain ⟨hmx, hFx, hFl, hFw⟩ := hX
    obtain ⟨hm, hn1, hn4, hK, hFo, hFd, hFs⟩ := hB
    obtain ⟨hL, hGg, hGr, hNg, hNr, hLt, hGt, hNt⟩ := hT
    obtain ⟨hR, hRt⟩ := hRr
    obtain ⟨hl0, hl1, hl2, hl3, hl4⟩ := hl
    refine am_E.go (t2 := (56, [vR x, vR o, vI b, vI st, vI t, vI r, vI w, vI i, v8, v9], [vI i], aq_h m s F c)) rfl rfl ?_
    refine am_E.go (t2 := (57, [vR x, vR o, vI b, vI st, vI t, vI r, vI w, vI i, v8, v9], [vR x, vI i], aq_h m s F c)) rfl rfl ?_
    refine aq_gf (v := vI (c x 1)) rfl (by omega) hFx (by decide) rfl ?_
    show am_E _ (60, [vR x, vR o, vI b, vI st, vI t, vI r, vI w, vI i, v8, v9], [vI (c x 1), vI i], aq_h m s F c) _
    have f_1 := hs x hnx 1
    refine ae_icmp rfl (fun (q_2 : (c x 1) ≤ i) => ?_) (fun (q_2 : i < (c x 1)) => ?_)
    · exact K0 t r w i (v8) (v9) c hs (by omega) (by omega) (by omega) (by omega) hr
    · refine am_E.go (t2 := (64, [vR x, vR o, vI b, vI st, vI t, vI r, vI w, vI i, v8, v9], [vI st], aq_h m s F c)) rfl rfl ?_
      refine am_E.go (t2 := (66, [vR x, vR o, vI b, vI st, vI t, vI r, vI w, vI i, v8, v9], [vI i, vI st], aq_h m s F c)) rfl rfl ?_
      refine am_E.go (t2 := (67, [vR x, vR o, vI b, vI st, vI t, vI r, vI w, vI i, v8, v9], [vI (am_shri st i)], aq_h m s F c)) rfl rfl ?_
      refine am_E.go (t2 := (68, [vR x, vR o, vI b, vI st, vI t, vI r, vI w, vI i, v8, v9], [vI 1, vI (am_shri st i)], aq_h m s F c)) rfl rfl ?_
      refine am_E.go (t2 := (69, [vR x, vR o, vI b, vI st, vI t, vI r, vI w, vI i, v8, v9], [vI (am_and (am_shri st i) 1)], aq_h m s F c)) rfl rfl ?_
      refine am_E.go (t2 := (70, [vR x, vR o, vI b, vI st, vI t, vI r, vI w, vI i, v8, v9], [vI 1, vI (am_and (am_shri st i) 1)], aq_h m s F c)) rfl rfl ?_
      refine ae_icmp rfl (fun (q_3 : (am_and (am_shri st i) 1) ≠ 1) => ?_) (fun (q_3 : (am_and (am_shri st i) 1) = 1) => ?_)
      · refine am_E.go (t2 := (78, [vR x, vR o, vI b, vI st, vI t, vI r, vI w, vI i, v8, v9], [vI 0], aq_h m s F c)) rfl rfl ?_
        refine am_E.go (t2 := (80, [vR x, vR o, vI b, vI st, vI t, vI r, vI w, vI i, vI 0, v9], [], aq_h m s F c)) rfl rfl ?_
        refine am_E.go (t2 := (82, [vR x, vR o, vI b, vI st, vI t, vI r, vI w, vI i, vI 0, v9], [vI w], aq_h m s F c)) rfl rfl ?_
        refine am_E.go (t2 := (84, [vR x, vR o, vI b, vI st, vI t, vI r, vI w, vI i, vI 0, v9], [vI 0, vI w], aq_h m s F c)) rfl rfl ?_
        refine am_E.go (t2 := (85, [vR x, vR o, vI b, vI st, vI t, vI r, vI w, vI i, vI 0, v9], [vR x, vI 0, vI w], aq_h m s F c)) rfl rfl ?_
        refine aq_gf (v := vR (x + 1)) rfl (by omega) hFx (by decide) rfl ?_
        show am_E _ (88, [vR x, vR o, vI b, vI st, vI t, vI r, vI w, vI i, vI 0, v9], [vR (x + 1), vI 0, vI w], aq_h m s F c) _
        refine am_E.go (t2 := (90, [vR x, vR o, vI b, vI st, vI t, vI r, vI w, vI i, vI 0, v9], [vI i, vR (x + 1), vI 0, vI w], aq_h m s F c)) rfl rfl ?_
        refine aq_al (ok := fun k => k == 0) (v := vI (c (x + 1) i)) rfl rfl (by omega) hFl rfl (by omega) (by omega) rfl ?_
        show am_E _ (91, [vR x, vR o, vI b, vI st, vI t, vI r, vI w, vI i, vI 0, v9], [vI (c (x + 1) i), vI 0, vI w], aq_h m s F c) _
        have f_4 := hs (x + 1) hny i
        have f_4b := hl4 i (by omega) (by omega)
        refine ae_if0 rfl (fun (q_5 : 0 ≤ (c (x + 1) i)) => ?_) (fun (q_5 : (c (x + 1) i) < 0) => ?_)
        · refine am_E.go (t2 := (99, [vR x, vR o, vI b, vI st, vI t, vI r, vI w, vI i, vI 0, v9], [vI 0, vI 0, vI w], aq_h m s F c)) rfl rfl ?_
          refine am_E.go (t2 := (102, [vR x, vR o, vI b, vI st, vI t, vI r, vI w, vI i, vI 0, v9], [vI w], aq_h m s F c)) rfl rfl ?_
          refine am_E.go (t2 := (103, [vR x, vR o, vI b, vI st, vI t, vI r, vI w, vI i, vI 0, v9], [vI 1, vI w], aq_h m s F c)) rfl rfl ?_
          refine am_E.go (t2 := (107, [vR x, vR o, vI b, vI st, vI t, vI r, vI w, vI i, vI 0, v9], [vI 1, vI w], aq_h m s F c)) rfl rfl ?_
          refine am_E.go (t2 := (108, [vR x, vR o, vI b, vI st, vI t, vI r, vI w, vI i, vI 0, v9], [vI (am_w (w + 1))], aq_h m s F c)) rfl rfl ?_
          refine am_E.go (t2 := (110, [vR x, vR o, vI b, vI st, vI t, vI r, vI (am_w (w + 1)), vI i, vI 0, v9], [], aq_h m s F c)) rfl rfl ?_
          refine am_E.go (t2 := (112, [vR x, vR o, vI b, vI st, vI t, vI r, vI (am_w (w + 1)), vI i, vI 0, v9], [vI 0], aq_h m s F c)) rfl rfl ?_
          refine am_E.go (t2 := (156, [vR x, vR o, vI b, vI st, vI t, vI r, vI (am_w (w + 1)), vI i, vI 0, v9], [], aq_h m s F c)) rfl rfl ?_
          refine ae_iinc rfl rfl (am_ri (by omega) (by omega)) ?_
          show am_E _ (159, [vR x, vR o, vI b, vI st, vI t, vI r, vI (am_w (w + 1)), vI (i + 1), vI 0, v9], [], aq_h m s F c) _
          refine am_E.go (t2 := (54, [vR x, vR o, vI b, vI st, vI t, vI r, vI (am_w (w + 1)), vI (i + 1), vI 0, v9], [], aq_h m s F c)) rfl rfl ?_
          exact qn_addStates_in ⟨hmx, hFx, hFl, hFw⟩ hSw hnx hny ⟨hl0, hl1, hl2, hl3, hl4⟩ ⟨hm, hn1, hn4, hK, hFo, hFd, hFs⟩ hSd hSs hxn hdx ⟨hL, hGg, hGr, hNg, hNr, hLt, hGt, hNt⟩ ⟨hR, hRt⟩ hst d st t r (am_w (w + 1)) (i + 1) (vI 0) (v9) c hs (by omega) (by omega) (by omega) (by omega) (by omega) (by omega) hr (by omega) K0
        · refine am_E.go (t2 := (95, [vR x, vR o, vI b, vI st, vI t, vI r, vI w, vI i, vI 0, v9], [vI 1, vI 0, vI w], aq_h m s F c)) rfl rfl ?_
          refine am_E.go (t2 := (99, [vR x, vR o, vI b, vI st, vI t, vI r, vI w, vI i, vI 0, v9], [vI 1, vI 0, vI w], aq_h m s F c)) rfl rfl ?_
          refine am_E.go (t2 := (106, [vR x, vR o, vI b, vI st, vI t, vI r, vI w, vI i, vI 0, v9], [vI w], aq_h m s F c)) rfl rfl ?_
          refine am_E.go (t2 := (107, [vR x, vR o, vI b, vI st, vI t, vI r, vI w, vI i, vI 0, v9], [vI (-1), vI w], aq_h m s F c)) rfl rfl ?_
          refine am_E.go (t2 := (108, [vR x, vR o, vI b, vI st, vI t, vI r, vI w, vI i, vI 0, v9], [vI (am_w (w + (-1)))], aq_h m s F c)) rfl rfl ?_
          refine am_E.go (t2 := (110, [vR x, vR o, vI b, vI st, vI t, vI r, vI (am_w (w + (-1))), vI i, vI 0, v9], [], aq_h m s F c)) rfl rfl ?_
          refine am_E.go (t2 := (112, [vR x, vR o, vI b, vI st, vI t, vI r, vI (am_w (w + (-1))), vI i, vI 0, v9], [vI 0], aq_h m s F c)) rfl rfl ?_
          refine am_E.go (t2 := (156, [vR x, vR o, vI b, vI st, vI t, vI r, vI (am_w (w + (-1))), vI i, vI 0, v9], [], aq_h m s F c)) rfl rfl ?_
          refine ae_iinc rfl rfl (am_ri (by omega) (by omega)) ?_
          show am_E _ (159, [vR x, vR o, vI b, vI st, vI t, vI r, vI (am_w (w + (-1))), vI (i + 1), vI 0, v9], [], aq_h m s F c) _
          refine am_E.go (t2 := (54, [vR x, vR o, vI b, vI st, vI t, vI r, vI (am_w (w + (-1))), vI (i + 1), vI 0, v9], [], aq_h m s F c)) rfl rfl ?_
          exact qn_addStates_in ⟨hmx, hFx, hFl, hFw⟩ hSw hnx hny ⟨hl0, hl1, hl2, hl3, hl4⟩ ⟨hm, hn1, hn4, hK, hFo, hFd, hFs⟩ hSd hSs hxn hdx ⟨hL, hGg, hGr, hNg, hNr, hLt, hGt, hNt⟩ ⟨hR, hRt⟩ hst d st t r (am_w (w + (-1))) (i + 1) (vI 0) (v9) c hs (by omega) (by omega) (by omega) (by omega) (by omega) (by omega) hr (by omega) K0
      · refine am_E.go (t2 := (74, [vR x, vR o, vI b, vI st, vI t, vI r, vI w, vI i, v8, v9], [vI 1], aq_h m s F c)) rfl rfl ?_
        refine am_E.go (t2 := (78, [vR x, vR o, vI b, vI st, vI t, vI r, vI w, vI i, v8, v9], [vI 1], aq_h m s F c)) rfl rfl ?_
        refine am_E.go (t2 := (80, [vR x, vR o, vI b, vI st, vI t, vI r, vI w, vI i, vI 1, v9], [], aq_h m s F c)) rfl rfl ?_
        refine am_E.go (t2 := (82, [vR x, vR o, vI b, vI st, vI t, vI r, vI w, vI i, vI 1, v9], [vI w], aq_h m s F c)) rfl rfl ?_
        refine am_E.go (t2 := (84, [vR x, vR o, vI b, vI st, vI t, vI r, vI w, vI i, vI 1, v9], [vI 1, vI w], aq_h m s F c)) rfl rfl ?_
        refine am_E.go (t2 := (85, [vR x, vR o, vI b, vI st, vI t, vI r, vI w, vI i, vI 1, v9], [vR x, vI 1, vI w], aq_h m s F c)) rfl rfl ?_
        refine aq_gf (v := vR (x + 1)) rfl (by omega) hFx (by decide) rfl ?_
        show am_E _ (88, [vR x, vR o, vI b, vI st, vI t, vI r, vI w, vI i, vI 1, v9], [vR (x + 1), vI 1, vI w], aq_h m s F c) _
        refine am_E.go (t2 := (90, [vR x, vR o, vI b, vI st, vI t, vI r, vI w, vI i, vI 1, v9], [vI i, vR (x + 1), vI 1, vI w], aq_h m s F c)) rfl rfl ?_
        refine aq_al (ok := fun k => k == 0) (v := vI (c (x + 1) i)) rfl rfl (by omega) hFl rfl (by omega) (by omega) rfl ?_
        show am_E _ (91, [vR x, vR o, vI b, vI st, vI t, vI r, vI w, vI i, vI 1, v9], [vI (c (x + 1) i), vI 1, vI w], aq_h m s F c) _
        have f_6 := hs (x + 1) hny i
        have f_6b := hl4 i (by omega) (by omega)
        refine ae_if0 rfl (fun (q_7 : 0 ≤ (c (x + 1) i)) => ?_) (fun (q_7 : (c (x + 1) i) < 0) => ?_)
        · refine am_E.go (t2 := (99, [vR x, vR o, vI b, vI st, vI t, vI r, vI w, vI i, vI 1, v9], [vI 0, vI 1, vI w], aq_h m s F c)) rfl rfl ?_
          refine am_E.go (t2 := (106, [vR x, vR o, vI b, vI st, vI t, vI r, vI w, vI i, vI 1, v9], [vI w], aq_h m s F c)) rfl rfl ?_
          refine am_E.go (t2 := (107, [vR x, vR o, vI b, vI st, vI t, vI r, vI w, vI i, vI 1, v9], [vI (-1), vI w], aq_h m s F c)) rfl rfl ?_
          refine am_E.go (t2 := (108, [vR x, vR o, vI b, vI st, vI t, vI r, vI w, vI i, vI 1, v9], [vI (am_w (w + (-1)))], aq_h m s F c)) rfl rfl ?_
          refine am_E.go (t2 := (110, [vR x, vR o, vI b, vI st, vI t, vI r, vI (am_w (w + (-1))), vI i, vI 1, v9], [], aq_h m s F c)) rfl rfl ?_
          refine am_E.go (t2 := (112, [vR x, vR o, vI b, vI st, vI t, vI r, vI (am_w (w + (-1))), vI i, vI 1, v9], [vI 1], aq_h m s F c)) rfl rfl ?_
          refine am_E.go (t2 := (115, [vR x, vR o, vI b, vI st, vI t, vI r, vI (am_w (w + (-1))), vI i, vI 1, v9], [], aq_h m s F c)) rfl rfl ?_
          refine am_E.go (t2 := (116, [vR x, vR o, vI b, vI st, vI t, vI r, vI (am_w (w + (-1))), vI i, vI 1, v9], [vR o], aq_h m s F c)) rfl rfl ?_
          refine aq_gf (v := vR (o + 5 + 2 * K)) rfl (by omega) hFo (by decide) rfl ?_
          show am_E _ (119, [vR x, vR o, vI b, vI st, vI t, vI r, vI (am_w (w + (-1))), vI i, vI 1, v9], [vR (o + 5 + 2 * K)], aq_h m s F c) _
          refine am_E.go (t2 := (121, [vR x, vR o, vI b, vI st, vI t, vI r, vI (am_w (w + (-1))), vI i, vI 1, v9], [vI t, vR (o + 5 + 2 * K)], aq_h m s F c)) rfl rfl ?_
          refine aq_al (ok := fun k => decide (3 ≤ k) && decide (k < 7)) (v := vR (o + 6 + 2 * K + t.toNat)) rfl rfl (by omega) hNg rfl (by omega) (by omega) (aq_gi (by omega)) ?_
          show am_E _ (122, [vR x, vR o, vI b, vI st, vI t, vI r, vI (am_w (w + (-1))), vI i, vI 1, v9], [vR (o + 6 + 2 * K + t.toNat)], aq_h m s F c) _
          refine am_E.go (t2 := (123, [vR x, vR o, vI b, vI st, vI t, vI r, vI (am_w (w + (-1))), vI i, vI 1, v9], [vR x, vR (o + 6 + 2 * K + t.toNat)], aq_h m s F c)) rfl rfl ?_
          refine aq_gf (v := vR (x + 1)) rfl (by omega) hFx (by decide) rfl ?_
          show am_E _ (126, [vR x, vR o, vI b, vI st, vI t, vI r, vI (am_w (w + (-1))), vI i, vI 1, v9], [vR (x + 1), vR (o + 6 + 2 * K + t.toNat)], aq_h m s F c) _
          refine am_E.go (t2 := (128, [vR x, vR o, vI b, vI st, vI t, vI r, vI (am_w (w + (-1))), vI i, vI 1, v9], [vI i, vR (x + 1), vR (o + 6 + 2 * K + t.toNat)], aq_h m s F c)) rfl rfl ?_
          refine aq_al (ok := fun k => k == 0) (v := vI (c (x + 1) i)) rfl rfl (by omega) hFl rfl (by omega) (by omega) rfl ?_
          show am_E _ (129, [vR x, vR o, vI b, vI st, vI t, vI r, vI (am_w (w + (-1))), vI i, vI 1, v9], [vI (c (x + 1) i), vR (o + 6 + 2 * K + t.toNat)], aq_h m s F c) _
          have f_8 := hs (x + 1) hny i
          have f_8b := hl4 i (by omega) (by omega)
          refine am_E.call rfl rfl rfl (Nat.le_of_ble_eq_true rfl) (rn_J9_abs (by omega) (by omega) _) ?_
          rintro r5 h5 ⟨rfl, v_9, rfl, hv_9⟩
          show am_E _ (132, [vR x, vR o, vI b, vI st, vI t, vI r, vI (am_w (w + (-1))), vI i, vI 1, v9], [vI v_9, vR (o + 6 + 2 * K + t.toNat)], aq_h m s F c) _
          refine am_E.go (t2 := (133, [vR x, vR o, vI b, vI st, vI t, vI r, vI (am_w (w + (-1))), vI i, vI 1, v9], [vI 1, vI v_9, vR (o + 6 + 2 * K + t.toNat)], aq_h m s F c)) rfl rfl ?_
          refine ae_sub rfl (am_ri (by omega) (by omega)) ?_
          show am_E _ (134, [vR x, vR o, vI b, vI st, vI t, vI r, vI (am_w (w + (-1))), vI i, vI 1, v9], [vI (v_9 - 1), vR (o + 6 + 2 * K + t.toNat)], aq_h m s F c) _
          refine aq_alt (ok := fun k => k == 0) rfl rfl (by omega) (hNr _ (by omega)) rfl (by omega) (by omega) ?_
          show am_E _ (135, [vR x, vR o, vI b, vI st, vI t, vI r, vI (am_w (w + (-1))), vI i, vI 1, v9], [vI (tN ((t.toNat : Nat) : Int) (v_9 - 1))], aq_h m s F c) _
          have f_10 := hNt ((t.toNat : Nat) : Int) (v_9 - 1) (by omega) (by omega) (by omega) (by omega)
          refine am_E.go (t2 := (137, [vR x, vR o, vI b, vI st, vI t, vI r, vI (am_w (w + (-1))), vI i, vI 1, vI (tN ((t.toNat : Nat) : Int) (v_9 - 1))], [], aq_h m s F c)) rfl rfl ?_
          refine am_E.go (t2 := (139, [vR x, vR o, vI b, vI st, vI t, vI r, vI (am_w (w + (-1))), vI i, vI 1, vI (tN ((t.toNat : Nat) : Int) (v_9 - 1))], [vI (tN ((t.toNat : Nat) : Int) (v_9 - 1))], aq_h m s F c)) rfl rfl ?_
          refine am_E.go (t2 := (142, [vR x, vR o, vI b, vI st, vI t, vI r, vI (am_w (w + (-1))), vI i, vI 1, vI (tN ((t.toNat : Nat) : Int) (v_9 - 1))], [vI 1000, vI (tN ((t.toNat : Nat) : Int) (v_9 - 1))], aq_h m s F c)) rfl rfl ?_
          refine ae_bin (z := (tN ((t.toNat : Nat) : Int) (v_9 - 1)) % 1000) rfl rfl (am_rem_e (by omega) (by decide)) ?_
          show am_E _ (143, [vR x, vR o, vI b, vI st, vI t, vI r, vI (am_w (w + (-1))), vI i, vI 1, vI (tN ((t.toNat : Nat) : Int) (v_9 - 1))], [vI ((tN ((t.toNat : Nat) : Int) (v_9 - 1)) % 1000)], aq_h m s F c) _
          refine am_E.go (t2 := (145, [vR x, vR o, vI b, vI st, vI ((tN ((t.toNat : Nat) : Int) (v_9 - 1)) % 1000), vI r, vI (am_w (w + (-1))), vI i, vI 1, vI (tN ((t.toNat : Nat) : Int) (v_9 - 1))], [], aq_h m s F c)) rfl rfl ?_
          refine am_E.go (t2 := (147, [vR x, vR o, vI b, vI st, vI ((tN ((t.toNat : Nat) : Int) (v_9 - 1)) % 1000), vI r, vI (am_w (w + (-1))), vI i, vI 1, vI (tN ((t.toNat : Nat) : Int) (v_9 - 1))], [vI r], aq_h m s F c)) rfl rfl ?_
          refine am_E.go (t2 := (149, [vR x, vR o, vI b, vI st, vI ((tN ((t.toNat : Nat) : Int) (v_9 - 1)) % 1000), vI r, vI (am_w (w + (-1))), vI i, vI 1, vI (tN ((t.toNat : Nat) : Int) (v_9 - 1))], [vI (tN ((t.toNat : Nat) : Int) (v_9 - 1)), vI r], aq_h m s F c)) rfl rfl ?_
          refine am_E.go (t2 := (152, [vR x, vR o, vI b, vI st, vI ((tN ((t.toNat : Nat) : Int) (v_9 - 1)) % 1000), vI r, vI (am_w (w + (-1))), vI i, vI 1, vI (tN ((t.toNat : Nat) : Int) (v_9 - 1))], [vI 1000, vI (tN ((t.toNat : Nat) : Int) (v_9 - 1)), vI r], aq_h m s F c)) rfl rfl ?_
          refine ae_bin (z := (tN ((t.toNat : Nat) : Int) (v_9 - 1)) / 1000) rfl rfl (am_div_e (by omega) (by omega) (by decide)) ?_
          show am_E _ (153, [vR x, vR o, vI b, vI st, vI ((tN ((t.toNat : Nat) : Int) (v_9 - 1)) % 1000), vI r, vI (am_w (w + (-1))), vI i, vI 1, vI (tN ((t.toNat : Nat) : Int) (v_9 - 1))], [vI ((tN ((t.toNat : Nat) : Int) (v_9 - 1)) / 1000), vI r], aq_h m s F c) _
          refine ae_add rfl (am_ri (by omega) (by omega)) ?_
          show am_E _ (154, [vR x, vR o, vI b, vI st, vI ((tN ((t.toNat : Nat) : Int) (v_9 - 1)) % 1000), vI r, vI (am_w (w + (-1))), vI i, vI 1, vI (tN ((t.toNat : Nat) : Int) (v_9 - 1))], [vI (r + ((tN ((t.toNat : Nat) : Int) (v_9 - 1)) / 1000))], aq_h m s F c) _
          refine am_E.go (t2 := (156, [vR x, vR o, vI b, vI st, vI ((tN ((t.toNat : Nat) : Int) (v_9 - 1)) % 1000), vI (r + ((tN ((t.toNat : Nat) : Int) (v_9 - 1)) / 1000)), vI (am_w (w + (-1))), vI i, vI 1, vI (tN ((t.toNat : Nat) : Int) (v_9 - 1))], [], aq_h m s F c)) rfl rfl ?_
          refine ae_iinc rfl rfl (am_ri (by omega) (by omega)) ?_
          show am_E _ (159, [vR x, vR o, vI b, vI st, vI ((tN ((t.toNat : Nat) : Int) (v_9 - 1)) % 1000), vI (r + ((tN ((t.toNat : Nat) : Int) (v_9 - 1)) / 1000)), vI (am_w (w + (-1))), vI (i + 1), vI 1, vI (tN ((t.toNat : Nat) : Int) (v_9 - 1))], [], aq_h m s F c) _
          refine am_E.go (t2 := (54, [vR x, vR o, vI b, vI st, vI ((tN ((t.toNat : Nat) : Int) (v_9 - 1)) % 1000), vI (r + ((tN ((t.toNat : Nat) : Int) (v_9 - 1)) / 1000)), vI (am_w (w + (-1))), vI (i + 1), vI 1, vI (tN ((t.toNat : Nat) : Int) (v_9 - 1))], [], aq_h m s F c)) rfl rfl ?_
          exact qn_addStates_in ⟨hmx, hFx, hFl, hFw⟩ hSw hnx hny ⟨hl0, hl1, hl2, hl3, hl4⟩ ⟨hm, hn1, hn4, hK, hFo, hFd, hFs⟩ hSd hSs hxn hdx ⟨hL, hGg, hGr, hNg, hNr, hLt, hGt, hNt⟩ ⟨hR, hRt⟩ hst d st ((tN ((t.toNat : Nat) : Int) (v_9 - 1)) % 1000) (r + ((tN ((t.toNat : Nat) : Int) (v_9 - 1)) / 1000)) (am_w (w + (-1))) (i + 1) (vI 1) (vI (tN ((t.toNat : Nat) : Int) (v_9 - 1))) c hs (by omega) (by omega) (by omega) (by omega) (by omega) (by omega) hr (by omega) K0
        · refine am_E.go (t2 := (95, [vR x, vR o, vI b, vI st, vI t, vI r, vI w, vI i, vI 1, v9], [vI 1, vI 1, vI w], aq_h m s F c)) rfl rfl ?_
          refine am_E.go (t2 := (99, [vR x, vR o, vI b, vI st, vI t, vI r, vI w, vI i, vI 1, v9], [vI 1, vI 1, vI w], aq_h m s F c)) rfl rfl ?_
          refine am_E.go (t2 := (102, [vR x, vR o, vI b, vI st, vI t, vI r, vI w, vI i, vI 1, v9], [vI w], aq_h m s F c)) rfl rfl ?_
          refine am_E.go (t2 := (103, [vR x, vR o, vI b, vI st, vI t, vI r, vI w, vI i, vI 1, v9], [vI 1, vI w], aq_h m s F c)) rfl rfl ?_
          refine am_E.go (t2 := (107, [vR x, vR o, vI b, vI st, vI t, vI r, vI w, vI i, vI 1, v9], [vI 1, vI w], aq_h m s F c)) rfl rfl ?_
          refine am_E.go (t2 := (108, [vR x, vR o, vI b, vI st, vI t, vI r, vI w, vI i, vI 1, v9], [vI (am_w (w + 1))], aq_h m s F c)) rfl rfl ?_
          refine am_E.go (t2 := (110, [vR x, vR o, vI b, vI st, vI t, vI r, vI (am_w (w + 1)), vI i, vI 1, v9], [], aq_h m s F c)) rfl rfl ?_
          refine am_E.go (t2 := (112, [vR x, vR o, vI b, vI st, vI t, vI r, vI (am_w (w + 1)), vI i, vI 1, v9], [vI 1], aq_h m s F c)) rfl rfl ?_
          refine am_E.go (t2 := (115, [vR x, vR o, vI b, vI st, vI t, vI r, vI (am_w (w + 1)), vI i, vI 1, v9], [], aq_h m s F c)) rfl rfl ?_
          refine am_E.go (t2 := (116, [vR x, vR o, vI b, vI st, vI t, vI r, vI (am_w (w + 1)), vI i, vI 1, v9], [vR o], aq_h m s F c)) rfl rfl ?_
          refine aq_gf (v := vR (o + 5 + 2 * K)) rfl (by omega) hFo (by decide) rfl ?_
          show am_E _ (119, [vR x, vR o, vI b, vI st, vI t, vI r, vI (am_w (w + 1)), vI i, vI 1, v9], [vR (o + 5 + 2 * K)], aq_h m s F c) _
          refine am_E.go (t2 := (121, [vR x, vR o, vI b, vI st, vI t, vI r, vI (am_w (w + 1)), vI i, vI 1, v9], [vI t, vR (o + 5 + 2 * K)], aq_h m s F c)) rfl rfl ?_
          refine aq_al (ok := fun k => decide (3 ≤ k) && decide (k < 7)) (v := vR (o + 6 + 2 * K + t.toNat)) rfl rfl (by omega) hNg rfl (by omega) (by omega) (aq_gi (by omega)) ?_
          show am_E _ (122, [vR x, vR o, vI b, vI st, vI t, vI r, vI (am_w (w + 1)), vI i, vI 1, v9], [vR (o + 6 + 2 * K + t.toNat)], aq_h m s F c) _
          refine am_E.go (t2 := (123, [vR x, vR o, vI b, vI st, vI t, vI r, vI (am_w (w + 1)), vI i, vI 1, v9], [vR x, vR (o + 6 + 2 * K + t.toNat)], aq_h m s F c)) rfl rfl ?_
          refine aq_gf (v := vR (x + 1)) rfl (by omega) hFx (by decide) rfl ?_
          show am_E _ (126, [vR x, vR o, vI b, vI st, vI t, vI r, vI (am_w (w + 1)), vI i, vI 1, v9], [vR (x + 1), vR (o + 6 + 2 * K + t.toNat)], aq_h m s F c) _
          refine am_E.go (t2 := (128, [vR x, vR o, vI b, vI st, vI t, vI r, vI (am_w (w + 1)), vI i, vI 1, v9], [vI i, vR (x + 1), vR (o + 6 + 2 * K + t.toNat)], aq_h m s F c)) rfl rfl ?_
          refine aq_al (ok := fun k => k == 0) (v := vI (c (x + 1) i)) rfl rfl (by omega) hFl rfl (by omega) (by omega) rfl ?_
          show am_E _ (129, [vR x, vR o, vI b, vI st, vI t, vI r, vI (am_w (w + 1)), vI i, vI 1, v9], [vI (c (x + 1) i), vR (o + 6 + 2 * K + t.toNat)], aq_h m s F c) _
          have f_11 := hs (x + 1) hny i
          have f_11b := hl4 i (by omega) (by omega)
          refine am_E.call rfl rfl rfl (Nat.le_of_ble_eq_true rfl) (rn_J9_abs (by omega) (by omega) _) ?_
          rintro r5 h5 ⟨rfl, v_12, rfl, hv_12⟩
          show am_E _ (132, [vR x, vR o, vI b, vI st, vI t, vI r, vI (am_w (w + 1)), vI i, vI 1, v9], [vI v_12, vR (o + 6 + 2 * K + t.toNat)], aq_h m s F c) _
          refine am_E.go (t2 := (133, [vR x, vR o, vI b, vI st, vI t, vI r, vI (am_w (w + 1)), vI i, vI 1, v9], [vI 1, vI v_12, vR (o + 6 + 2 * K + t.toNat)], aq_h m s F c)) rfl rfl ?_
          refine ae_sub rfl (am_ri (by omega) (by omega)) ?_
          show am_E _ (134, [vR x, vR o, vI b, vI st, vI t, vI r, vI (am_w (w + 1)), vI i, vI 1, v9], [vI (v_12 - 1), vR (o + 6 + 2 * K + t.toNat)], aq_h m s F c) _
          refine aq_alt (ok := fun k => k == 0) rfl rfl (by omega) (hNr _ (by omega)) rfl (by omega) (by omega) ?_
          show am_E _ (135, [vR x, vR o, vI b, vI st, vI t, vI r, vI (am_w (w + 1)), vI i, vI 1, v9], [vI (tN ((t.toNat : Nat) : Int) (v_12 - 1))], aq_h m s F c) _
          have f_13 := hNt ((t.toNat : Nat) : Int) (v_12 - 1) (by omega) (by omega) (by omega) (by omega)
          refine am_E.go (t2 := (137, [vR x, vR o, vI b, vI st, vI t, vI r, vI (am_w (w + 1)), vI i, vI 1, vI (tN ((t.toNat : Nat) : Int) (v_12 - 1))], [], aq_h m s F c)) rfl rfl ?_
          refine am_E.go (t2 := (139, [vR x, vR o, vI b, vI st, vI t, vI r, vI (am_w (w + 1)), vI i, vI 1, vI (tN ((t.toNat : Nat) : Int) (v_12 - 1))], [vI (tN ((t.toNat : Nat) : Int) (v_12 - 1))], aq_h m s F c)) rfl rfl ?_
          refine am_E.go (t2 := (142, [vR x, vR o, vI b, vI st, vI t, vI r, vI (am_w (w + 1)), vI i, vI 1, vI (tN ((t.toNat : Nat) : Int) (v_12 - 1))], [vI 1000, vI (tN ((t.toNat : Nat) : Int) (v_12 - 1))], aq_h m s F c)) rfl rfl ?_
          refine ae_bin (z := (tN ((t.toNat : Nat) : Int) (v_12 - 1)) % 1000) rfl rfl (am_rem_e (by omega) (by decide)) ?_
          show am_E _ (143, [vR x, vR o, vI b, vI st, vI t, vI r, vI (am_w (w + 1)), vI i, vI 1, vI (tN ((t.toNat : Nat) : Int) (v_12 - 1))], [vI ((tN ((t.toNat : Nat) : Int) (v_12 - 1)) % 1000)], aq_h m s F c) _
          refine am_E.go (t2 := (145, [vR x, vR o, vI b, vI st, vI ((tN ((t.toNat : Nat) : Int) (v_12 - 1)) % 1000), vI r, vI (am_w (w + 1)), vI i, vI 1, vI (tN ((t.toNat : Nat) : Int) (v_12 - 1))], [], aq_h m s F c)) rfl rfl ?_
          refine am_E.go (t2 := (147, [vR x, vR o, vI b, vI st, vI ((tN ((t.toNat : Nat) : Int) (v_12 - 1)) % 1000), vI r, vI (am_w (w + 1)), vI i, vI 1, vI (tN ((t.toNat : Nat) : Int) (v_12 - 1))], [vI r], aq_h m s F c)) rfl rfl ?_
          refine am_E.go (t2 := (149, [vR x, vR o, vI b, vI st, vI ((tN ((t.toNat : Nat) : Int) (v_12 - 1)) % 1000), vI r, vI (am_w (w + 1)), vI i, vI 1, vI (tN ((t.toNat : Nat) : Int) (v_12 - 1))], [vI (tN ((t.toNat : Nat) : Int) (v_12 - 1)), vI r], aq_h m s F c)) rfl rfl ?_
          refine am_E.go (t2 := (152, [vR x, vR o, vI b, vI st, vI ((tN ((t.toNat : Nat) : Int) (v_12 - 1)) % 1000), vI r, vI (am_w (w + 1)), vI i, vI 1, vI (tN ((t.toNat : Nat) : Int) (v_12 - 1))], [vI 1000, vI (tN ((t.toNat : Nat) : Int) (v_12 - 1)), vI r], aq_h m s F c)) rfl rfl ?_
          refine ae_bin (z := (tN ((t.toNat : Nat) : Int) (v_12 - 1)) / 1000) rfl rfl (am_div_e (by omega) (by omega) (by decide)) ?_
          show am_E _ (153, [vR x, vR o, vI b, vI st, vI ((tN ((t.toNat : Nat) : Int) (v_12 - 1)) % 1000), vI r, vI (am_w (w + 1)), vI i, vI 1, vI (tN ((t.toNat : Nat) : Int) (v_12 - 1))], [vI ((tN ((t.toNat : Nat) : Int) (v_12 - 1)) / 1000), vI r], aq_h m s F c) _
          refine ae_add rfl (am_ri (by omega) (by omega)) ?_
          show am_E _ (154, [vR x, vR o, vI b, vI st, vI ((tN ((t.toNat : Nat) : Int) (v_12 - 1)) % 1000), vI r, vI (am_w (w + 1)), vI i, vI 1, vI (tN ((t.toNat : Nat) : Int) (v_12 - 1))], [vI (r + ((tN ((t.toNat : Nat) : Int) (v_12 - 1)) / 1000))], aq_h m s F c) _
          refine am_E.go (t2 := (156, [vR x, vR o, vI b, vI st, vI ((tN ((t.toNat : Nat) : Int) (v_12 - 1)) % 1000), vI (r + ((tN ((t.toNat : Nat) : Int) (v_12 - 1)) / 1000)), vI (am_w (w + 1)), vI i, vI 1, vI (tN ((t.toNat : Nat) : Int) (v_12 - 1))], [], aq_h m s F c)) rfl rfl ?_
          refine ae_iinc rfl rfl (am_ri (by omega) (by omega)) ?_
          show am_E _ (159, [vR x, vR o, vI b, vI st, vI ((tN ((t.toNat : Nat) : Int) (v_12 - 1)) % 1000), vI (r + ((tN ((t.toNat : Nat) : Int) (v_12 - 1)) / 1000)), vI (am_w (w + 1)), vI (i + 1), vI 1, vI (tN ((t.toNat : Nat) : Int) (v_12 - 1))], [], aq_h m s F c) _
          refine am_E.go (t2 := (54, [vR x, vR o, vI b, vI st, vI ((tN ((t.toNat : Nat) : Int) (v_12 - 1)) % 1000), vI (r + ((tN ((t.toNat : Nat) : Int) (v_12 - 1)) / 1000)), vI (am_w (w + 1)), vI (i + 1), vI 1, vI (tN ((t.toNat : Nat) : Int) (v_12 - 1))], [], aq_h m s F c)) rfl rfl ?_
          exact qn_addStates_in ⟨hmx, hFx, hFl, hFw⟩ hSw hnx hny ⟨hl0, hl1, hl2, hl3, hl4⟩ ⟨hm, hn1, hn4, hK, hFo, hFd, hFs⟩ hSd hSs hxn hdx ⟨hL, hGg, hGr, hNg, hNr, hLt, hGt, hNt⟩ ⟨hR, hRt⟩ hst d st ((tN ((t.toNat : Nat) : Int) (v_12 - 1)) % 1000) (r + ((tN ((t.toNat : Nat) : Int) (v_12 - 1)) / 1000)) (am_w (w + 1)) (i + 1) (vI 1) (vI (tN ((t.toNat : Nat) : Int) (v_12 - 1))) c hs (by omega) (by omega) (by omega) (by omega) (by omega) (by omega) hr (by omega) K0

theorem qn_addStates_out {m s : Nat} {F : aq_F} {c0 : aq_C} {S : Nat → Prop} {x : Nat} (hX : cr_0 m F x) (hSw : S (x + 2)) (hnx : ¬ S x) (hny : ¬ S (x + 1)) (hl : cr_l x c0) {o n K : Nat} (hB : bx_0 m F o n K) (hSd : S (o + 6 + 3 * K)) (hSs : S (o + 7 + 3 * K)) (hxn : c0 x 0 = (n : Int)) (hdx : o + 6 + 3 * K ≠ x + 2) {tL : Int → Int} {tG tN : Int → Int → Int} (hT : bx_w F o n K tL tG tN) {tR : Int → Int} (hRr : bx_r F o K tR) (hst : 0 ≤ nu_o (bx_ol n 0) (2 * (n : Int)) 9 0 0 (2 * (n : Int) - 1) ∧ nu_o (bx_ol n 0) (2 * (n : Int)) 9 0 0 (2 * (n : Int) - 1) < (K : Int)) {b : Int} : ∀ (d : Nat) (st : Int) (v4 : am_V) (v5 : am_V) (v6 : am_V) (v7 : am_V) (v8 : am_V) (v9 : am_V) (c : aq_C) (hs : aq_sm S c0 c) (h0 : 0 ≤ st) (h1 : st ≤ 256) (h2 : 0 ≤ b) (h3 : b < (K : Int)) (hr : aq_rg (o + 6 + 3 * K) (2 * (n : Int)) 0 (2 * (n : Int)) c) (hd : 256 - st < (d : Int)), am_E ac_X1_addStates (32, [vR x, vR o, vI b, vI st, v4, v5, v6, v7, v8, v9], [], aq_h m s F c) (aq_Z m s F S c0 (fun r d => r = none ∧ aq_rg (o + 6 + 3 * K) (2 * (n : Int)) 0 (2 * (n : Int)) d))
  | 0, st, v4, v5, v6, v7, v8, v9, c, hs, h0, h1, h2, h3, hr, hd => by exfalso; omega
  | d + 1, st, v4, v5, v6, v7, v8, v9, c, hs, h0, h1, h2, h3, hr, hd => by
    obtain ⟨hmx, hFx, hFl, hFw⟩ := hX
    obtain ⟨hm, hn1, hn4, hK, hFo, hFd, hFs⟩ := hB
    obtain ⟨hL, hGg, hGr, hNg, hNr, hLt, hGt, hNt⟩ := hT
    obtain ⟨hR, hRt⟩ := hRr
    obtain ⟨hl0, hl1, hl2, hl3, hl4⟩ := hl
    refine am_E.go (t2 := (33, [vR x, vR o, vI b, vI st, v4, v5, v6, v7, v8, v9], [vI st], aq_h m s F c)) rfl rfl ?_
    refine am_E.go (t2 := (34, [vR x, vR o, vI b, vI st, v4, v5, v6, v7, v8, v9], [vI 1, vI st], aq_h m s F c)) rfl rfl ?_
    refine am_E.go (t2 := (35, [vR x, vR o, vI b, vI st, v4, v5, v6, v7, v8, v9], [vR x, vI 1, vI st], aq_h m s F c)) rfl rfl ?_
    refine aq_gf (v := vI (c x 1)) rfl (by omega) hFx (by decide) rfl ?_
    show am_E _ (38, [vR x, vR o, vI b, vI st, v4, v5, v6, v7, v8, v9], [vI (c x 1), vI 1, vI st], aq_h m s F c) _
    have f_1 := hs x hnx 1
    have e9 := am_shi1 (k := (c x 1)) (by omega) (by omega)
    refine ae_bin (z := am_shi 1 (c x 1)) rfl rfl rfl ?_
    refine ae_icmp rfl (fun (q_2 : (am_shi 1 (c x 1)) ≤ st) => ?_) (fun (q_2 : st < (am_shi 1 (c x 1))) => ?_)
    · refine am_E.ret rfl rfl ?_
      exact ⟨_, rfl, hs, rfl, hr⟩
    · refine am_E.go (t2 := (43, [vR x, vR o, vI b, vI st, v4, v5, v6, v7, v8, v9], [vI b], aq_h m s F c)) rfl rfl ?_
      refine am_E.go (t2 := (45, [vR x, vR o, vI b, vI st, vI b, v5, v6, v7, v8, v9], [], aq_h m s F c)) rfl rfl ?_
      refine am_E.go (t2 := (46, [vR x, vR o, vI b, vI st, vI b, v5, v6, v7, v8, v9], [vI 0], aq_h m s F c)) rfl rfl ?_
      refine am_E.go (t2 := (48, [vR x, vR o, vI b, vI st, vI b, vI 0, v6, v7, v8, v9], [], aq_h m s F c)) rfl rfl ?_
      refine am_E.go (t2 := (49, [vR x, vR o, vI b, vI st, vI b, vI 0, v6, v7, v8, v9], [vI 0], aq_h m s F c)) rfl rfl ?_
      refine am_E.go (t2 := (51, [vR x, vR o, vI b, vI st, vI b, vI 0, vI 0, v7, v8, v9], [], aq_h m s F c)) rfl rfl ?_
      refine am_E.go (t2 := (52, [vR x, vR o, vI b, vI st, vI b, vI 0, vI 0, v7, v8, v9], [vI 0], aq_h m s F c)) rfl rfl ?_
      refine am_E.go (t2 := (54, [vR x, vR o, vI b, vI st, vI b, vI 0, vI 0, vI 0, v8, v9], [], aq_h m s F c)) rfl rfl ?_
      refine qn_addStates_in ⟨hmx, hFx, hFl, hFw⟩ hSw hnx hny ⟨hl0, hl1, hl2, hl3, hl4⟩ ⟨hm, hn1, hn4, hK, hFo, hFd, hFs⟩ hSd hSs hxn hdx ⟨hL, hGg, hGr, hNg, hNr, hLt, hGt, hNt⟩ ⟨hR, hRt⟩ hst 9 st b 0 0 0 (v8) (v9) c hs (by omega) (by omega) (by omega) (by omega) (by omega) (by omega) hr (by omega) ?_
      · intro t2_54 r2_54 w2_54 i2_54 v82_54 v92_54 c_3 sc_3 f1_54 f2_54 f3_54 f4_54 hr2_54
        refine am_E.go (t2 := (163, [vR x, vR o, vI b, vI st, vI t2_54, vI r2_54, vI w2_54, vI i2_54, v82_54, v92_54], [vR x], aq_h m s F c_3)) rfl rfl ?_
        refine am_E.go (t2 := (165, [vR x, vR o, vI b, vI st, vI t2_54, vI r2_54, vI w2_54, vI i2_54, v82_54, v92_54], [vI w2_54, vR x], aq_h m s F c_3)) rfl rfl ?_
        refine am_E.go (t2 := (167, [vR x, vR o, vI b, vI st, vI t2_54, vI r2_54, vI w2_54, vI i2_54, v82_54, v92_54], [vI r2_54, vI w2_54, vR x], aq_h m s F c_3)) rfl rfl ?_
        refine am_E.go (t2 := (168, [vR x, vR o, vI b, vI st, vI t2_54, vI r2_54, vI w2_54, vI i2_54, v82_54, v92_54], [vR o, vI r2_54, vI w2_54, vR x], aq_h m s F c_3)) rfl rfl ?_
        refine aq_gf (v := vR (o + 2 + K)) rfl (by omega) hFo (by decide) rfl ?_
        show am_E _ (171, [vR x, vR o, vI b, vI st, vI t2_54, vI r2_54, vI w2_54, vI i2_54, v82_54, v92_54], [vR (o + 2 + K), vI r2_54, vI w2_54, vR x], aq_h m s F c_3) _
        refine am_E.go (t2 := (173, [vR x, vR o, vI b, vI st, vI t2_54, vI r2_54, vI w2_54, vI i2_54, v82_54, v92_54], [vI t2_54, vR (o + 2 + K), vI r2_54, vI w2_54, vR x], aq_h m s F c_3)) rfl rfl ?_
        refine aq_alt (ok := fun k => k == 0) rfl rfl (by omega) hR rfl (by omega) (by omega) ?_
        show am_E _ (174, [vR x, vR o, vI b, vI st, vI t2_54, vI r2_54, vI w2_54, vI i2_54, v82_54, v92_54], [vI (tR t2_54), vI r2_54, vI w2_54, vR x], aq_h m s F c_3) _
        have f_4 := hRt t2_54 (by omega) (by omega)
        refine ae_add rfl (am_ri (by omega) (by omega)) ?_
        show am_E _ (175, [vR x, vR o, vI b, vI st, vI t2_54, vI r2_54, vI w2_54, vI i2_54, v82_54, v92_54], [vI (r2_54 + (tR t2_54)), vI w2_54, vR x], aq_h m s F c_3) _
        refine am_E.go (t2 := (176, [vR x, vR o, vI b, vI st, vI t2_54, vI r2_54, vI w2_54, vI i2_54, v82_54, v92_54], [vI 1, vI (r2_54 + (tR t2_54)), vI w2_54, vR x], aq_h m s F c_3)) rfl rfl ?_
        refine ae_sub rfl (am_ri (by omega) (by omega)) ?_
        show am_E _ (177, [vR x, vR o, vI b, vI st, vI t2_54, vI r2_54, vI w2_54, vI i2_54, v82_54, v92_54], [vI ((r2_54 + (tR t2_54)) - 1), vI w2_54, vR x], aq_h m s F c_3) _
        refine aq_callv (y := 3) (as2 := [vI w2_54, vI ((r2_54 + (tR t2_54)) - 1)]) (rest := []) rfl rfl (by decide) (Nat.le_of_ble_eq_true rfl) rfl rfl (Nat.le_of_ble_eq_true rfl) (by omega) hFx rfl (Nat.le_of_ble_eq_true rfl) (qn_X1_addState (S := fun a => a = x + 2) ⟨hmx, hFx, hFl, hFw⟩ rfl (by omega) (by omega)) ?_
        rintro r5 h5 ⟨c_5, rfl, sc_5, rfl⟩
        show am_E _ (180, [vR x, vR o, vI b, vI st, vI t2_54, vI r2_54, vI w2_54, vI i2_54, v82_54, v92_54], [], aq_h m s F c_5) _
        refine ae_iinc rfl rfl (am_ri (by omega) (by omega)) ?_
        show am_E _ (183, [vR x, vR o, vI b, vI (st + 1), vI t2_54, vI r2_54, vI w2_54, vI i2_54, v82_54, v92_54], [], aq_h m s F c_5) _
        refine am_E.go (t2 := (32, [vR x, vR o, vI b, vI (st + 1), vI t2_54, vI r2_54, vI w2_54, vI i2_54, v82_54, v92_54], [], aq_h m s F c_5)) rfl rfl ?_
        exact qn_addStates_out ⟨hmx, hFx, hFl, hFw⟩ hSw hnx hny ⟨hl0, hl1, hl2, hl3, hl4⟩ ⟨hm, hn1, hn4, hK, hFo, hFd, hFs⟩ hSd hSs hxn hdx ⟨hL, hGg, hGr, hNg, hNr, hLt, hGt, hNt⟩ ⟨hR, hRt⟩ hst d (st + 1) (vI t2_54) (vI r2_54) (vI w2_54) (vI i2_54) (v82_54) (v92_54) c_5 (aq_smt sc_3 (aq_smi sc_5 (fun a h => by rw [h]; exact hSw))) (by omega) (by omega) (by omega) (by omega) (aq_rgs hr2_54 sc_5 hdx) (by omega)

theorem qn_addStates_z {m s : Nat} {F : aq_F} {c0 : aq_C} {S : Nat → Prop} {x : Nat} (hX : cr_0 m F x) (hSw : S (x + 2)) (hnx : ¬ S x) (hny : ¬ S (x + 1)) (hl : cr_l x c0) {o n K : Nat} (hB : bx_0 m F o n K) (hSd : S (o + 6 + 3 * K)) (hSs : S (o + 7 + 3 * K)) (hxn : c0 x 0 = (n : Int)) (hdx : o + 6 + 3 * K ≠ x + 2) {tL : Int → Int} {tG tN : Int → Int → Int} (hT : bx_w F o n K tL tG tN) {tR : Int → Int} (hRr : bx_r F o K tR) (hst : 0 ≤ nu_o (bx_ol n 0) (2 * (n : Int)) 9 0 0 (2 * (n : Int) - 1) ∧ nu_o (bx_ol n 0) (2 * (n : Int)) 9 0 0 (2 * (n : Int) - 1) < (K : Int)) : ∀ (d : Nat) (k : Int) (v3 : am_V) (v4 : am_V) (v5 : am_V) (v6 : am_V) (v7 : am_V) (v8 : am_V) (v9 : am_V) (c : aq_C) (hs : aq_sm S c0 c) (h0 : 0 ≤ k) (h1 : k ≤ 81) (hr : aq_rg (o + 6 + 3 * K) (2 * (n : Int)) 0 (2 * (n : Int)) c) (hd : 81 - k < (d : Int)), am_E ac_X1_addStates (2, [vR x, vR o, vI k, v3, v4, v5, v6, v7, v8, v9], [], aq_h m s F c) (aq_Z m s F S c0 (fun r d => r = none ∧ aq_rg (o + 6 + 3 * K) (2 * (n : Int)) 0 (2 * (n : Int)) d))
  | 0, k, v3, v4, v5, v6, v7, v8, v9, c, hs, h0, h1, hr, hd => by exfalso; omega
  | d + 1, k, v3, v4, v5, v6, v7, v8, v9, c, hs, h0, h1, hr, hd => by
    obtain ⟨hmx, hFx, hFl, hFw⟩ := hX
    obtain ⟨hm, hn1, hn4, hK, hFo, hFd, hFs⟩ := hB
    obtain ⟨hL, hGg, hGr, hNg, hNr, hLt, hGt, hNt⟩ := hT
    obtain ⟨hR, hRt⟩ := hRr
    obtain ⟨hl0, hl1, hl2, hl3, hl4⟩ := hl
    refine am_E.go (t2 := (3, [vR x, vR o, vI k, v3, v4, v5, v6, v7, v8, v9], [vI k], aq_h m s F c)) rfl rfl ?_
    refine am_E.go (t2 := (4, [vR x, vR o, vI k, v3, v4, v5, v6, v7, v8, v9], [vR x, vI k], aq_h m s F c)) rfl rfl ?_
    refine aq_gf (v := vR (x + 2)) rfl (by omega) hFx (by decide) rfl ?_
    show am_E _ (7, [vR x, vR o, vI k, v3, v4, v5, v6, v7, v8, v9], [vR (x + 2), vI k], aq_h m s F c) _
    refine aq_len rfl (by omega) hFw (by decide) ?_
    show am_E _ (8, [vR x, vR o, vI k, v3, v4, v5, v6, v7, v8, v9], [vI ((81 : Nat) : Int), vI k], aq_h m s F c) _
    refine ae_icmp rfl (fun (q_1 : ((81 : Nat) : Int) ≤ k) => ?_) (fun (q_1 : k < ((81 : Nat) : Int)) => ?_)
    · refine am_E.go (t2 := (25, [vR x, vR o, vI k, v3, v4, v5, v6, v7, v8, v9], [vR o], aq_h m s F c)) rfl rfl ?_
      refine am_E.go (t2 := (26, [vR x, vR o, vI k, v3, v4, v5, v6, v7, v8, v9], [vI 0, vR o], aq_h m s F c)) rfl rfl ?_
      refine aq_callv (y := 2) (as2 := [vI 0]) (rest := []) rfl rfl (by decide) (Nat.le_of_ble_eq_true rfl) rfl rfl (Nat.le_of_ble_eq_true rfl) (by omega) hFo rfl (Nat.le_of_ble_eq_true rfl) (qn_X0_ofLetter ⟨hm, hn1, hn4, hK, hFo, hFd, hFs⟩ hSd hSs hr) ?_
      rintro r5 h5 ⟨c_2, rfl, sc_2, hrc_2, hc_2⟩
      rcases hc_2 with ⟨hx, _⟩ | ⟨_, hy, rfl⟩
      · exact absurd (Or.inl rfl) hx
      have e7 := nu_oc hy (fun i h1 h2 => by have := hrc_2 i h1 h2; omega) 9 0 0 (2 * (n : Int) - 1) (by omega)
      show am_E _ (29, [vR x, vR o, vI k, v3, v4, v5, v6, v7, v8, v9], [vI (nu_o (c_2 (o + 6 + 3 * K)) (2 * (n : Int)) 9 0 0 (2 * (n : Int) - 1))], aq_h m s F c_2) _
      refine am_E.go (t2 := (30, [vR x, vR o, vI (nu_o (c_2 (o + 6 + 3 * K)) (2 * (n : Int)) 9 0 0 (2 * (n : Int) - 1)), v3, v4, v5, v6, v7, v8, v9], [], aq_h m s F c_2)) rfl rfl ?_
      refine am_E.go (t2 := (31, [vR x, vR o, vI (nu_o (c_2 (o + 6 + 3 * K)) (2 * (n : Int)) 9 0 0 (2 * (n : Int) - 1)), v3, v4, v5, v6, v7, v8, v9], [vI 0], aq_h m s F c_2)) rfl rfl ?_
      refine am_E.go (t2 := (32, [vR x, vR o, vI (nu_o (c_2 (o + 6 + 3 * K)) (2 * (n : Int)) 9 0 0 (2 * (n : Int) - 1)), vI 0, v4, v5, v6, v7, v8, v9], [], aq_h m s F c_2)) rfl rfl ?_
      exact qn_addStates_out ⟨hmx, hFx, hFl, hFw⟩ hSw hnx hny ⟨hl0, hl1, hl2, hl3, hl4⟩ ⟨hm, hn1, hn4, hK, hFo, hFd, hFs⟩ hSd hSs hxn hdx ⟨hL, hGg, hGr, hNg, hNr, hLt, hGt, hNt⟩ ⟨hR, hRt⟩ hst 258 0 (v4) (v5) (v6) (v7) (v8) (v9) c_2 (aq_smt hs sc_2) (by omega) (by omega) (by omega) (by omega) hrc_2 (by omega)
    · refine am_E.go (t2 := (12, [vR x, vR o, vI k, v3, v4, v5, v6, v7, v8, v9], [vR x], aq_h m s F c)) rfl rfl ?_
      refine aq_gf (v := vR (x + 2)) rfl (by omega) hFx (by decide) rfl ?_
      show am_E _ (15, [vR x, vR o, vI k, v3, v4, v5, v6, v7, v8, v9], [vR (x + 2)], aq_h m s F c) _
      refine am_E.go (t2 := (16, [vR x, vR o, vI k, v3, v4, v5, v6, v7, v8, v9], [vI k, vR (x + 2)], aq_h m s F c)) rfl rfl ?_
      refine am_E.go (t2 := (17, [vR x, vR o, vI k, v3, v4, v5, v6, v7, v8, v9], [vI 0, vI k, vR (x + 2)], aq_h m s F c)) rfl rfl ?_
      refine aq_as (kd := 0) rfl rfl (by omega) hFw (by omega) (by omega) rfl rfl ?_
      show am_E _ (18, [vR x, vR o, vI k, v3, v4, v5, v6, v7, v8, v9], [], aq_h m s F (aq_u c (x + 2) k 0)) _
      generalize hdc_3 : aq_u c (x + 2) k 0 = c_3
      have sc_3 := aq_smu hs hdc_3 hSw
      have hdrc_3 := aq_rgn hr hdc_3 hdx
      refine ae_iinc rfl rfl (am_ri (by omega) (by omega)) ?_
      show am_E _ (21, [vR x, vR o, vI (k + 1), v3, v4, v5, v6, v7, v8, v9], [], aq_h m s F c_3) _
      refine am_E.go (t2 := (2, [vR x, vR o, vI (k + 1), v3, v4, v5, v6, v7, v8, v9], [], aq_h m s F c_3)) rfl rfl ?_
      exact qn_addStates_z ⟨hmx, hFx, hFl, hFw⟩ hSw hnx hny ⟨hl0, hl1, hl2, hl3, hl4⟩ ⟨hm, hn1, hn4, hK, hFo, hFd, hFs⟩ hSd hSs hxn hdx ⟨hL, hGg, hGr, hNg, hNr, hLt, hGt, hNt⟩ ⟨hR, hRt⟩ hst d (k + 1) (v3) (v4) (v5) (v6) (v7) (v8) (v9) c_3 sc_3 (by omega) (by omega) hdrc_3 (by omega)

theorem qn_X1_addStates {m s : Nat} {F : aq_F} {c : aq_C} {S : Nat → Prop} {x : Nat} (hX : cr_0 m F x) (hSw : S (x + 2)) (hnx : ¬ S x) (hny : ¬ S (x + 1)) (hl : cr_l x c) {o n K : Nat} (hB : bx_0 m F o n K) (hSd : S (o + 6 + 3 * K)) (hSs : S (o + 7 + 3 * K)) (hxn : c x 0 = (n : Int)) (hdx : o + 6 + 3 * K ≠ x + 2) {tL : Int → Int} {tG tN : Int → Int → Int} (hT : bx_w F o n K tL tG tN) {tR : Int → Int} (hRr : bx_r F o K tR) (hst : 0 ≤ nu_o (bx_ol n 0) (2 * (n : Int)) 9 0 0 (2 * (n : Int) - 1) ∧ nu_o (bx_ol n 0) (2 * (n : Int)) 9 0 0 (2 * (n : Int) - 1) < (K : Int)) (hr : aq_rg (o + 6 + 3 * K) (2 * (n : Int)) 0 (2 * (n : Int)) c) : am_E ac_X1_addStates (0, [vR x, vR o, vU, vU, vU, vU, vU, vU, vU, vU], [], aq_h m s F c) (aq_Z m s F S c (fun r d => r = none ∧ aq_rg (o + 6 + 3 * K) (2 * (n : Int)) 0 (2 * (n : Int)) d)) := by
  obtain ⟨hmx, hFx, hFl, hFw⟩ := hX
  obtain ⟨hm, hn1, hn4, hK, hFo, hFd, hFs⟩ := hB
  obtain ⟨hL, hGg, hGr, hNg, hNr, hLt, hGt, hNt⟩ := hT
  obtain ⟨hR, hRt⟩ := hRr
  obtain ⟨hl0, hl1, hl2, hl3, hl4⟩ := hl
  refine am_E.go (t2 := (1, [vR x, vR o, vU, vU, vU, vU, vU, vU, vU, vU], [vI 0], aq_h m s F c)) rfl rfl ?_
  refine am_E.go (t2 := (2, [vR x, vR o, vI 0, vU, vU, vU, vU, vU, vU, vU], [], aq_h m s F c)) rfl rfl ?_
  exact qn_addStates_z ⟨hmx, hFx, hFl, hFw⟩ hSw hnx hny ⟨hl0, hl1, hl2, hl3, hl4⟩ ⟨hm, hn1, hn4, hK, hFo, hFd, hFs⟩ hSd hSs hxn hdx ⟨hL, hGg, hGr, hNg, hNr, hLt, hGt, hNt⟩ ⟨hR, hRt⟩ hst 83 0 (vU) (vU) (vU) (vU) (vU) (vU) (vU) c aq_sm0 (by omega) (by omega) hr (by omega)
