
theorem qn_X1_begin {m s : Nat} {F : aq_F} {c : aq_C} {x : Nat} (hX : cr_0 m F x) {n : Int} : am_E ac_X1_begin (0, [vR x, vI n], [], aq_h m s F c) (aq_Z m s F (fun a => a = x ∨ a = x + 1) c (fun r d => r = none ∧ d x 0 = n ∧ d x 1 = 0)) := by
  obtain ⟨hmx, hFx, hFl, hFw⟩ := hX
  refine am_E.go (t2 := (1, [vR x, vI n], [vR x], aq_h m s F c)) rfl rfl ?_
  refine am_E.go (t2 := (2, [vR x, vI n], [vI n, vR x], aq_h m s F c)) rfl rfl ?_
  refine aq_pf rfl (by omega) hFx (by decide) rfl rfl ?_
  show am_E _ (5, [vR x, vI n], [], aq_h m s F (aq_u c x 0 n)) _
  generalize hdc_1 : aq_u c x 0 n = c_1
  have sc_1 := aq_smu (aq_sm0 (S := fun a => a = x ∨ a = x + 1)) hdc_1 (Or.inl rfl)
  refine am_E.go (t2 := (6, [vR x, vI n], [vR x], aq_h m s F c_1)) rfl rfl ?_
  refine am_E.go (t2 := (7, [vR x, vI n], [vI 0, vR x], aq_h m s F c_1)) rfl rfl ?_
  refine aq_pf rfl (by omega) hFx (by decide) rfl rfl ?_
  show am_E _ (10, [vR x, vI n], [], aq_h m s F (aq_u c_1 x 1 0)) _
  generalize hdc_2 : aq_u c_1 x 1 0 = c_2
  have sc_2 := aq_smu sc_1 hdc_2 (Or.inl rfl)
  refine am_E.go (t2 := (11, [vR x, vI n], [vR x], aq_h m s F c_2)) rfl rfl ?_
  refine am_E.go (t2 := (12, [vR x, vI n], [vI 0, vR x], aq_h m s F c_2)) rfl rfl ?_
  refine aq_pf rfl (by omega) hFx (by decide) rfl rfl ?_
  show am_E _ (15, [vR x, vI n], [], aq_h m s F (aq_u c_2 x 4 0)) _
  generalize hdc_3 : aq_u c_2 x 4 0 = c_3
  have sc_3 := aq_smu sc_2 hdc_3 (Or.inl rfl)
  refine am_E.ret rfl rfl ?_
  refine ⟨_, rfl, sc_3, rfl, ?_⟩
  rw [← hdc_3, ← hdc_2, ← hdc_1]
  simp [aq_u]

theorem qn_X1_allows {m s : Nat} {F : aq_F} {c : aq_C} {x : Nat} (hX : cr_0 m F x) {l : Int} (h1 : 0 ≤ c x 0) (h2 : c x 0 ≤ 4) : am_E ac_X1_allows (0, [vR x, vI l], [], aq_h m s F c) (aq_P m s F c (fun r => ∃ v, r = some (vI v) ∧ ((v = 1 ∧ l ≠ 0 ∧ -(c x 0) < l ∧ l < c x 0) ∨ (v = 0 ∧ ¬ (l ≠ 0 ∧ -(c x 0) < l ∧ l < c x 0))))) := by
  obtain ⟨hmx, hFx, hFl, hFw⟩ := hX
  refine am_E.go (t2 := (1, [vR x, vI l], [vI l], aq_h m s F c)) rfl rfl ?_
  refine ae_if0 rfl (fun (q_1 : l = 0) => ?_) (fun (q_1 : l ≠ 0) => ?_)
  · refine am_E.go (t2 := (26, [vR x, vI l], [vI 0], aq_h m s F c)) rfl rfl ?_
    refine am_E.ret rfl rfl ?_
    exact ⟨rfl, _, rfl, by omega⟩
  · refine am_E.go (t2 := (5, [vR x, vI l], [vI l], aq_h m s F c)) rfl rfl ?_
    refine am_E.go (t2 := (6, [vR x, vI l], [vR x, vI l], aq_h m s F c)) rfl rfl ?_
    refine aq_gf (v := vI (c x 0)) rfl (by omega) hFx (by decide) rfl ?_
    show am_E _ (9, [vR x, vI l], [vI (c x 0), vI l], aq_h m s F c) _
    refine ae_neg rfl (am_ri (by omega) (by omega)) ?_
    show am_E _ (10, [vR x, vI l], [vI (-(c x 0)), vI l], aq_h m s F c) _
    refine ae_icmp rfl (fun (q_2 : l ≤ (-(c x 0))) => ?_) (fun (q_2 : (-(c x 0)) < l) => ?_)
    · refine am_E.go (t2 := (26, [vR x, vI l], [vI 0], aq_h m s F c)) rfl rfl ?_
      refine am_E.ret rfl rfl ?_
      exact ⟨rfl, _, rfl, by omega⟩
    · refine am_E.go (t2 := (14, [vR x, vI l], [vI l], aq_h m s F c)) rfl rfl ?_
      refine am_E.go (t2 := (15, [vR x, vI l], [vR x, vI l], aq_h m s F c)) rfl rfl ?_
      refine aq_gf (v := vI (c x 0)) rfl (by omega) hFx (by decide) rfl ?_
      show am_E _ (18, [vR x, vI l], [vI (c x 0), vI l], aq_h m s F c) _
      refine ae_icmp rfl (fun (q_3 : (c x 0) ≤ l) => ?_) (fun (q_3 : l < (c x 0)) => ?_)
      · refine am_E.go (t2 := (26, [vR x, vI l], [vI 0], aq_h m s F c)) rfl rfl ?_
        refine am_E.ret rfl rfl ?_
        exact ⟨rfl, _, rfl, by omega⟩
      · refine am_E.go (t2 := (22, [vR x, vI l], [vI 1], aq_h m s F c)) rfl rfl ?_
        refine am_E.go (t2 := (26, [vR x, vI l], [vI 1], aq_h m s F c)) rfl rfl ?_
        refine am_E.ret rfl rfl ?_
        exact ⟨rfl, _, rfl, by omega⟩

theorem qn_X1_append {m s : Nat} {F : aq_F} {c : aq_C} {x : Nat} (hX : cr_0 m F x) {l : Int} (h1 : 0 ≤ c x 1) : am_E ac_X1_append (0, [vR x, vI l], [], aq_h m s F c) (aq_Z m s F (fun a => a = x ∨ a = x + 1) c (fun r d => ∃ v, r = some (vI v) ∧ ((v = 0 ∧ 8 ≤ c x 1 ∧ d = c) ∨ (v = 1 ∧ c x 1 < 8 ∧ d x 0 = c x 0 ∧ d x 1 = c x 1 + 1 ∧ d (x + 1) (c x 1) = l ∧ ∀ i, i ≠ c x 1 → d (x + 1) i = c (x + 1) i)))) := by
  obtain ⟨hmx, hFx, hFl, hFw⟩ := hX
  have e1 : x + 1 ≠ x := by omega
  have e2 : x ≠ x + 1 := by omega
  refine am_E.go (t2 := (1, [vR x, vI l], [vR x], aq_h m s F c)) rfl rfl ?_
  refine aq_gf (v := vI (c x 1)) rfl (by omega) hFx (by decide) rfl ?_
  show am_E _ (4, [vR x, vI l], [vI (c x 1)], aq_h m s F c) _
  skip
  refine am_E.go (t2 := (6, [vR x, vI l], [vI 8, vI (c x 1)], aq_h m s F c)) rfl rfl ?_
  refine ae_icmp rfl (fun (q_2 : (c x 1) < 8) => ?_) (fun (q_2 : 8 ≤ (c x 1)) => ?_)
  · refine am_E.go (t2 := (12, [vR x, vI l], [vR x], aq_h m s F c)) rfl rfl ?_
    refine aq_gf (v := vR (x + 1)) rfl (by omega) hFx (by decide) rfl ?_
    show am_E _ (15, [vR x, vI l], [vR (x + 1)], aq_h m s F c) _
    refine am_E.go (t2 := (16, [vR x, vI l], [vR x, vR (x + 1)], aq_h m s F c)) rfl rfl ?_
    refine aq_gf (v := vI (c x 1)) rfl (by omega) hFx (by decide) rfl ?_
    show am_E _ (19, [vR x, vI l], [vI (c x 1), vR (x + 1)], aq_h m s F c) _
    skip
    refine am_E.go (t2 := (20, [vR x, vI l], [vI l, vI (c x 1), vR (x + 1)], aq_h m s F c)) rfl rfl ?_
    refine aq_as (kd := 0) rfl rfl (by omega) hFl (by omega) (by omega) rfl rfl ?_
    show am_E _ (21, [vR x, vI l], [], aq_h m s F (aq_u c (x + 1) (c x 1) l)) _
    generalize hdc_4 : aq_u c (x + 1) (c x 1) l = c_4
    have sc_4 := aq_smu (aq_sm0 (S := fun a => a = x ∨ a = x + 1)) hdc_4 (Or.inr rfl)
    refine am_E.go (t2 := (22, [vR x, vI l], [vR x], aq_h m s F c_4)) rfl rfl ?_
    refine am_E.go (t2 := (23, [vR x, vI l], [vR x, vR x], aq_h m s F c_4)) rfl rfl ?_
    refine aq_gf (v := vI (c_4 x 1)) rfl (by omega) hFx (by decide) rfl ?_
    show am_E _ (26, [vR x, vI l], [vI (c_4 x 1), vR x], aq_h m s F c_4) _
    have f_5 : c_4 x 1 = c x 1 := by rw [← hdc_4]; exact aq_un (Or.inl (by omega))
    refine am_E.go (t2 := (27, [vR x, vI l], [vI 1, vI (c_4 x 1), vR x], aq_h m s F c_4)) rfl rfl ?_
    refine ae_add rfl (am_ri (by omega) (by omega)) ?_
    show am_E _ (28, [vR x, vI l], [vI ((c_4 x 1) + 1), vR x], aq_h m s F c_4) _
    refine aq_pf rfl (by omega) hFx (by decide) rfl rfl ?_
    show am_E _ (31, [vR x, vI l], [], aq_h m s F (aq_u c_4 x 1 ((c_4 x 1) + 1))) _
    generalize hdc_6 : aq_u c_4 x 1 ((c_4 x 1) + 1) = c_6
    have sc_6 := aq_smu sc_4 hdc_6 (Or.inl rfl)
    refine am_E.go (t2 := (32, [vR x, vI l], [vR x], aq_h m s F c_6)) rfl rfl ?_
    refine am_E.go (t2 := (33, [vR x, vI l], [vI 0, vR x], aq_h m s F c_6)) rfl rfl ?_
    refine aq_pf rfl (by omega) hFx (by decide) rfl rfl ?_
    show am_E _ (36, [vR x, vI l], [], aq_h m s F (aq_u c_6 x 4 0)) _
    generalize hdc_7 : aq_u c_6 x 4 0 = c_7
    have sc_7 := aq_smu sc_6 hdc_7 (Or.inl rfl)
    refine am_E.go (t2 := (37, [vR x, vI l], [vI 1], aq_h m s F c_7)) rfl rfl ?_
    refine am_E.ret rfl rfl ?_
    refine ⟨_, rfl, sc_7, 1, rfl, Or.inr ⟨rfl, by omega, ?_⟩⟩
    have e1 : x + 1 ≠ x := by omega
    have e2 : x ≠ x + 1 := by omega
    rw [← hdc_7, ← hdc_6, ← hdc_4]
    simp [aq_u, e1, e2]
    intro i hi h9
    exact absurd h9 hi
  · refine am_E.go (t2 := (10, [vR x, vI l], [vI 0], aq_h m s F c)) rfl rfl ?_
    refine am_E.ret rfl rfl ?_
    exact ⟨_, rfl, (aq_sm0 (S := fun a => a = x ∨ a = x + 1)), 0, rfl, Or.inl ⟨rfl, by omega, rfl⟩⟩

theorem qn_X1_dropLast {m s : Nat} {F : aq_F} {c : aq_C} {x : Nat} (hX : cr_0 m F x) (h1 : 0 ≤ c x 1) (h2 : c x 1 ≤ 8) : am_E ac_X1_dropLast (0, [vR x], [], aq_h m s F c) (aq_Z m s F (fun a => a = x ∨ a = x + 1) c (fun r d => ∃ v, r = some (vI v) ∧ ((v = 0 ∧ c x 1 ≤ 0 ∧ d = c) ∨ (v = 1 ∧ 0 < c x 1 ∧ d x 0 = c x 0 ∧ d x 1 = c x 1 - 1 ∧ ∀ i, d (x + 1) i = c (x + 1) i)))) := by
  obtain ⟨hmx, hFx, hFl, hFw⟩ := hX
  refine am_E.go (t2 := (1, [vR x], [vR x], aq_h m s F c)) rfl rfl ?_
  refine aq_gf (v := vI (c x 1)) rfl (by omega) hFx (by decide) rfl ?_
  show am_E _ (4, [vR x], [vI (c x 1)], aq_h m s F c) _
  refine ae_if0 rfl (fun (q_1 : 0 < (c x 1)) => ?_) (fun (q_1 : (c x 1) ≤ 0) => ?_)
  · refine am_E.go (t2 := (10, [vR x], [vR x], aq_h m s F c)) rfl rfl ?_
    refine am_E.go (t2 := (11, [vR x], [vR x, vR x], aq_h m s F c)) rfl rfl ?_
    refine aq_gf (v := vI (c x 1)) rfl (by omega) hFx (by decide) rfl ?_
    show am_E _ (14, [vR x], [vI (c x 1), vR x], aq_h m s F c) _
    refine am_E.go (t2 := (15, [vR x], [vI 1, vI (c x 1), vR x], aq_h m s F c)) rfl rfl ?_
    refine ae_sub rfl (am_ri (by omega) (by omega)) ?_
    show am_E _ (16, [vR x], [vI ((c x 1) - 1), vR x], aq_h m s F c) _
    refine aq_pf rfl (by omega) hFx (by decide) rfl rfl ?_
    show am_E _ (19, [vR x], [], aq_h m s F (aq_u c x 1 ((c x 1) - 1))) _
    generalize hdc_2 : aq_u c x 1 ((c x 1) - 1) = c_2
    have sc_2 := aq_smu (aq_sm0 (S := fun a => a = x ∨ a = x + 1)) hdc_2 (Or.inl rfl)
    refine am_E.go (t2 := (20, [vR x], [vR x], aq_h m s F c_2)) rfl rfl ?_
    refine am_E.go (t2 := (21, [vR x], [vI 0, vR x], aq_h m s F c_2)) rfl rfl ?_
    refine aq_pf rfl (by omega) hFx (by decide) rfl rfl ?_
    show am_E _ (24, [vR x], [], aq_h m s F (aq_u c_2 x 4 0)) _
    generalize hdc_3 : aq_u c_2 x 4 0 = c_3
    have sc_3 := aq_smu sc_2 hdc_3 (Or.inl rfl)
    refine am_E.go (t2 := (25, [vR x], [vI 1], aq_h m s F c_3)) rfl rfl ?_
    refine am_E.ret rfl rfl ?_
    refine ⟨_, rfl, sc_3, 1, rfl, Or.inr ⟨rfl, by omega, ?_⟩⟩
    have e1 : x + 1 ≠ x := by omega
    rw [← hdc_3, ← hdc_2]
    simp [aq_u, e1]
  · refine am_E.go (t2 := (8, [vR x], [vI 0], aq_h m s F c)) rfl rfl ?_
    refine am_E.ret rfl rfl ?_
    exact ⟨_, rfl, (aq_sm0 (S := fun a => a = x ∨ a = x + 1)), 0, rfl, Or.inl ⟨rfl, by omega, rfl⟩⟩

theorem qn_addState_l {m s : Nat} {F : aq_F} {c0 : aq_C} {S : Nat → Prop} {x : Nat} (hX : cr_0 m F x) (hSw : S (x + 2)) {w t : Int} (ht0 : -1 ≤ t) (ht1 : t ≤ 100) : ∀ (d : Nat) (u : Int) (p : Int) (j : Int) (c : aq_C) (hs : aq_sm S c0 c) (h0 : 0 ≤ j) (h1 : j ≤ 101) (hd : max 0 (t + 1 - j) < (d : Int)), am_E ac_X1_addState (22, [vR x, vI w, vI t, vI u, vI p, vI j], [], aq_h m s F c) (aq_Z m s F S c0 (fun r _ => r = none))
  | 0, u, p, j, c, hs, h0, h1, hd => by exfalso; omega
  | d + 1, u, p, j, c, hs, h0, h1, hd => by
    obtain ⟨hmx, hFx, hFl, hFw⟩ := hX
    refine am_E.go (t2 := (24, [vR x, vI w, vI t, vI u, vI p, vI j], [vI j], aq_h m s F c)) rfl rfl ?_
    refine am_E.go (t2 := (25, [vR x, vI w, vI t, vI u, vI p, vI j], [vI t, vI j], aq_h m s F c)) rfl rfl ?_
    refine ae_icmp rfl (fun (q_1 : t < j) => ?_) (fun (q_1 : j ≤ t) => ?_)
    · refine am_E.ret rfl rfl ?_
      exact ⟨_, rfl, hs, rfl⟩
    · refine am_E.go (t2 := (30, [vR x, vI w, vI t, vI u, vI p, vI j], [vI p], aq_h m s F c)) rfl rfl ?_
      refine am_E.go (t2 := (32, [vR x, vI w, vI t, vI u, vI p, vI j], [vI (-40), vI p], aq_h m s F c)) rfl rfl ?_
      refine ae_icmp rfl (fun (q_2 : p < (-40)) => ?_) (fun (q_2 : (-40) ≤ p) => ?_)
      · refine am_E.go (t2 := (57, [vR x, vI w, vI t, vI u, vI p, vI j], [vI u], aq_h m s F c)) rfl rfl ?_
        refine am_E.go (t2 := (58, [vR x, vI w, vI t, vI u, vI p, vI j], [vI t, vI u], aq_h m s F c)) rfl rfl ?_
        refine am_E.go (t2 := (60, [vR x, vI w, vI t, vI u, vI p, vI j], [vI j, vI t, vI u], aq_h m s F c)) rfl rfl ?_
        refine ae_sub rfl (am_ri (by omega) (by omega)) ?_
        show am_E _ (61, [vR x, vI w, vI t, vI u, vI p, vI j], [vI (t - j), vI u], aq_h m s F c) _
        refine am_E.go (t2 := (62, [vR x, vI w, vI t, vI u, vI p, vI j], [vI (am_w (u * (t - j)))], aq_h m s F c)) rfl rfl ?_
        refine am_E.go (t2 := (64, [vR x, vI w, vI t, vI u, vI p, vI j], [vI j, vI (am_w (u * (t - j)))], aq_h m s F c)) rfl rfl ?_
        refine am_E.go (t2 := (65, [vR x, vI w, vI t, vI u, vI p, vI j], [vI 1, vI j, vI (am_w (u * (t - j)))], aq_h m s F c)) rfl rfl ?_
        refine ae_add rfl (am_ri (by omega) (by omega)) ?_
        show am_E _ (66, [vR x, vI w, vI t, vI u, vI p, vI j], [vI (j + 1), vI (am_w (u * (t - j)))], aq_h m s F c) _
        refine ae_bin (z := am_w ((am_w (u * (t - j))).tdiv (j + 1))) rfl rfl (am_div_s (by omega)) ?_
        show am_E _ (67, [vR x, vI w, vI t, vI u, vI p, vI j], [vI (am_w ((am_w (u * (t - j))).tdiv (j + 1)))], aq_h m s F c) _
        refine am_E.go (t2 := (68, [vR x, vI w, vI t, vI (am_w ((am_w (u * (t - j))).tdiv (j + 1))), vI p, vI j], [], aq_h m s F c)) rfl rfl ?_
        refine am_E.go (t2 := (71, [vR x, vI w, vI t, vI (am_w ((am_w (u * (t - j))).tdiv (j + 1))), vI (am_w (p + (-4))), vI j], [], aq_h m s F c)) rfl rfl ?_
        refine ae_iinc rfl rfl (am_ri (by omega) (by omega)) ?_
        show am_E _ (74, [vR x, vI w, vI t, vI (am_w ((am_w (u * (t - j))).tdiv (j + 1))), vI (am_w (p + (-4))), vI (j + 1)], [], aq_h m s F c) _
        refine am_E.go (t2 := (22, [vR x, vI w, vI t, vI (am_w ((am_w (u * (t - j))).tdiv (j + 1))), vI (am_w (p + (-4))), vI (j + 1)], [], aq_h m s F c)) rfl rfl ?_
        exact qn_addState_l ⟨hmx, hFx, hFl, hFw⟩ hSw ht0 ht1 d (am_w ((am_w (u * (t - j))).tdiv (j + 1))) (am_w (p + (-4))) (j + 1) c hs (by omega) (by omega) (by omega)
      · refine am_E.go (t2 := (37, [vR x, vI w, vI t, vI u, vI p, vI j], [vI p], aq_h m s F c)) rfl rfl ?_
        refine am_E.go (t2 := (39, [vR x, vI w, vI t, vI u, vI p, vI j], [vI 40, vI p], aq_h m s F c)) rfl rfl ?_
        refine ae_icmp rfl (fun (q_3 : 40 < p) => ?_) (fun (q_3 : p ≤ 40) => ?_)
        · refine am_E.go (t2 := (57, [vR x, vI w, vI t, vI u, vI p, vI j], [vI u], aq_h m s F c)) rfl rfl ?_
          refine am_E.go (t2 := (58, [vR x, vI w, vI t, vI u, vI p, vI j], [vI t, vI u], aq_h m s F c)) rfl rfl ?_
          refine am_E.go (t2 := (60, [vR x, vI w, vI t, vI u, vI p, vI j], [vI j, vI t, vI u], aq_h m s F c)) rfl rfl ?_
          refine ae_sub rfl (am_ri (by omega) (by omega)) ?_
          show am_E _ (61, [vR x, vI w, vI t, vI u, vI p, vI j], [vI (t - j), vI u], aq_h m s F c) _
          refine am_E.go (t2 := (62, [vR x, vI w, vI t, vI u, vI p, vI j], [vI (am_w (u * (t - j)))], aq_h m s F c)) rfl rfl ?_
          refine am_E.go (t2 := (64, [vR x, vI w, vI t, vI u, vI p, vI j], [vI j, vI (am_w (u * (t - j)))], aq_h m s F c)) rfl rfl ?_
          refine am_E.go (t2 := (65, [vR x, vI w, vI t, vI u, vI p, vI j], [vI 1, vI j, vI (am_w (u * (t - j)))], aq_h m s F c)) rfl rfl ?_
          refine ae_add rfl (am_ri (by omega) (by omega)) ?_
          show am_E _ (66, [vR x, vI w, vI t, vI u, vI p, vI j], [vI (j + 1), vI (am_w (u * (t - j)))], aq_h m s F c) _
          refine ae_bin (z := am_w ((am_w (u * (t - j))).tdiv (j + 1))) rfl rfl (am_div_s (by omega)) ?_
          show am_E _ (67, [vR x, vI w, vI t, vI u, vI p, vI j], [vI (am_w ((am_w (u * (t - j))).tdiv (j + 1)))], aq_h m s F c) _
          refine am_E.go (t2 := (68, [vR x, vI w, vI t, vI (am_w ((am_w (u * (t - j))).tdiv (j + 1))), vI p, vI j], [], aq_h m s F c)) rfl rfl ?_
          refine am_E.go (t2 := (71, [vR x, vI w, vI t, vI (am_w ((am_w (u * (t - j))).tdiv (j + 1))), vI (am_w (p + (-4))), vI j], [], aq_h m s F c)) rfl rfl ?_
          refine ae_iinc rfl rfl (am_ri (by omega) (by omega)) ?_
          show am_E _ (74, [vR x, vI w, vI t, vI (am_w ((am_w (u * (t - j))).tdiv (j + 1))), vI (am_w (p + (-4))), vI (j + 1)], [], aq_h m s F c) _
          refine am_E.go (t2 := (22, [vR x, vI w, vI t, vI (am_w ((am_w (u * (t - j))).tdiv (j + 1))), vI (am_w (p + (-4))), vI (j + 1)], [], aq_h m s F c)) rfl rfl ?_
          exact qn_addState_l ⟨hmx, hFx, hFl, hFw⟩ hSw ht0 ht1 d (am_w ((am_w (u * (t - j))).tdiv (j + 1))) (am_w (p + (-4))) (j + 1) c hs (by omega) (by omega) (by omega)
        · refine am_E.go (t2 := (43, [vR x, vI w, vI t, vI u, vI p, vI j], [vR x], aq_h m s F c)) rfl rfl ?_
          refine aq_gf (v := vR (x + 2)) rfl (by omega) hFx (by decide) rfl ?_
          show am_E _ (46, [vR x, vI w, vI t, vI u, vI p, vI j], [vR (x + 2)], aq_h m s F c) _
          refine am_E.go (t2 := (48, [vR x, vI w, vI t, vI u, vI p, vI j], [vI p, vR (x + 2)], aq_h m s F c)) rfl rfl ?_
          refine am_E.go (t2 := (50, [vR x, vI w, vI t, vI u, vI p, vI j], [vI 40, vI p, vR (x + 2)], aq_h m s F c)) rfl rfl ?_
          refine ae_add rfl (am_ri (by omega) (by omega)) ?_
          show am_E _ (51, [vR x, vI w, vI t, vI u, vI p, vI j], [vI (p + 40), vR (x + 2)], aq_h m s F c) _
          refine am_E.go (t2 := (52, [vR x, vI w, vI t, vI u, vI p, vI j], [vI (p + 40), vR (x + 2), vI (p + 40), vR (x + 2)], aq_h m s F c)) rfl rfl ?_
          refine aq_al (ok := fun k => k == 0) (v := vI (c (x + 2) (p + 40))) rfl rfl (by omega) hFw rfl (by omega) (by omega) rfl ?_
          show am_E _ (53, [vR x, vI w, vI t, vI u, vI p, vI j], [vI (c (x + 2) (p + 40)), vI (p + 40), vR (x + 2)], aq_h m s F c) _
          refine am_E.go (t2 := (54, [vR x, vI w, vI t, vI u, vI p, vI j], [vI u, vI (c (x + 2) (p + 40)), vI (p + 40), vR (x + 2)], aq_h m s F c)) rfl rfl ?_
          refine am_E.go (t2 := (55, [vR x, vI w, vI t, vI u, vI p, vI j], [vI (am_w ((c (x + 2) (p + 40)) + u)), vI (p + 40), vR (x + 2)], aq_h m s F c)) rfl rfl ?_
          refine aq_as (kd := 0) rfl rfl (by omega) hFw (by omega) (by omega) rfl rfl ?_
          show am_E _ (56, [vR x, vI w, vI t, vI u, vI p, vI j], [], aq_h m s F (aq_u c (x + 2) (p + 40) (am_w ((c (x + 2) (p + 40)) + u)))) _
          generalize hdc_4 : aq_u c (x + 2) (p + 40) (am_w ((c (x + 2) (p + 40)) + u)) = c_4
          have sc_4 := aq_smu hs hdc_4 hSw
          refine am_E.go (t2 := (57, [vR x, vI w, vI t, vI u, vI p, vI j], [vI u], aq_h m s F c_4)) rfl rfl ?_
          refine am_E.go (t2 := (58, [vR x, vI w, vI t, vI u, vI p, vI j], [vI t, vI u], aq_h m s F c_4)) rfl rfl ?_
          refine am_E.go (t2 := (60, [vR x, vI w, vI t, vI u, vI p, vI j], [vI j, vI t, vI u], aq_h m s F c_4)) rfl rfl ?_
          refine ae_sub rfl (am_ri (by omega) (by omega)) ?_
          show am_E _ (61, [vR x, vI w, vI t, vI u, vI p, vI j], [vI (t - j), vI u], aq_h m s F c_4) _
          refine am_E.go (t2 := (62, [vR x, vI w, vI t, vI u, vI p, vI j], [vI (am_w (u * (t - j)))], aq_h m s F c_4)) rfl rfl ?_
          refine am_E.go (t2 := (64, [vR x, vI w, vI t, vI u, vI p, vI j], [vI j, vI (am_w (u * (t - j)))], aq_h m s F c_4)) rfl rfl ?_
          refine am_E.go (t2 := (65, [vR x, vI w, vI t, vI u, vI p, vI j], [vI 1, vI j, vI (am_w (u * (t - j)))], aq_h m s F c_4)) rfl rfl ?_
          refine ae_add rfl (am_ri (by omega) (by omega)) ?_
          show am_E _ (66, [vR x, vI w, vI t, vI u, vI p, vI j], [vI (j + 1), vI (am_w (u * (t - j)))], aq_h m s F c_4) _
          refine ae_bin (z := am_w ((am_w (u * (t - j))).tdiv (j + 1))) rfl rfl (am_div_s (by omega)) ?_
          show am_E _ (67, [vR x, vI w, vI t, vI u, vI p, vI j], [vI (am_w ((am_w (u * (t - j))).tdiv (j + 1)))], aq_h m s F c_4) _
          refine am_E.go (t2 := (68, [vR x, vI w, vI t, vI (am_w ((am_w (u * (t - j))).tdiv (j + 1))), vI p, vI j], [], aq_h m s F c_4)) rfl rfl ?_
          refine am_E.go (t2 := (71, [vR x, vI w, vI t, vI (am_w ((am_w (u * (t - j))).tdiv (j + 1))), vI (am_w (p + (-4))), vI j], [], aq_h m s F c_4)) rfl rfl ?_
          refine ae_iinc rfl rfl (am_ri (by omega) (by omega)) ?_
          show am_E _ (74, [vR x, vI w, vI t, vI (am_w ((am_w (u * (t - j))).tdiv (j + 1))), vI (am_w (p + (-4))), vI (j + 1)], [], aq_h m s F c_4) _
          refine am_E.go (t2 := (22, [vR x, vI w, vI t, vI (am_w ((am_w (u * (t - j))).tdiv (j + 1))), vI (am_w (p + (-4))), vI (j + 1)], [], aq_h m s F c_4)) rfl rfl ?_
          exact qn_addState_l ⟨hmx, hFx, hFl, hFw⟩ hSw ht0 ht1 d (am_w ((am_w (u * (t - j))).tdiv (j + 1))) (am_w (p + (-4))) (j + 1) c_4 sc_4 (by omega) (by omega) (by omega)

theorem qn_X1_addState {m s : Nat} {F : aq_F} {c : aq_C} {S : Nat → Prop} {x : Nat} (hX : cr_0 m F x) (hSw : S (x + 2)) {w t : Int} (ht0 : -1 ≤ t) (ht1 : t ≤ 100) : am_E ac_X1_addState (0, [vR x, vI w, vI t, vU, vU, vU], [], aq_h m s F c) (aq_Z m s F S c (fun r _ => r = none)) := by
  obtain ⟨hmx, hFx, hFl, hFw⟩ := hX
  refine am_E.go (t2 := (1, [vR x, vI w, vI t, vU, vU, vU], [vI t], aq_h m s F c)) rfl rfl ?_
  refine am_E.go (t2 := (2, [vR x, vI w, vI t, vU, vU, vU], [vI 2, vI t], aq_h m s F c)) rfl rfl ?_
  refine ae_bin (z := t.tmod 2) rfl rfl (am_rem_s (by omega)) ?_
  show am_E _ (3, [vR x, vI w, vI t, vU, vU, vU], [vI (t.tmod 2)], aq_h m s F c) _
  refine ae_if0 rfl (fun (q_1 : (t.tmod 2) ≠ 0) => ?_) (fun (q_1 : (t.tmod 2) = 0) => ?_)
  · refine am_E.go (t2 := (11, [vR x, vI w, vI t, vU, vU, vU], [vI (-1)], aq_h m s F c)) rfl rfl ?_
    refine am_E.go (t2 := (12, [vR x, vI w, vI t, vI (-1), vU, vU], [], aq_h m s F c)) rfl rfl ?_
    refine am_E.go (t2 := (13, [vR x, vI w, vI t, vI (-1), vU, vU], [vI w], aq_h m s F c)) rfl rfl ?_
    refine am_E.go (t2 := (14, [vR x, vI w, vI t, vI (-1), vU, vU], [vI 2, vI w], aq_h m s F c)) rfl rfl ?_
    refine am_E.go (t2 := (15, [vR x, vI w, vI t, vI (-1), vU, vU], [vI t, vI 2, vI w], aq_h m s F c)) rfl rfl ?_
    refine am_E.go (t2 := (16, [vR x, vI w, vI t, vI (-1), vU, vU], [vI (am_w (2 * t)), vI w], aq_h m s F c)) rfl rfl ?_
    refine am_E.go (t2 := (17, [vR x, vI w, vI t, vI (-1), vU, vU], [vI (am_w (w + (am_w (2 * t))))], aq_h m s F c)) rfl rfl ?_
    refine am_E.go (t2 := (19, [vR x, vI w, vI t, vI (-1), vI (am_w (w + (am_w (2 * t)))), vU], [], aq_h m s F c)) rfl rfl ?_
    refine am_E.go (t2 := (20, [vR x, vI w, vI t, vI (-1), vI (am_w (w + (am_w (2 * t)))), vU], [vI 0], aq_h m s F c)) rfl rfl ?_
    refine am_E.go (t2 := (22, [vR x, vI w, vI t, vI (-1), vI (am_w (w + (am_w (2 * t)))), vI 0], [], aq_h m s F c)) rfl rfl ?_
    exact qn_addState_l ⟨hmx, hFx, hFl, hFw⟩ hSw ht0 ht1 103 (-1) (am_w (w + (am_w (2 * t)))) 0 c aq_sm0 (by omega) (by omega) (by omega)
  · refine am_E.go (t2 := (7, [vR x, vI w, vI t, vU, vU, vU], [vI 1], aq_h m s F c)) rfl rfl ?_
    refine am_E.go (t2 := (11, [vR x, vI w, vI t, vU, vU, vU], [vI 1], aq_h m s F c)) rfl rfl ?_
    refine am_E.go (t2 := (12, [vR x, vI w, vI t, vI 1, vU, vU], [], aq_h m s F c)) rfl rfl ?_
    refine am_E.go (t2 := (13, [vR x, vI w, vI t, vI 1, vU, vU], [vI w], aq_h m s F c)) rfl rfl ?_
    refine am_E.go (t2 := (14, [vR x, vI w, vI t, vI 1, vU, vU], [vI 2, vI w], aq_h m s F c)) rfl rfl ?_
    refine am_E.go (t2 := (15, [vR x, vI w, vI t, vI 1, vU, vU], [vI t, vI 2, vI w], aq_h m s F c)) rfl rfl ?_
    refine am_E.go (t2 := (16, [vR x, vI w, vI t, vI 1, vU, vU], [vI (am_w (2 * t)), vI w], aq_h m s F c)) rfl rfl ?_
    refine am_E.go (t2 := (17, [vR x, vI w, vI t, vI 1, vU, vU], [vI (am_w (w + (am_w (2 * t))))], aq_h m s F c)) rfl rfl ?_
    refine am_E.go (t2 := (19, [vR x, vI w, vI t, vI 1, vI (am_w (w + (am_w (2 * t)))), vU], [], aq_h m s F c)) rfl rfl ?_
    refine am_E.go (t2 := (20, [vR x, vI w, vI t, vI 1, vI (am_w (w + (am_w (2 * t)))), vU], [vI 0], aq_h m s F c)) rfl rfl ?_
    refine am_E.go (t2 := (22, [vR x, vI w, vI t, vI 1, vI (am_w (w + (am_w (2 * t)))), vI 0], [], aq_h m s F c)) rfl rfl ?_
    exact qn_addState_l ⟨hmx, hFx, hFl, hFw⟩ hSw ht0 ht1 103 1 (am_w (w + (am_w (2 * t)))) 0 c aq_sm0 (by omega) (by omega) (by omega)

theorem qn_addStates_in {m s : Nat} {F : aq_F} {c0 : aq_C} {S : Nat → Prop} {x : Nat} (hX : cr_0 m F x) (hSw : S (x + 2)) (hnx : ¬ S x) (hny : ¬ S (x + 1)) (hl : cr_l x c0) {o n K : Nat} (hB : bx_0 m F o n K) (hSd : S (o + 6 + 3 * K)) (hSs : S (o + 7 + 3 * K)) (hxn : c0 x 0 = (n : Int)) (hdx : o + 6 + 3 * K ≠ x + 2) {tL : Int → Int} {tG tN : Int → Int → Int} (hT : bx_w F o n K tL tG tN) {tR : Int → Int} (hRr : bx_r F o K tR) (hst : 0 ≤ nu_o (bx_ol n 0) (2 * (n : Int)) 9 0 0 (2 * (n : Int) - 1) ∧ nu_o (bx_ol n 0) (2 * (n : Int)) 9 0 0 (2 * (n : Int) - 1) < (K : Int)) {b : Int} : ∀ (d : Nat) (st : Int) (t : Int) (r : Int) (w : Int) (i : Int) (v8 : am_V) (v9 : am_V) (c : aq_C) (hs : aq_sm S c0 c) (h0 : 0 ≤ i) (h1 : i ≤ c0 x 1) (h2 : 0 ≤ t) (h3 : t < (K : Int)) (h4 : 0 ≤ r) (h5 : r ≤ 5 * i) (hr : aq_rg (o + 6 + 3 * K) (2 * (n : Int)) 0 (2 * (n : Int)) c) (hd : c0 x 1 - i < (d : Int)) (K0 : ∀ (t2 : Int) (r2 : Int) (w2 : Int) (i2 : Int) (v82 : am_V) (v92 : am_V) (c2 : aq_C) (hs2 : aq_sm S c0 c2) (f1 : 0 ≤ t2) (f2 : t2 < (K : Int)) (f3 : 0 ≤ r2) (f4 : r2 ≤ 40) (hr2 : aq_rg (o + 6 + 3 * K) (2 * (n : Int)) 0 (2 * (n : Int)) c2), am_E ac_X1_addStates (162, [vR x, vR o, vI b, vI st, vI t2, vI r2, vI w2, vI i2, v82, v92], [], aq_h m s F c2) (aq_Z m s F S c0 (fun r d => r = none ∧ aq_rg (o + 6 + 3 * K) (2 * (n : Int)) 0 (2 * (n : Int)) d))), am_E ac_X1_addStates (54, [vR x, vR o, vI b, vI st, vI t, vI r, vI w, vI i, v8, v9], [], aq_h m s F c) (aq_Z m s F S c0 (fun r d => r = none ∧ aq_rg (o + 6 + 3 * K) (2 * (n : Int)) 0 (2 * (n : Int)) d))
  | 0, st, t, r, w, i, v8, v9, c, hs, h0, h1, h2, h3, h4, h5, hr, hd, K0 => by exfalso; omega
  | d + 1, st, t, r, w, i, v8, v9, c, hs, h0, h1, h2, h3, h4, h5, hr, hd, K0 => by
    obtain ⟨hmx, hFx, hFl, hFw⟩ := hX
    obtain ⟨hm, hn1, hn4, hK, hFo, hFd, hFs⟩ := hB
    obtain ⟨hL, hGg, hGr, hNg, hNr, hLt, hGt, hNt⟩ := hT
    obtain ⟨hR, hRt⟩ := hRr
    obtain ⟨hl0, hl1, hl2, hl3, hl4⟩ := hl
    refine am_E.go (t2 := (56, [vR x, vR o, vI b, vI st, vI t, vI r, vI w, vI i, v8, v9], [vI i], aq_h m s F c)) rfl rfl ?_
    refine am_E.go (t2 := (57, [vR x, vR o, vI b, vI st, vI t, vI r, vI w, vI i, v8, v9], [vR x, vI i], aq_h m s F c)) rfl rfl ?_
    refine aq_gf (v := vI (c x 1)) rfl (by omega) hFx (by decide) rfl ?_
    show am_E _ (60, [vR x, vR o, vI b, vI st, vI t, vI r, vI w, vI i, v8, v9], [vI (c x 1), vI i], aq_h m s F c) _
    have f_1 := hs x hnx 1
    refine ae_icmp rfl (fun (q_2 : (c x 1) ≤ i) => ?_) (fun (q_2 : i < (c x 1)) => ?_)
    · exact K0 t r w i (v8) (v9) c hs (by omega) (by omega) (by omega) (by omega) hr
    · refine am_E.go (t2 := (64, [vR x, vR o, vI b, vI st, vI t, vI r, vI w, vI i, v8, v9], [vI st], aq_h m s F c)) rfl rfl ?_
      refine am_E.go (t2 := (66, [vR x, vR o, vI b, vI st, vI t, vI r, vI w, vI i, v8, v9], [vI i, vI st], aq_h m s F c)) rfl rfl ?_
      refine am_E.go (t2 := (67, [vR x, vR o, vI b, vI st, vI t, vI r, vI w, vI i, v8, v9], [vI (am_shri st i)], aq_h m s F c)) rfl rfl ?_
      refine am_E.go (t2 := (68, [vR x, vR o, vI b, vI st, vI t, vI r, vI w, vI i, v8, v9], [vI 1, vI (am_shri st i)], aq_h m s F c)) rfl rfl ?_
      refine am_E.go (t2 := (69, [vR x, vR o, vI b, vI st, vI t, vI r, vI w, vI i, v8, v9], [vI (am_and (am_shri st i) 1)], aq_h m s F c)) rfl rfl ?_
      refine am_E.go (t2 := (70, [vR x, vR o, vI b, vI st, vI t, vI r, vI w, vI i, v8, v9], [vI 1, vI (am_and (am_shri st i) 1)], aq_h m s F c)) rfl rfl ?_
      refine ae_icmp rfl (fun (q_3 : (am_and (am_shri st i) 1) ≠ 1) => ?_) (fun (q_3 : (am_and (am_shri st i) 1) = 1) => ?_)
      · refine am_E.go (t2 := (78, [vR x, vR o, vI b, vI st, vI t, vI r, vI w, vI i, v8, v9], [vI 0], aq_h m s F c)) rfl rfl ?_
        refine am_E.go (t2 := (80, [vR x, vR o, vI b, vI st, vI t, vI r, vI w, vI i, vI 0, v9], [], aq_h m s F c)) rfl rfl ?_
        refine am_E.go (t2 := (82, [vR x, vR o, vI b, vI st, vI t, vI r, vI w, vI i, vI 0, v9], [vI w], aq_h m s F c)) rfl rfl ?_
        refine am_E.go (t2 := (84, [vR x, vR o, vI b, vI st, vI t, vI r, vI w, vI i, vI 0, v9], [vI 0, vI w], aq_h m s F c)) rfl rfl ?_
        refine am_E.go (t2 := (85, [vR x, vR o, vI b, vI st, vI t, vI r, vI w, vI i, vI 0, v9], [vR x, vI 0, vI w], aq_h m s F c)) rfl rfl ?_
        refine aq_gf (v := vR (x + 1)) rfl (by omega) hFx (by decide) rfl ?_
        show am_E _ (88, [vR x, vR o, vI b, vI st, vI t, vI r, vI w, vI i, vI 0, v9], [vR (x + 1), vI 0, vI w], aq_h m s F c) _
        refine am_E.go (t2 := (90, [vR x, vR o, vI b, vI st, vI t, vI r, vI w, vI i, vI 0, v9], [vI i, vR (x + 1), vI 0, vI w], aq_h m s F c)) rfl rfl ?_
        refine aq_al (ok := fun k => k == 0) (v := vI (c (x + 1) i)) rfl rfl (by omega) hFl rfl (by omega) (by omega) rfl ?_
        show am_E _ (91, [vR x, vR o, vI b, vI st, vI t, vI r, vI w, vI i, vI 0, v9], [vI (c (x + 1) i), vI 0, vI w], aq_h m s F c) _
        have f_4 := hs (x + 1) hny i
        have f_4b := hl4 i (by omega) (by omega)
        refine ae_if0 rfl (fun (q_5 : 0 ≤ (c (x + 1) i)) => ?_) (fun (q_5 : (c (x + 1) i) < 0) => ?_)
        · refine am_E.go (t2 := (99, [vR x, vR o, vI b, vI st, vI t, vI r, vI w, vI i, vI 0, v9], [vI 0, vI 0, vI w], aq_h m s F c)) rfl rfl ?_
          refine am_E.go (t2 := (102, [vR x, vR o, vI b, vI st, vI t, vI r, vI w, vI i, vI 0, v9], [vI w], aq_h m s F c)) rfl rfl ?_
          refine am_E.go (t2 := (103, [vR x, vR o, vI b, vI st, vI t, vI r, vI w, vI i, vI 0, v9], [vI 1, vI w], aq_h m s F c)) rfl rfl ?_
          refine am_E.go (t2 := (107, [vR x, vR o, vI b, vI st, vI t, vI r, vI w, vI i, vI 0, v9], [vI 1, vI w], aq_h m s F c)) rfl rfl ?_
          refine am_E.go (t2 := (108, [vR x, vR o, vI b, vI st, vI t, vI r, vI w, vI i, vI 0, v9], [vI (am_w (w + 1))], aq_h m s F c)) rfl rfl ?_
          refine am_E.go (t2 := (110, [vR x, vR o, vI b, vI st, vI t, vI r, vI (am_w (w + 1)), vI i, vI 0, v9], [], aq_h m s F c)) rfl rfl ?_
          refine am_E.go (t2 := (112, [vR x, vR o, vI b, vI st, vI t, vI r, vI (am_w (w + 1)), vI i, vI 0, v9], [vI 0], aq_h m s F c)) rfl rfl ?_
          refine am_E.go (t2 := (156, [vR x, vR o, vI b, vI st, vI t, vI r, vI (am_w (w + 1)), vI i, vI 0, v9], [], aq_h m s F c)) rfl rfl ?_
          refine ae_iinc rfl rfl (am_ri (by omega) (by omega)) ?_
          show am_E _ (159, [vR x, vR o, vI b, vI st, vI t, vI r, vI (am_w (w + 1)), vI (i + 1), vI 0, v9], [], aq_h m s F c) _
          refine am_E.go (t2 := (54, [vR x, vR o, vI b, vI st, vI t, vI r, vI (am_w (w + 1)), vI (i + 1), vI 0, v9], [], aq_h m s F c)) rfl rfl ?_
          exact qn_addStates_in ⟨hmx, hFx, hFl, hFw⟩ hSw hnx hny ⟨hl0, hl1, hl2, hl3, hl4⟩ ⟨hm, hn1, hn4, hK, hFo, hFd, hFs⟩ hSd hSs hxn hdx ⟨hL, hGg, hGr, hNg, hNr, hLt, hGt, hNt⟩ ⟨hR, hRt⟩ hst d st t r (am_w (w + 1)) (i + 1) (vI 0) (v9) c hs (by omega) (by omega) (by omega) (by omega) (by omega) (by omega) hr (by omega) K0
        · refine am_E.go (t2 := (95, [vR x, vR o, vI b, vI st, vI t, vI r, vI w, vI i, vI 0, v9], [vI 1, vI 0, vI w], aq_h m s F c)) rfl rfl ?_
          refine am_E.go (t2 := (99, [vR x, vR o, vI b, vI st, vI t, vI r, vI w, vI i, vI 0, v9], [vI 1, vI 0, vI w], aq_h m s F c)) rfl rfl ?_
          refine am_E.go (t2 := (106, [vR x, vR o, vI b, vI st, vI t, vI r, vI w, vI i, vI 0, v9], [vI w], aq_h m s F c)) rfl rfl ?_
          refine am_E.go (t2 := (107, [vR x, vR o, vI b, vI st, vI t, vI r, vI w, vI i, vI 0, v9], [vI (-1), vI w], aq_h m s F c)) rfl rfl ?_
          refine am_E.go (t2 := (108, [vR x, vR o, vI b, vI st, vI t, vI r, vI w, vI i, vI 0, v9], [vI (am_w (w + (-1)))], aq_h m s F c)) rfl rfl ?_
          refine am_E.go (t2 := (110, [vR x, vR o, vI b, vI st, vI t, vI r, vI (am_w (w + (-1))), vI i, vI 0, v9], [], aq_h m s F c)) rfl rfl ?_
          refine am_E.go (t2 := (112, [vR x, vR o, vI b, vI st, vI t, vI r, vI (am_w (w + (-1))), vI i, vI 0, v9], [vI 0], aq_h m s F c)) rfl rfl ?_
          refine am_E.go (t2 := (156, [vR x, vR o, vI b, vI st, vI t, vI r, vI (am_w (w + (-1))), vI i, vI 0, v9], [], aq_h m s F c)) rfl rfl ?_
          refine ae_iinc rfl rfl (am_ri (by omega) (by omega)) ?_
          show am_E _ (159, [vR x, vR o, vI b, vI st, vI t, vI r, vI (am_w (w + (-1))), vI (i + 1), vI 0, v9], [], aq_h m s F c) _
          refine am_E.go (t2 := (54, [vR x, vR o, vI b, vI st, vI t, vI r, vI (am_w (w + (-1))), vI (i + 1), vI 0, v9], [], aq_h m s F c)) rfl rfl ?_
          exact qn_addStates_in ⟨hmx, hFx, hFl, hFw⟩ hSw hnx hny ⟨hl0, hl1, hl2, hl3, hl4⟩ ⟨hm, hn1, hn4, hK, hFo, hFd, hFs⟩ hSd hSs hxn hdx ⟨hL, hGg, hGr, hNg, hNr, hLt, hGt, hNt⟩ ⟨hR, hRt⟩ hst d st t r (am_w (w + (-1))) (i + 1) (vI 0) (v9) c hs (by omega) (by omega) (by omega) (by omega) (by omega) (by omega) hr (by omega) K0
      · refine am_E.go (t2 := (74, [vR x, vR o, vI b, vI st, vI t, vI r, vI w, vI i, v8, v9], [vI 1], aq_h m s F c)) rfl rfl ?_
        refine am_E.go (t2 := (78, [vR x, vR o, vI b, vI st, vI t, vI r, vI w, vI i, v8, v9], [vI 1], aq_h m s F c)) rfl rfl ?_
        refine am_E.go (t2 := (80, [vR x, vR o, vI b, vI st, vI t, vI r, vI w, vI i, vI 1, v9], [], aq_h m s F c)) rfl rfl ?_
        refine am_E.go (t2 := (82, [vR x, vR o, vI b, vI st, vI t, vI r, vI w, vI i, vI 1, v9], [vI w], aq_h m s F c)) rfl rfl ?_
        refine am_E.go (t2 := (84, [vR x, vR o, vI b, vI st, vI t, vI r, vI w, vI i, vI 1, v9], [vI 1, vI w], aq_h m s F c)) rfl rfl ?_
        refine am_E.go (t2 := (85, [vR x, vR o, vI b, vI st, vI t, vI r, vI w, vI i, vI 1, v9], [vR x, vI 1, vI w], aq_h m s F c)) rfl rfl ?_
        refine aq_gf (v := vR (x + 1)) rfl (by omega) hFx (by decide) rfl ?_
        show am_E _ (88, [vR x, vR o, vI b, vI st, vI t, vI r, vI w, vI i, vI 1, v9], [vR (x + 1), vI 1, vI w], aq_h m s F c) _
        refine am_E.go (t2 := (90, [vR x, vR o, vI b, vI st, vI t, vI r, vI w, vI i, vI 1, v9], [vI i, vR (x + 1), vI 1, vI w], aq_h m s F c)) rfl rfl ?_
        refine aq_al (ok := fun k => k == 0) (v := vI (c (x + 1) i)) rfl rfl (by omega) hFl rfl (by omega) (by omega) rfl ?_
        show am_E _ (91, [vR x, vR o, vI b, vI st, vI t, vI r, vI w, vI i, vI 1, v9], [vI (c (x + 1) i), vI 1, vI w], aq_h m s F c) _
        have f_6 := hs (x + 1) hny i
        have f_6b := hl4 i (by omega) (by omega)
        refine ae_if0 rfl (fun (q_7 : 0 ≤ (c (x + 1) i)) => ?_) (fun (q_7 : (c (x + 1) i) < 0) => ?_)
        · refine am_E.go (t2 := (99, [vR x, vR o, vI b, vI st, vI t, vI r, vI w, vI i, vI 1, v9], [vI 0, vI 1, vI w], aq_h m s F c)) rfl rfl ?_
          refine am_E.go (t2 := (106, [vR x, vR o, vI b, vI st, vI t, vI r, vI w, vI i, vI 1, v9], [vI w], aq_h m s F c)) rfl rfl ?_
          refine am_E.go (t2 := (107, [vR x, vR o, vI b, vI st, vI t, vI r, vI w, vI i, vI 1, v9], [vI (-1), vI w], aq_h m s F c)) rfl rfl ?_
          refine am_E.go (t2 := (108, [vR x, vR o, vI b, vI st, vI t, vI r, vI w, vI i, vI 1, v9], [vI (am_w (w + (-1)))], aq_h m s F c)) rfl rfl ?_
          refine am_E.go (t2 := (110, [vR x, vR o, vI b, vI st, vI t, vI r, vI (am_w (w + (-1))), vI i, vI 1, v9], [], aq_h m s F c)) rfl rfl ?_
          refine am_E.go (t2 := (112, [vR x, vR o, vI b, vI st, vI t, vI r, vI (am_w (w + (-1))), vI i, vI 1, v9], [vI 1], aq_h m s F c)) rfl rfl ?_
          refine am_E.go (t2 := (115, [vR x, vR o, vI b, vI st, vI t, vI r, vI (am_w (w + (-1))), vI i, vI 1, v9], [], aq_h m s F c)) rfl rfl ?_
          refine am_E.go (t2 := (116, [vR x, vR o, vI b, vI st, vI t, vI r, vI (am_w (w + (-1))), vI i, vI 1, v9], [vR o], aq_h m s F c)) rfl rfl ?_
          refine aq_gf (v := vR (o + 5 + 2 * K)) rfl (by omega) hFo (by decide) rfl ?_
          show am_E _ (119, [vR x, vR o, vI b, vI st, vI t, vI r, vI (am_w (w + (-1))), vI i, vI 1, v9], [vR (o + 5 + 2 * K)], aq_h m s F c) _
          refine am_E.go (t2 := (121, [vR x, vR o, vI b, vI st, vI t, vI r, vI (am_w (w + (-1))), vI i, vI 1, v9], [vI t, vR (o + 5 + 2 * K)], aq_h m s F c)) rfl rfl ?_
          refine aq_al (ok := fun k => decide (3 ≤ k) && decide (k < 7)) (v := vR (o + 6 + 2 * K + t.toNat)) rfl rfl (by omega) hNg rfl (by omega) (by omega) (aq_gi (by omega)) ?_
          show am_E _ (122, [vR x, vR o, vI b, vI st, vI t, vI r, vI (am_w (w + (-1))), vI i, vI 1, v9], [vR (o + 6 + 2 * K + t.toNat)], aq_h m s F c) _
          refine am_E.go (t2 := (123, [vR x, vR o, vI b, vI st, vI t, vI r, vI (am_w (w + (-1))), vI i, vI 1, v9], [vR x, vR (o + 6 + 2 * K + t.toNat)], aq_h m s F c)) rfl rfl ?_
          refine aq_gf (v := vR (x + 1)) rfl (by omega) hFx (by decide) rfl ?_
          show am_E _ (126, [vR x, vR o, vI b, vI st, vI t, vI r, vI (am_w (w + (-1))), vI i, vI 1, v9], [vR (x + 1), vR (o + 6 + 2 * K + t.toNat)], aq_h m s F c) _
          refine am_E.go (t2 := (128, [vR x, vR o, vI b, vI st, vI t, vI r, vI (am_w (w + (-1))), vI i, vI 1, v9], [vI i, vR (x + 1), vR (o + 6 + 2 * K + t.toNat)], aq_h m s F c)) rfl rfl ?_
          refine aq_al (ok := fun k => k == 0) (v := vI (c (x + 1) i)) rfl rfl (by omega) hFl rfl (by omega) (by omega) rfl ?_
          show am_E _ (129, [vR x, vR o, vI b, vI st, vI t, vI r, vI (am_w (w + (-1))), vI i, vI 1, v9], [vI (c (x + 1) i), vR (o + 6 + 2 * K + t.toNat)], aq_h m s F c) _
          have f_8 := hs (x + 1) hny i
          have f_8b := hl4 i (by omega) (by omega)
          refine am_E.call rfl rfl rfl (Nat.le_of_ble_eq_true rfl) (rn_J9_abs (by omega) (by omega) _) ?_
          rintro r5 h5 ⟨rfl, v_9, rfl, hv_9⟩
          show am_E _ (132, [vR x, vR o, vI b, vI st, vI t, vI r, vI (am_w (w + (-1))), vI i, vI 1, v9], [vI v_9, vR (o + 6 + 2 * K + t.toNat)], aq_h m s F c) _
          refine am_E.go (t2 := (133, [vR x, vR o, vI b, vI st, vI t, vI r, vI (am_w (w + (-1))), vI i, vI 1, v9], [vI 1, vI v_9, vR (o + 6 + 2 * K + t.toNat)], aq_h m s F c)) rfl rfl ?_
          refine ae_sub rfl (am_ri (by omega) (by omega)) ?_
          show am_E _ (134, [vR x, vR o, vI b, vI st, vI t, vI r, vI (am_w (w + (-1))), vI i, vI 1, v9], [vI (v_9 - 1), vR (o + 6 + 2 * K + t.toNat)], aq_h m s F c) _
          refine aq_alt (ok := fun k => k == 0) rfl rfl (by omega) (hNr _ (by omega)) rfl (by omega) (by omega) ?_
          show am_E _ (135, [vR x, vR o, vI b, vI st, vI t, vI r, vI (am_w (w + (-1))), vI i, vI 1, v9], [vI (tN ((t.toNat : Nat) : Int) (v_9 - 1))], aq_h m s F c) _
          have f_10 := hNt ((t.toNat : Nat) : Int) (v_9 - 1) (by omega) (by omega) (by omega) (by omega)
          refine am_E.go (t2 := (137, [vR x, vR o, vI b, vI st, vI t, vI r, vI (am_w (w + (-1))), vI i, vI 1, vI (tN ((t.toNat : Nat) : Int) (v_9 - 1))], [], aq_h m s F c)) rfl rfl ?_
          refine am_E.go (t2 := (139, [vR x, vR o, vI b, vI st, vI t, vI r, vI (am_w (w + (-1))), vI i, vI 1, vI (tN ((t.toNat : Nat) : Int) (v_9 - 1))], [vI (tN ((t.toNat : Nat) : Int) (v_9 - 1))], aq_h m s F c)) rfl rfl ?_
          refine am_E.go (t2 := (142, [vR x, vR o, vI b, vI st, vI t, vI r, vI (am_w (w + (-1))), vI i, vI 1, vI (tN ((t.toNat : Nat) : Int) (v_9 - 1))], [vI 1000, vI (tN ((t.toNat : Nat) : Int) (v_9 - 1))], aq_h m s F c)) rfl rfl ?_
          refine ae_bin (z := (tN ((t.toNat : Nat) : Int) (v_9 - 1)) % 1000) rfl rfl (am_rem_e (by omega) (by decide)) ?_
          show am_E _ (143, [vR x, vR o, vI b, vI st, vI t, vI r, vI (am_w (w + (-1))), vI i, vI 1, vI (tN ((t.toNat : Nat) : Int) (v_9 - 1))], [vI ((tN ((t.toNat : Nat) : Int) (v_9 - 1)) % 1000)], aq_h m s F c) _
          refine am_E.go (t2 := (145, [vR x, vR o, vI b, vI st, vI ((tN ((t.toNat : Nat) : Int) (v_9 - 1)) % 1000), vI r, vI (am_w (w + (-1))), vI i, vI 1, vI (tN ((t.toNat : Nat) : Int) (v_9 - 1))], [], aq_h m s F c)) rfl rfl ?_
          refine am_E.go (t2 := (147, [vR x, vR o, vI b, vI st, vI ((tN ((t.toNat : Nat) : Int) (v_9 - 1)) % 1000), vI r, vI (am_w (w + (-1))), vI i, vI 1, vI (tN ((t.toNat : Nat) : Int) (v_9 - 1))], [vI r], aq_h m s F c)) rfl rfl ?_
          refine am_E.go (t2 := (149, [vR x, vR o, vI b, vI st, vI ((tN ((t.toNat : Nat) : Int) (v_9 - 1)) % 1000), vI r, vI (am_w (w + (-1))), vI i, vI 1, vI (tN ((t.toNat : Nat) : Int) (v_9 - 1))], [vI (tN ((t.toNat : Nat) : Int) (v_9 - 1)), vI r], aq_h m s F c)) rfl rfl ?_
          refine am_E.go (t2 := (152, [vR x, vR o, vI b, vI st, vI ((tN ((t.toNat : Nat) : Int) (v_9 - 1)) % 1000), vI r, vI (am_w (w + (-1))), vI i, vI 1, vI (tN ((t.toNat : Nat) : Int) (v_9 - 1))], [vI 1000, vI (tN ((t.toNat : Nat) : Int) (v_9 - 1)), vI r], aq_h m s F c)) rfl rfl ?_
          refine ae_bin (z := (tN ((t.toNat : Nat) : Int) (v_9 - 1)) / 1000) rfl rfl (am_div_e (by omega) (by omega) (by decide)) ?_
          show am_E _ (153, [vR x, vR o, vI b, vI st, vI ((tN ((t.toNat : Nat) : Int) (v_9 - 1)) % 1000), vI r, vI (am_w (w + (-1))), vI i, vI 1, vI (tN ((t.toNat : Nat) : Int) (v_9 - 1))], [vI ((tN ((t.toNat : Nat) : Int) (v_9 - 1)) / 1000), vI r], aq_h m s F c) _
          refine ae_add rfl (am_ri (by omega) (by omega)) ?_
          show am_E _ (154, [vR x, vR o, vI b, vI st, vI ((tN ((t.toNat : Nat) : Int) (v_9 - 1)) % 1000), vI r, vI (am_w (w + (-1))), vI i, vI 1, vI (tN ((t.toNat : Nat) : Int) (v_9 - 1))], [vI (r + ((tN ((t.toNat : Nat) : Int) (v_9 - 1)) / 1000))], aq_h m s F c) _
          refine am_E.go (t2 := (156, [vR x, vR o, vI b, vI st, vI ((tN ((t.toNat : Nat) : Int) (v_9 - 1)) % 1000), vI (r + ((tN ((t.toNat : Nat) : Int) (v_9 - 1)) / 1000)), vI (am_w (w + (-1))), vI i, vI 1, vI (tN ((t.toNat : Nat) : Int) (v_9 - 1))], [], aq_h m s F c)) rfl rfl ?_
          refine ae_iinc rfl rfl (am_ri (by omega) (by omega)) ?_
          show am_E _ (159, [vR x, vR o, vI b, vI st, vI ((tN ((t.toNat : Nat) : Int) (v_9 - 1)) % 1000), vI (r + ((tN ((t.toNat : Nat) : Int) (v_9 - 1)) / 1000)), vI (am_w (w + (-1))), vI (i + 1), vI 1, vI (tN ((t.toNat : Nat) : Int) (v_9 - 1))], [], aq_h m s F c) _
          refine am_E.go (t2 := (54, [vR x, vR o, vI b, vI st, vI ((tN ((t.toNat : Nat) : Int) (v_9 - 1)) % 1000), vI (r + ((tN ((t.toNat : Nat) : Int) (v_9 - 1)) / 1000)), vI (am_w (w + (-1))), vI (i + 1), vI 1, vI (tN ((t.toNat : Nat) : Int) (v_9 - 1))], [], aq_h m s F c)) rfl rfl ?_
          exact qn_addStates_in ⟨hmx, hFx, hFl, hFw⟩ hSw hnx hny ⟨hl0, hl1, hl2, hl3, hl4⟩ ⟨hm, hn1, hn4, hK, hFo, hFd, hFs⟩ hSd hSs hxn hdx ⟨hL, hGg, hGr, hNg, hNr, hLt, hGt, hNt⟩ ⟨hR, hRt⟩ hst d st ((tN ((t.toNat : Nat) : Int) (v_9 - 1)) % 1000) (r + ((tN ((t.toNat : Nat) : Int) (v_9 - 1)) / 1000)) (am_w (w + (-1))) (i + 1) (vI 1) (vI (tN ((t.toNat : Nat) : Int) (v_9 - 1))) c hs (by omega) (by omega) (by omega) (by omega) (by omega) (by omega) hr (by omega) K0
        · refine am_E.go (t2 := (95, [vR x, vR o, vI b, vI st, vI t, vI r, vI w, vI i, vI 1, v9], [vI 1, vI 1, vI w], aq_h m s F c)) rfl rfl ?_
          refine am_E.go (t2 := (99, [vR x, vR o, vI b, vI st, vI t, vI r, vI w, vI i, vI 1, v9], [vI 1, vI 1, vI w], aq_h m s F c)) rfl rfl ?_
          refine am_E.go (t2 := (102, [vR x, vR o, vI b, vI st, vI t, vI r, vI w, vI i, vI 1, v9], [vI w], aq_h m s F c)) rfl rfl ?_
          refine am_E.go (t2 := (103, [vR x, vR o, vI b, vI st, vI t, vI r, vI w, vI i, vI 1, v9], [vI 1, vI w], aq_h m s F c)) rfl rfl ?_
          refine am_E.go (t2 := (107, [vR x, vR o, vI b, vI st, vI t, vI r, vI w, vI i, vI 1, v9], [vI 1, vI w], aq_h m s F c)) rfl rfl ?_
          refine am_E.go (t2 := (108, [vR x, vR o, vI b, vI st, vI t, vI r, vI w, vI i, vI 1, v9], [vI (am_w (w + 1))], aq_h m s F c)) rfl rfl ?_
          refine am_E.go (t2 := (110, [vR x, vR o, vI b, vI st, vI t, vI r, vI (am_w (w + 1)), vI i, vI 1, v9], [], aq_h m s F c)) rfl rfl ?_
          refine am_E.go (t2 := (112, [vR x, vR o, vI b, vI st, vI t, vI r, vI (am_w (w + 1)), vI i, vI 1, v9], [vI 1], aq_h m s F c)) rfl rfl ?_
          refine am_E.go (t2 := (115, [vR x, vR o, vI b, vI st, vI t, vI r, vI (am_w (w + 1)), vI i, vI 1, v9], [], aq_h m s F c)) rfl rfl ?_
          refine am_E.go (t2 := (116, [vR x, vR o, vI b, vI st, vI t, vI r, vI (am_w (w + 1)), vI i, vI 1, v9], [vR o], aq_h m s F c)) rfl rfl ?_
          refine aq_gf (v := vR (o + 5 + 2 * K)) rfl (by omega) hFo (by decide) rfl ?_
          show am_E _ (119, [vR x, vR o, vI b, vI st, vI t, vI r, vI (am_w (w + 1)), vI i, vI 1, v9], [vR (o + 5 + 2 * K)], aq_h m s F c) _
          refine am_E.go (t2 := (121, [vR x, vR o, vI b, vI st, vI t, vI r, vI (am_w (w + 1)), vI i, vI 1, v9], [vI t, vR (o + 5 + 2 * K)], aq_h m s F c)) rfl rfl ?_
          refine aq_al (ok := fun k => decide (3 ≤ k) && decide (k < 7)) (v := vR (o + 6 + 2 * K + t.toNat)) rfl rfl (by omega) hNg rfl (by omega) (by omega) (aq_gi (by omega)) ?_
          show am_E _ (122, [vR x, vR o, vI b, vI st, vI t, vI r, vI (am_w (w + 1)), vI i, vI 1, v9], [vR (o + 6 + 2 * K + t.toNat)], aq_h m s F c) _
          refine am_E.go (t2 := (123, [vR x, vR o, vI b, vI st, vI t, vI r, vI (am_w (w + 1)), vI i, vI 1, v9], [vR x, vR (o + 6 + 2 * K + t.toNat)], aq_h m s F c)) rfl rfl ?_
          refine aq_gf (v := vR (x + 1)) rfl (by omega) hFx (by decide) rfl ?_
          show am_E _ (126, [vR x, vR o, vI b, vI st, vI t, vI r, vI (am_w (w + 1)), vI i, vI 1, v9], [vR (x + 1), vR (o + 6 + 2 * K + t.toNat)], aq_h m s F c) _
          refine am_E.go (t2 := (128, [vR x, vR o, vI b, vI st, vI t, vI r, vI (am_w (w + 1)), vI i, vI 1, v9], [vI i, vR (x + 1), vR (o + 6 + 2 * K + t.toNat)], aq_h m s F c)) rfl rfl ?_
          refine aq_al (ok := fun k => k == 0) (v := vI (c (x + 1) i)) rfl rfl (by omega) hFl rfl (by omega) (by omega) rfl ?_
          show am_E _ (129, [vR x, vR o, vI b, vI st, vI t, vI r, vI (am_w (w + 1)), vI i, vI 1, v9], [vI (c (x + 1) i), vR (o + 6 + 2 * K + t.toNat)], aq_h m s F c) _
          have f_11 := hs (x + 1) hny i
          have f_11b := hl4 i (by omega) (by omega)
          refine am_E.call rfl rfl rfl (Nat.le_of_ble_eq_true rfl) (rn_J9_abs (by omega) (by omega) _) ?_
          rintro r5 h5 ⟨rfl, v_12, rfl, hv_12⟩
          show am_E _ (132, [vR x, vR o, vI b, vI st, vI t, vI r, vI (am_w (w + 1)), vI i, vI 1, v9], [vI v_12, vR (o + 6 + 2 * K + t.toNat)], aq_h m s F c) _
          refine am_E.go (t2 := (133, [vR x, vR o, vI b, vI st, vI t, vI r, vI (am_w (w + 1)), vI i, vI 1, v9], [vI 1, vI v_12, vR (o + 6 + 2 * K + t.toNat)], aq_h m s F c)) rfl rfl ?_
          refine ae_sub rfl (am_ri (by omega) (by omega)) ?_
          show am_E _ (134, [vR x, vR o, vI b, vI st, vI t, vI r, vI (am_w (w + 1)), vI i, vI 1, v9], [vI (v_12 - 1), vR (o + 6 + 2 * K + t.toNat)], aq_h m s F c) _
          refine aq_alt (ok := fun k => k == 0) rfl rfl (by omega) (hNr _ (by omega)) rfl (by omega) (by omega) ?_
          show am_E _ (135, [vR x, vR o, vI b, vI st, vI t, vI r, vI (am_w (w + 1)), vI i, vI 1, v9], [vI (tN ((t.toNat : Nat) : Int) (v_12 - 1))], aq_h m s F c) _
          have f_13 := hNt ((t.toNat : Nat) : Int) (v_12 - 1) (by omega) (by omega) (by omega) (by omega)
          refine am_E.go (t2 := (137, [vR x, vR o, vI b, vI st, vI t, vI r, vI (am_w (w + 1)), vI i, vI 1, vI (tN ((t.toNat : Nat) : Int) (v_12 - 1))], [], aq_h m s F c)) rfl rfl ?_
          refine am_E.go (t2 := (139, [vR x, vR o, vI b, vI st, vI t, vI r, vI (am_w (w + 1)), vI i, vI 1, vI (tN ((t.toNat : Nat) : Int) (v_12 - 1))], [vI (tN ((t.toNat : Nat) : Int) (v_12 - 1))], aq_h m s F c)) rfl rfl ?_
          refine am_E.go (t2 := (142, [vR x, vR o, vI b, vI st, vI t, vI r, vI (am_w (w + 1)), vI i, vI 1, vI (tN ((t.toNat : Nat) : Int) (v_12 - 1))], [vI 1000, vI (tN ((t.toNat : Nat) : Int) (v_12 - 1))], aq_h m s F c)) rfl rfl ?_
          refine ae_bin (z := (tN ((t.toNat : Nat) : Int) (v_12 - 1)) % 1000) rfl rfl (am_rem_e (by omega) (by decide)) ?_
          show am_E _ (143, [vR x, vR o, vI b, vI st, vI t, vI r, vI (am_w (w + 1)), vI i, vI 1, vI (tN ((t.toNat : Nat) : Int) (v_12 - 1))], [vI ((tN ((t.toNat : Nat) : Int) (v_12 - 1)) % 1000)], aq_h m s F c) _
          refine am_E.go (t2 := (145, [vR x, vR o, vI b, vI st, vI ((tN ((t.toNat : Nat) : Int) (v_12 - 1)) % 1000), vI r, vI (am_w (w + 1)), vI i, vI 1, vI (tN ((t.toNat : Nat) : Int) (v_12 - 1))], [], aq_h m s F c)) rfl rfl ?_
          refine am_E.go (t2 := (147, [vR x, vR o, vI b, vI st, vI ((tN ((t.toNat : Nat) : Int) (v_12 - 1)) % 1000), vI r, vI (am_w (w + 1)), vI i, vI 1, vI (tN ((t.toNat : Nat) : Int) (v_12 - 1))], [vI r], aq_h m s F c)) rfl rfl ?_
          refine am_E.go (t2 := (149, [vR x, vR o, vI b, vI st, vI ((tN ((t.toNat : Nat) : Int) (v_12 - 1)) % 1000), vI r, vI (am_w (w + 1)), vI i, vI 1, vI (tN ((t.toNat : Nat) : Int) (v_12 - 1))], [vI (tN ((t.toNat : Nat) : Int) (v_12 - 1)), vI r], aq_h m s F c)) rfl rfl ?_
          refine am_E.go (t2 := (152, [vR x, vR o, vI b, vI st, vI ((tN ((t.toNat : Nat) : Int) (v_12 - 1)) % 1000), vI r, vI (am_w (w + 1)), vI i, vI 1, vI (tN ((t.toNat : Nat) : Int) (v_12 - 1))], [vI 1000, vI (tN ((t.toNat : Nat) : Int) (v_12 - 1)), vI r], aq_h m s F c)) rfl rfl ?_
          refine ae_bin (z := (tN ((t.toNat : Nat) : Int) (v_12 - 1)) / 1000) rfl rfl (am_div_e (by omega) (by omega) (by decide)) ?_
          show am_E _ (153, [vR x, vR o, vI b, vI st, vI ((tN ((t.toNat : Nat) : Int) (v_12 - 1)) % 1000), vI r, vI (am_w (w + 1)), vI i, vI 1, vI (tN ((t.toNat : Nat) : Int) (v_12 - 1))], [vI ((tN ((t.toNat : Nat) : Int) (v_12 - 1)) / 1000), vI r], aq_h m s F c) _
          refine ae_add rfl (am_ri (by omega) (by omega)) ?_
          show am_E _ (154, [vR x, vR o, vI b, vI st, vI ((tN ((t.toNat : Nat) : Int) (v_12 - 1)) % 1000), vI r, vI (am_w (w + 1)), vI i, vI 1, vI (tN ((t.toNat : Nat) : Int) (v_12 - 1))], [vI (r + ((tN ((t.toNat : Nat) : Int) (v_12 - 1)) / 1000))], aq_h m s F c) _
          refine am_E.go (t2 := (156, [vR x, vR o, vI b, vI st, vI ((tN ((t.toNat : Nat) : Int) (v_12 - 1)) % 1000), vI (r + ((tN ((t.toNat : Nat) : Int) (v_12 - 1)) / 1000)), vI (am_w (w + 1)), vI i, vI 1, vI (tN ((t.toNat : Nat) : Int) (v_12 - 1))], [], aq_h m s F c)) rfl rfl ?_
          refine ae_iinc rfl rfl (am_ri (by omega) (by omega)) ?_
          show am_E _ (159, [vR x, vR o, vI b, vI st, vI ((tN ((t.toNat : Nat) : Int) (v_12 - 1)) % 1000), vI (r + ((tN ((t.toNat : Nat) : Int) (v_12 - 1)) / 1000)), vI (am_w (w + 1)), vI (i + 1), vI 1, vI (tN ((t.toNat : Nat) : Int) (v_12 - 1))], [], aq_h m s F c) _
          refine am_E.go (t2 := (54, [vR x, vR o, vI b, vI st, vI ((tN ((t.toNat : Nat) : Int) (v_12 - 1)) % 1000), vI (r + ((tN ((t.toNat : Nat) : Int) (v_12 - 1)) / 1000)), vI (am_w (w + 1)), vI (i + 1), vI 1, vI (tN ((t.toNat : Nat) : Int) (v_12 - 1))], [], aq_h m s F c)) rfl rfl ?_
          exact qn_addStates_in ⟨hmx, hFx, hFl, hFw⟩ hSw hnx hny ⟨hl0, hl1, hl2, hl3, hl4⟩ ⟨hm, hn1, hn4, hK, hFo, hFd, hFs⟩ hSd hSs hxn hdx ⟨hL, hGg, hGr, hNg, hNr, hLt, hGt, hNt⟩ ⟨hR, hRt⟩ hst d st ((tN ((t.toNat : Nat) : Int) (v_12 - 1)) % 1000) (r + ((tN ((t.toNat : Nat) : Int) (v_12 - 1)) / 1000)) (am_w (w + 1)) (i + 1) (vI 1) (vI (tN ((t.toNat : Nat) : Int) (v_12 - 1))) c hs (by omega) (by omega) (by omega) (by omega) (by omega) (by omega) hr (by omega) K0

theorem qn_addStates_out {m s : Nat} {F : aq_F} {c0 : aq_C} {S : Nat → Prop} {x : Nat} (hX : cr_0 m F x) (hSw : S (x + 2)) (hnx : ¬ S x) (hny : ¬ S (x + 1)) (hl : cr_l x c0) {o n K : Nat} (hB : bx_0 m F o n K) (hSd : S (o + 6 + 3 * K)) (hSs : S (o + 7 + 3 * K)) (hxn : c0 x 0 = (n : Int)) (hdx : o + 6 + 3 * K ≠ x + 2) {tL : Int → Int} {tG tN : Int → Int → Int} (hT : bx_w F o n K tL tG tN) {tR : Int → Int} (hRr : bx_r F o K tR) (hst : 0 ≤ nu_o (bx_ol n 0) (2 * (n : Int)) 9 0 0 (2 * (n : Int) - 1) ∧ nu_o (bx_ol n 0) (2 * (n : Int)) 9 0 0 (2 * (n : Int) - 1) < (K : Int)) {b : Int} : ∀ (d : Nat) (st : Int) (v4 : am_V) (v5 : am_V) (v6 : am_V) (v7 : am_V) (v8 : am_V) (v9 : am_V) (c : aq_C) (hs : aq_sm S c0 c) (h0 : 0 ≤ st) (h1 : st ≤ 256) (h2 : 0 ≤ b) (h3 : b < (K : Int)) (hr : aq_rg (o + 6 + 3 * K) (2 * (n : Int)) 0 (2 * (n : Int)) c) (hd : 256 - st < (d : Int)), am_E ac_X1_addStates (32, [vR x, vR o, vI b, vI st, v4, v5, v6, v7, v8, v9], [], aq_h m s F c) (aq_Z m s F S c0 (fun r d => r = none ∧ aq_rg (o + 6 + 3 * K) (2 * (n : Int)) 0 (2 * (n : Int)) d))
  | 0, st, v4, v5, v6, v7, v8, v9, c, hs, h0, h1, h2, h3, hr, hd => by exfalso; omega
  | d + 1, st, v4, v5, v6, v7, v8, v9, c, hs, h0, h1, h2, h3, hr, hd => by
    obtain ⟨hmx, hFx, hFl, hFw⟩ := hX
    obtain ⟨hm, hn1, hn4, hK, hFo, hFd, hFs⟩ := hB
    obtain ⟨hL, hGg, hGr, hNg, hNr, hLt, hGt, hNt⟩ := hT
    obtain ⟨hR, hRt⟩ := hRr
    obtain ⟨hl0, hl1, hl2, hl3, hl4⟩ := hl
    refine am_E.go (t2 := (33, [vR x, vR o, vI b, vI st, v4, v5, v6, v7, v8, v9], [vI st], aq_h m s F c)) rfl rfl ?_
    refine am_E.go (t2 := (34, [vR x, vR o, vI b, vI st, v4, v5, v6, v7, v8, v9], [vI 1, vI st], aq_h m s F c)) rfl rfl ?_
    refine am_E.go (t2 := (35, [vR x, vR o, vI b, vI st, v4, v5, v6, v7, v8, v9], [vR x, vI 1, vI st], aq_h m s F c)) rfl rfl ?_
    refine aq_gf (v := vI (c x 1)) rfl (by omega) hFx (by decide) rfl ?_
    show am_E _ (38, [vR x, vR o, vI b, vI st, v4, v5, v6, v7, v8, v9], [vI (c x 1), vI 1, vI st], aq_h m s F c) _
    have f_1 := hs x hnx 1
    have e9 := am_shi1 (k := (c x 1)) (by omega) (by omega)
    refine ae_bin (z := am_shi 1 (c x 1)) rfl rfl rfl ?_
    refine ae_icmp rfl (fun (q_2 : (am_shi 1 (c x 1)) ≤ st) => ?_) (fun (q_2 : st < (am_shi 1 (c x 1))) => ?_)
    · refine am_E.ret rfl rfl ?_
      exact ⟨_, rfl, hs, rfl, hr⟩
    · refine am_E.go (t2 := (43, [vR x, vR o, vI b, vI st, v4, v5, v6, v7, v8, v9], [vI b], aq_h m s F c)) rfl rfl ?_
      refine am_E.go (t2 := (45, [vR x, vR o, vI b, vI st, vI b, v5, v6, v7, v8, v9], [], aq_h m s F c)) rfl rfl ?_
      refine am_E.go (t2 := (46, [vR x, vR o, vI b, vI st, vI b, v5, v6, v7, v8, v9], [vI 0], aq_h m s F c)) rfl rfl ?_
      refine am_E.go (t2 := (48, [vR x, vR o, vI b, vI st, vI b, vI 0, v6, v7, v8, v9], [], aq_h m s F c)) rfl rfl ?_
      refine am_E.go (t2 := (49, [vR x, vR o, vI b, vI st, vI b, vI 0, v6, v7, v8, v9], [vI 0], aq_h m s F c)) rfl rfl ?_
      refine am_E.go (t2 := (51, [vR x, vR o, vI b, vI st, vI b, vI 0, vI 0, v7, v8, v9], [], aq_h m s F c)) rfl rfl ?_
      refine am_E.go (t2 := (52, [vR x, vR o, vI b, vI st, vI b, vI 0, vI 0, v7, v8, v9], [vI 0], aq_h m s F c)) rfl rfl ?_
      refine am_E.go (t2 := (54, [vR x, vR o, vI b, vI st, vI b, vI 0, vI 0, vI 0, v8, v9], [], aq_h m s F c)) rfl rfl ?_
      refine qn_addStates_in ⟨hmx, hFx, hFl, hFw⟩ hSw hnx hny ⟨hl0, hl1, hl2, hl3, hl4⟩ ⟨hm, hn1, hn4, hK, hFo, hFd, hFs⟩ hSd hSs hxn hdx ⟨hL, hGg, hGr, hNg, hNr, hLt, hGt, hNt⟩ ⟨hR, hRt⟩ hst 9 st b 0 0 0 (v8) (v9) c hs (by omega) (by omega) (by omega) (by omega) (by omega) (by omega) hr (by omega) ?_
      · intro t2_54 r2_54 w2_54 i2_54 v82_54 v92_54 c_3 sc_3 f1_54 f2_54 f3_54 f4_54 hr2_54
        refine am_E.go (t2 := (163, [vR x, vR o, vI b, vI st, vI t2_54, vI r2_54, vI w2_54, vI i2_54, v82_54, v92_54], [vR x], aq_h m s F c_3)) rfl rfl ?_
        refine am_E.go (t2 := (165, [vR x, vR o, vI b, vI st, vI t2_54, vI r2_54, vI w2_54, vI i2_54, v82_54, v92_54], [vI w2_54, vR x], aq_h m s F c_3)) rfl rfl ?_
        refine am_E.go (t2 := (167, [vR x, vR o, vI b, vI st, vI t2_54, vI r2_54, vI w2_54, vI i2_54, v82_54, v92_54], [vI r2_54, vI w2_54, vR x], aq_h m s F c_3)) rfl rfl ?_
        refine am_E.go (t2 := (168, [vR x, vR o, vI b, vI st, vI t2_54, vI r2_54, vI w2_54, vI i2_54, v82_54, v92_54], [vR o, vI r2_54, vI w2_54, vR x], aq_h m s F c_3)) rfl rfl ?_
        refine aq_gf (v := vR (o + 2 + K)) rfl (by omega) hFo (by decide) rfl ?_
        show am_E _ (171, [vR x, vR o, vI b, vI st, vI t2_54, vI r2_54, vI w2_54, vI i2_54, v82_54, v92_54], [vR (o + 2 + K), vI r2_54, vI w2_54, vR x], aq_h m s F c_3) _
        refine am_E.go (t2 := (173, [vR x, vR o, vI b, vI st, vI t2_54, vI r2_54, vI w2_54, vI i2_54, v82_54, v92_54], [vI t2_54, vR (o + 2 + K), vI r2_54, vI w2_54, vR x], aq_h m s F c_3)) rfl rfl ?_
        refine aq_alt (ok := fun k => k == 0) rfl rfl (by omega) hR rfl (by omega) (by omega) ?_
        show am_E _ (174, [vR x, vR o, vI b, vI st, vI t2_54, vI r2_54, vI w2_54, vI i2_54, v82_54, v92_54], [vI (tR t2_54), vI r2_54, vI w2_54, vR x], aq_h m s F c_3) _
        have f_4 := hRt t2_54 (by omega) (by omega)
        refine ae_add rfl (am_ri (by omega) (by omega)) ?_
        show am_E _ (175, [vR x, vR o, vI b, vI st, vI t2_54, vI r2_54, vI w2_54, vI i2_54, v82_54, v92_54], [vI (r2_54 + (tR t2_54)), vI w2_54, vR x], aq_h m s F c_3) _
        refine am_E.go (t2 := (176, [vR x, vR o, vI b, vI st, vI t2_54, vI r2_54, vI w2_54, vI i2_54, v82_54, v92_54], [vI 1, vI (r2_54 + (tR t2_54)), vI w2_54, vR x], aq_h m s F c_3)) rfl rfl ?_
        refine ae_sub rfl (am_ri (by omega) (by omega)) ?_
        show am_E _ (177, [vR x, vR o, vI b, vI st, vI t2_54, vI r2_54, vI w2_54, vI i2_54, v82_54, v92_54], [vI ((r2_54 + (tR t2_54)) - 1), vI w2_54, vR x], aq_h m s F c_3) _
        refine aq_callv (y := 3) (as2 := [vI w2_54, vI ((r2_54 + (tR t2_54)) - 1)]) (rest := []) rfl rfl (by decide) (Nat.le_of_ble_eq_true rfl) rfl rfl (Nat.le_of_ble_eq_true rfl) (by omega) hFx rfl (Nat.le_of_ble_eq_true rfl) (qn_X1_addState (S := fun a => a = x + 2) ⟨hmx, hFx, hFl, hFw⟩ rfl (by omega) (by omega)) ?_
        rintro r5 h5 ⟨c_5, rfl, sc_5, rfl⟩
        show am_E _ (180, [vR x, vR o, vI b, vI st, vI t2_54, vI r2_54, vI w2_54, vI i2_54, v82_54, v92_54], [], aq_h m s F c_5) _
        refine ae_iinc rfl rfl (am_ri (by omega) (by omega)) ?_
        show am_E _ (183, [vR x, vR o, vI b, vI (st + 1), vI t2_54, vI r2_54, vI w2_54, vI i2_54, v82_54, v92_54], [], aq_h m s F c_5) _
        refine am_E.go (t2 := (32, [vR x, vR o, vI b, vI (st + 1), vI t2_54, vI r2_54, vI w2_54, vI i2_54, v82_54, v92_54], [], aq_h m s F c_5)) rfl rfl ?_
        exact qn_addStates_out ⟨hmx, hFx, hFl, hFw⟩ hSw hnx hny ⟨hl0, hl1, hl2, hl3, hl4⟩ ⟨hm, hn1, hn4, hK, hFo, hFd, hFs⟩ hSd hSs hxn hdx ⟨hL, hGg, hGr, hNg, hNr, hLt, hGt, hNt⟩ ⟨hR, hRt⟩ hst d (st + 1) (vI t2_54) (vI r2_54) (vI w2_54) (vI i2_54) (v82_54) (v92_54) c_5 (aq_smt sc_3 (aq_smi sc_5 (fun a h => by rw [h]; exact hSw))) (by omega) (by omega) (by omega) (by omega) (aq_rgs hr2_54 sc_5 hdx) (by omega)

theorem qn_addStates_z {m s : Nat} {F : aq_F} {c0 : aq_C} {S : Nat → Prop} {x : Nat} (hX : cr_0 m F x) (hSw : S (x + 2)) (hnx : ¬ S x) (hny : ¬ S (x + 1)) (hl : cr_l x c0) {o n K : Nat} (hB : bx_0 m F o n K) (hSd : S (o + 6 + 3 * K)) (hSs : S (o + 7 + 3 * K)) (hxn : c0 x 0 = (n : Int)) (hdx : o + 6 + 3 * K ≠ x + 2) {tL : Int → Int} {tG tN : Int → Int → Int} (hT : bx_w F o n K tL tG tN) {tR : Int → Int} (hRr : bx_r F o K tR) (hst : 0 ≤ nu_o (bx_ol n 0) (2 * (n : Int)) 9 0 0 (2 * (n : Int) - 1) ∧ nu_o (bx_ol n 0) (2 * (n : Int)) 9 0 0 (2 * (n : Int) - 1) < (K : Int)) : ∀ (d : Nat) (k : Int) (v3 : am_V) (v4 : am_V) (v5 : am_V) (v6 : am_V) (v7 : am_V) (v8 : am_V) (v9 : am_V) (c : aq_C) (hs : aq_sm S c0 c) (h0 : 0 ≤ k) (h1 : k ≤ 81) (hr : aq_rg (o + 6 + 3 * K) (2 * (n : Int)) 0 (2 * (n : Int)) c) (hd : 81 - k < (d : Int)), am_E ac_X1_addStates (2, [vR x, vR o, vI k, v3, v4, v5, v6, v7, v8, v9], [], aq_h m s F c) (aq_Z m s F S c0 (fun r d => r = none ∧ aq_rg (o + 6 + 3 * K) (2 * (n : Int)) 0 (2 * (n : Int)) d))
  | 0, k, v3, v4, v5, v6, v7, v8, v9, c, hs, h0, h1, hr, hd => by exfalso; omega
  | d + 1, k, v3, v4, v5, v6, v7, v8, v9, c, hs, h0, h1, hr, hd => by
    obtain ⟨hmx, hFx, hFl, hFw⟩ := hX
    obtain ⟨hm, hn1, hn4, hK, hFo, hFd, hFs⟩ := hB
    obtain ⟨hL, hGg, hGr, hNg, hNr, hLt, hGt, hNt⟩ := hT
    obtain ⟨hR, hRt⟩ := hRr
    obtain ⟨hl0, hl1, hl2, hl3, hl4⟩ := hl
    refine am_E.go (t2 := (3, [vR x, vR o, vI k, v3, v4, v5, v6, v7, v8, v9], [vI k], aq_h m s F c)) rfl rfl ?_
    refine am_E.go (t2 := (4, [vR x, vR o, vI k, v3, v4, v5, v6, v7, v8, v9], [vR x, vI k], aq_h m s F c)) rfl rfl ?_
    refine aq_gf (v := vR (x + 2)) rfl (by omega) hFx (by decide) rfl ?_
    show am_E _ (7, [vR x, vR o, vI k, v3, v4, v5, v6, v7, v8, v9], [vR (x + 2), vI k], aq_h m s F c) _
    refine aq_len rfl (by omega) hFw (by decide) ?_
    show am_E _ (8, [vR x, vR o, vI k, v3, v4, v5, v6, v7, v8, v9], [vI ((81 : Nat) : Int), vI k], aq_h m s F c) _
    refine ae_icmp rfl (fun (q_1 : ((81 : Nat) : Int) ≤ k) => ?_) (fun (q_1 : k < ((81 : Nat) : Int)) => ?_)
    · refine am_E.go (t2 := (25, [vR x, vR o, vI k, v3, v4, v5, v6, v7, v8, v9], [vR o], aq_h m s F c)) rfl rfl ?_
      refine am_E.go (t2 := (26, [vR x, vR o, vI k, v3, v4, v5, v6, v7, v8, v9], [vI 0, vR o], aq_h m s F c)) rfl rfl ?_
      refine aq_callv (y := 2) (as2 := [vI 0]) (rest := []) rfl rfl (by decide) (Nat.le_of_ble_eq_true rfl) rfl rfl (Nat.le_of_ble_eq_true rfl) (by omega) hFo rfl (Nat.le_of_ble_eq_true rfl) (qn_X0_ofLetter ⟨hm, hn1, hn4, hK, hFo, hFd, hFs⟩ hSd hSs hr) ?_
      rintro r5 h5 ⟨c_2, rfl, sc_2, hrc_2, hc_2⟩
      rcases hc_2 with ⟨hx, _⟩ | ⟨_, hy, rfl⟩
      · exact absurd (Or.inl rfl) hx
      have e7 := nu_oc hy (fun i h1 h2 => by have := hrc_2 i h1 h2; omega) 9 0 0 (2 * (n : Int) - 1) (by omega)
      show am_E _ (29, [vR x, vR o, vI k, v3, v4, v5, v6, v7, v8, v9], [vI (nu_o (c_2 (o + 6 + 3 * K)) (2 * (n : Int)) 9 0 0 (2 * (n : Int) - 1))], aq_h m s F c_2) _
      refine am_E.go (t2 := (30, [vR x, vR o, vI (nu_o (c_2 (o + 6 + 3 * K)) (2 * (n : Int)) 9 0 0 (2 * (n : Int) - 1)), v3, v4, v5, v6, v7, v8, v9], [], aq_h m s F c_2)) rfl rfl ?_
      refine am_E.go (t2 := (31, [vR x, vR o, vI (nu_o (c_2 (o + 6 + 3 * K)) (2 * (n : Int)) 9 0 0 (2 * (n : Int) - 1)), v3, v4, v5, v6, v7, v8, v9], [vI 0], aq_h m s F c_2)) rfl rfl ?_
      refine am_E.go (t2 := (32, [vR x, vR o, vI (nu_o (c_2 (o + 6 + 3 * K)) (2 * (n : Int)) 9 0 0 (2 * (n : Int) - 1)), vI 0, v4, v5, v6, v7, v8, v9], [], aq_h m s F c_2)) rfl rfl ?_
      exact qn_addStates_out ⟨hmx, hFx, hFl, hFw⟩ hSw hnx hny ⟨hl0, hl1, hl2, hl3, hl4⟩ ⟨hm, hn1, hn4, hK, hFo, hFd, hFs⟩ hSd hSs hxn hdx ⟨hL, hGg, hGr, hNg, hNr, hLt, hGt, hNt⟩ ⟨hR, hRt⟩ hst 258 0 (v4) (v5) (v6) (v7) (v8) (v9) c_2 (aq_smt hs sc_2) (by omega) (by omega) (by omega) (by omega) hrc_2 (by omega)
    · refine am_E.go (t2 := (12, [vR x, vR o, vI k, v3, v4, v5, v6, v7, v8, v9], [vR x], aq_h m s F c)) rfl rfl ?_
      refine aq_gf (v := vR (x + 2)) rfl (by omega) hFx (by decide) rfl ?_
      show am_E _ (15, [vR x, vR o, vI k, v3, v4, v5, v6, v7, v8, v9], [vR (x + 2)], aq_h m s F c) _
      refine am_E.go (t2 := (16, [vR x, vR o, vI k, v3, v4, v5, v6, v7, v8, v9], [vI k, vR (x + 2)], aq_h m s F c)) rfl rfl ?_
      refine am_E.go (t2 := (17, [vR x, vR o, vI k, v3, v4, v5, v6, v7, v8, v9], [vI 0, vI k, vR (x + 2)], aq_h m s F c)) rfl rfl ?_
      refine aq_as (kd := 0) rfl rfl (by omega) hFw (by omega) (by omega) rfl rfl ?_
      show am_E _ (18, [vR x, vR o, vI k, v3, v4, v5, v6, v7, v8, v9], [], aq_h m s F (aq_u c (x + 2) k 0)) _
      generalize hdc_3 : aq_u c (x + 2) k 0 = c_3
      have sc_3 := aq_smu hs hdc_3 hSw
      have hdrc_3 := aq_rgn hr hdc_3 hdx
      refine ae_iinc rfl rfl (am_ri (by omega) (by omega)) ?_
      show am_E _ (21, [vR x, vR o, vI (k + 1), v3, v4, v5, v6, v7, v8, v9], [], aq_h m s F c_3) _
      refine am_E.go (t2 := (2, [vR x, vR o, vI (k + 1), v3, v4, v5, v6, v7, v8, v9], [], aq_h m s F c_3)) rfl rfl ?_
      exact qn_addStates_z ⟨hmx, hFx, hFl, hFw⟩ hSw hnx hny ⟨hl0, hl1, hl2, hl3, hl4⟩ ⟨hm, hn1, hn4, hK, hFo, hFd, hFs⟩ hSd hSs hxn hdx ⟨hL, hGg, hGr, hNg, hNr, hLt, hGt, hNt⟩ ⟨hR, hRt⟩ hst d (k + 1) (v3) (v4) (v5) (v6) (v7) (v8) (v9) c_3 sc_3 (by omega) (by omega) hdrc_3 (by omega)

theorem qn_X1_addStates {m s : Nat} {F : aq_F} {c : aq_C} {S : Nat → Prop} {x : Nat} (hX : cr_0 m F x) (hSw : S (x + 2)) (hnx : ¬ S x) (hny : ¬ S (x + 1)) (hl : cr_l x c) {o n K : Nat} (hB : bx_0 m F o n K) (hSd : S (o + 6 + 3 * K)) (hSs : S (o + 7 + 3 * K)) (hxn : c x 0 = (n : Int)) (hdx : o + 6 + 3 * K ≠ x + 2) {tL : Int → Int} {tG tN : Int → Int → Int} (hT : bx_w F o n K tL tG tN) {tR : Int → Int} (hRr : bx_r F o K tR) (hst : 0 ≤ nu_o (bx_ol n 0) (2 * (n : Int)) 9 0 0 (2 * (n : Int) - 1) ∧ nu_o (bx_ol n 0) (2 * (n : Int)) 9 0 0 (2 * (n : Int) - 1) < (K : Int)) (hr : aq_rg (o + 6 + 3 * K) (2 * (n : Int)) 0 (2 * (n : Int)) c) : am_E ac_X1_addStates (0, [vR x, vR o, vU, vU, vU, vU, vU, vU, vU, vU], [], aq_h m s F c) (aq_Z m s F S c (fun r d => r = none ∧ aq_rg (o + 6 + 3 * K) (2 * (n : Int)) 0 (2 * (n : Int)) d)) := by
  obtain ⟨hmx, hFx, hFl, hFw⟩ := hX
  obtain ⟨hm, hn1, hn4, hK, hFo, hFd, hFs⟩ := hB
  obtain ⟨hL, hGg, hGr, hNg, hNr, hLt, hGt, hNt⟩ := hT
  obtain ⟨hR, hRt⟩ := hRr
  obtain ⟨hl0, hl1, hl2, hl3, hl4⟩ := hl
  refine am_E.go (t2 := (1, [vR x, vR o, vU, vU, vU, vU, vU, vU, vU, vU], [vI 0], aq_h m s F c)) rfl rfl ?_
  refine am_E.go (t2 := (2, [vR x, vR o, vI 0, vU, vU, vU, vU, vU, vU, vU], [], aq_h m s F c)) rfl rfl ?_
  exact qn_addStates_z ⟨hmx, hFx, hFl, hFw⟩ hSw hnx hny ⟨hl0, hl1, hl2, hl3, hl4⟩ ⟨hm, hn1, hn4, hK, hFo, hFd, hFs⟩ hSd hSs hxn hdx ⟨hL, hGg, hGr, hNg, hNr, hLt, hGt, hNt⟩ ⟨hR, hRt⟩ hst 83 0 (vU) (vU) (vU) (vU) (vU) (vU) (vU) c aq_sm0 (by omega) (by omega) hr (by omega)

theorem qn_X1_wholeAt {m s : Nat} {F : aq_F} {c : aq_C} {S : Nat → Prop} {x : Nat} (hX : cr_0 m F x) (hSw : S (x + 2)) (hnx : ¬ S x) (hny : ¬ S (x + 1)) (hl : cr_l x c) {o n K : Nat} (hB : bx_0 m F o n K) (hSd : S (o + 6 + 3 * K)) (hSs : S (o + 7 + 3 * K)) (hxn : c x 0 = (n : Int)) (hdx : o + 6 + 3 * K ≠ x + 2) {tL : Int → Int} {tG tN : Int → Int → Int} (hT : bx_w F o n K tL tG tN) {tR : Int → Int} (hRr : bx_r F o K tR) (hst : 0 ≤ nu_o (bx_ol n 0) (2 * (n : Int)) 9 0 0 (2 * (n : Int) - 1) ∧ nu_o (bx_ol n 0) (2 * (n : Int)) 9 0 0 (2 * (n : Int) - 1) < (K : Int)) (hr : aq_rg (o + 6 + 3 * K) (2 * (n : Int)) 0 (2 * (n : Int)) c) {k : Int} (hk0 : -40 ≤ k) (hk1 : k ≤ 40) : am_E ac_X1_wholeAt (0, [vR x, vI k, vR o], [], aq_h m s F c) (aq_Z m s F (fun a => S a ∨ a = x) c (fun r d => aq_vi r ∧ aq_rg (o + 6 + 3 * K) (2 * (n : Int)) 0 (2 * (n : Int)) d ∧ d x 0 = c x 0 ∧ d x 1 = c x 1 ∧ ∀ i, d (x + 1) i = c (x + 1) i)) := by
  obtain ⟨hmx, hFx, hFl, hFw⟩ := hX
  obtain ⟨hm, hn1, hn4, hK, hFo, hFd, hFs⟩ := hB
  obtain ⟨hL, hGg, hGr, hNg, hNr, hLt, hGt, hNt⟩ := hT
  obtain ⟨hR, hRt⟩ := hRr
  obtain ⟨hl0, hl1, hl2, hl3, hl4⟩ := hl
  have hdo : o + 6 + 3 * K ≠ x := fun e => hnx (by rw [← e]; exact hSd)
  refine am_E.go (t2 := (1, [vR x, vI k, vR o], [vR x], aq_h m s F c)) rfl rfl ?_
  refine aq_gf (v := vI (c x 4)) rfl (by omega) hFx (by decide) rfl ?_
  show am_E _ (4, [vR x, vI k, vR o], [vI (c x 4)], aq_h m s F c) _
  skip
  refine ae_if0 rfl (fun (q_2 : (c x 4) ≠ 0) => ?_) (fun (q_2 : (c x 4) = 0) => ?_)
  · refine am_E.go (t2 := (18, [vR x, vI k, vR o], [vR x], aq_h m s F c)) rfl rfl ?_
    refine aq_gf (v := vR (x + 2)) rfl (by omega) hFx (by decide) rfl ?_
    show am_E _ (21, [vR x, vI k, vR o], [vR (x + 2)], aq_h m s F c) _
    refine am_E.go (t2 := (22, [vR x, vI k, vR o], [vI k, vR (x + 2)], aq_h m s F c)) rfl rfl ?_
    refine am_E.go (t2 := (24, [vR x, vI k, vR o], [vI 40, vI k, vR (x + 2)], aq_h m s F c)) rfl rfl ?_
    refine ae_add rfl (am_ri (by omega) (by omega)) ?_
    show am_E _ (25, [vR x, vI k, vR o], [vI (k + 40), vR (x + 2)], aq_h m s F c) _
    refine aq_al (ok := fun k => k == 0) (v := vI (c (x + 2) (k + 40))) rfl rfl (by omega) hFw rfl (by omega) (by omega) rfl ?_
    show am_E _ (26, [vR x, vI k, vR o], [vI (c (x + 2) (k + 40))], aq_h m s F c) _
    refine am_E.ret rfl rfl ?_
    exact ⟨_, rfl, aq_sm0, ⟨_, rfl⟩, hr, rfl, rfl, fun _ => rfl⟩
  · refine am_E.go (t2 := (8, [vR x, vI k, vR o], [vR x], aq_h m s F c)) rfl rfl ?_
    refine am_E.go (t2 := (9, [vR x, vI k, vR o], [vR o, vR x], aq_h m s F c)) rfl rfl ?_
    refine aq_callv (y := 2) (as2 := [vR o]) (rest := []) rfl rfl (by decide) (Nat.le_of_ble_eq_true rfl) rfl rfl (Nat.le_of_ble_eq_true rfl) (by omega) hFx rfl (Nat.le_of_ble_eq_true rfl) (qn_X1_addStates ⟨hmx, hFx, hFl, hFw⟩ hSw hnx hny ⟨hl0, hl1, hl2, hl3, hl4⟩ ⟨hm, hn1, hn4, hK, hFo, hFd, hFs⟩ hSd hSs hxn hdx ⟨hL, hGg, hGr, hNg, hNr, hLt, hGt, hNt⟩ ⟨hR, hRt⟩ hst hr) ?_
    rintro r5 h5 ⟨c_ads, rfl, sc_ads, rfl, hrc_ads⟩
    show am_E _ (12, [vR x, vI k, vR o], [], aq_h m s F c_ads) _
    refine am_E.go (t2 := (13, [vR x, vI k, vR o], [vR x], aq_h m s F c_ads)) rfl rfl ?_
    refine am_E.go (t2 := (14, [vR x, vI k, vR o], [vI 1, vR x], aq_h m s F c_ads)) rfl rfl ?_
    refine aq_pf rfl (by omega) hFx (by decide) rfl rfl ?_
    show am_E _ (17, [vR x, vI k, vR o], [], aq_h m s F (aq_u c_ads x 4 1)) _
    generalize hdc_3 : aq_u c_ads x 4 1 = c_3
    have sc_3 := aq_smu (aq_smi (S2 := fun a => S a ∨ a = x) sc_ads (fun a h => Or.inl h)) hdc_3 (Or.inr rfl)
    have hdrc_3 := aq_rgn hrc_ads hdc_3 hdo
    refine am_E.go (t2 := (18, [vR x, vI k, vR o], [vR x], aq_h m s F c_3)) rfl rfl ?_
    refine aq_gf (v := vR (x + 2)) rfl (by omega) hFx (by decide) rfl ?_
    show am_E _ (21, [vR x, vI k, vR o], [vR (x + 2)], aq_h m s F c_3) _
    refine am_E.go (t2 := (22, [vR x, vI k, vR o], [vI k, vR (x + 2)], aq_h m s F c_3)) rfl rfl ?_
    refine am_E.go (t2 := (24, [vR x, vI k, vR o], [vI 40, vI k, vR (x + 2)], aq_h m s F c_3)) rfl rfl ?_
    refine ae_add rfl (am_ri (by omega) (by omega)) ?_
    show am_E _ (25, [vR x, vI k, vR o], [vI (k + 40), vR (x + 2)], aq_h m s F c_3) _
    refine aq_al (ok := fun k => k == 0) (v := vI (c_3 (x + 2) (k + 40))) rfl rfl (by omega) hFw rfl (by omega) (by omega) rfl ?_
    show am_E _ (26, [vR x, vI k, vR o], [vI (c_3 (x + 2) (k + 40))], aq_h m s F c_3) _
    refine am_E.ret rfl rfl ?_
    refine ⟨_, rfl, sc_3, ⟨_, rfl⟩, hdrc_3, ?_, ?_, fun i => ?_⟩
    · rw [← hdc_3, aq_un (Or.inr (by omega)), sc_ads x hnx 0]
    · rw [← hdc_3, aq_un (Or.inr (by omega)), sc_ads x hnx 1]
    · rw [← hdc_3, aq_un (Or.inl (by omega)), sc_ads (x + 1) hny i]

theorem qn_X3_begin {m s : Nat} {F : aq_F} {c : aq_C} {a : Nat} (hA : su_0 m F a) {n : Int} : am_E ac_X3_begin (0, [vR a, vI n], [], aq_h m s F c) (aq_Z m s F (fun b => b = a ∨ b = a + 1 ∨ b = a + 2 ∨ b = a + 3) c (fun r d => r = none ∧ d a 0 = n ∧ d a 1 = 0)) := by
  obtain ⟨hma, hFa, hFn, hFp, hFf⟩ := hA
  refine am_E.go (t2 := (1, [vR a, vI n], [vR a], aq_h m s F c)) rfl rfl ?_
  refine am_E.go (t2 := (2, [vR a, vI n], [vI n, vR a], aq_h m s F c)) rfl rfl ?_
  refine aq_pf rfl (by omega) hFa (by decide) rfl rfl ?_
  show am_E _ (5, [vR a, vI n], [], aq_h m s F (aq_u c a 0 n)) _
  generalize hdc_1 : aq_u c a 0 n = c_1
  have sc_1 := aq_smu (aq_sm0 (S := (fun b => b = a ∨ b = a + 1 ∨ b = a + 2 ∨ b = a + 3))) hdc_1 (Or.inl rfl)
  refine am_E.go (t2 := (6, [vR a, vI n], [vR a], aq_h m s F c_1)) rfl rfl ?_
  refine am_E.go (t2 := (7, [vR a, vI n], [vI 0, vR a], aq_h m s F c_1)) rfl rfl ?_
  refine aq_pf rfl (by omega) hFa (by decide) rfl rfl ?_
  show am_E _ (10, [vR a, vI n], [], aq_h m s F (aq_u c_1 a 1 0)) _
  generalize hdc_2 : aq_u c_1 a 1 0 = c_2
  have sc_2 := aq_smu sc_1 hdc_2 (Or.inl rfl)
  refine am_E.ret rfl rfl ?_
  refine ⟨_, rfl, sc_2, rfl, ?_⟩
  rw [← hdc_2, ← hdc_1]
  simp [aq_u]

theorem qn_X3_isFactor {m s : Nat} {F : aq_F} {c : aq_C} {f : Int} : am_E ac_X3_isFactor (0, [vL f, vU], [], aq_h m s F c) (aq_P m s F c (fun r => ∃ v, r = some (vI v) ∧ ((v = 1 ∧ -1000000000000 ≤ f ∧ f ≤ 1000000000000) ∨ (v = 0 ∧ ¬ (-1000000000000 ≤ f ∧ f ≤ 1000000000000))))) := by
  refine am_E.go (t2 := (1, [vL f, vU], [vL f], aq_h m s F c)) rfl rfl ?_
  refine am_E.go (t2 := (4, [vL f, vU], [vL (-1000000000000), vL f], aq_h m s F c)) rfl rfl ?_
  have ez_1 := am_lcf f (-1000000000000)
  refine am_E.go (t2 := (5, [vL f, vU], [vI (if f < (-1000000000000) then -1 else if f = (-1000000000000) then 0 else 1)], aq_h m s F c)) rfl rfl ?_
  generalize (if f < (-1000000000000) then -1 else if f = (-1000000000000) then 0 else 1) = z_1 at ez_1 ⊢
  refine ae_if0 rfl (fun (q_2 : z_1 < 0) => ?_) (fun (q_2 : 0 ≤ z_1) => ?_)
  · refine am_E.go (t2 := (21, [vL f, vU], [vI 0], aq_h m s F c)) rfl rfl ?_
    refine am_E.ret rfl rfl ?_
    exact ⟨rfl, _, rfl, by omega⟩
  · refine am_E.go (t2 := (9, [vL f, vU], [vL f], aq_h m s F c)) rfl rfl ?_
    refine am_E.go (t2 := (12, [vL f, vU], [vL 1000000000000, vL f], aq_h m s F c)) rfl rfl ?_
    have ez_3 := am_lcf f 1000000000000
    refine am_E.go (t2 := (13, [vL f, vU], [vI (if f < 1000000000000 then -1 else if f = 1000000000000 then 0 else 1)], aq_h m s F c)) rfl rfl ?_
    generalize (if f < 1000000000000 then -1 else if f = 1000000000000 then 0 else 1) = z_3 at ez_3 ⊢
    refine ae_if0 rfl (fun (q_4 : 0 < z_3) => ?_) (fun (q_4 : z_3 ≤ 0) => ?_)
    · refine am_E.go (t2 := (21, [vL f, vU], [vI 0], aq_h m s F c)) rfl rfl ?_
      refine am_E.ret rfl rfl ?_
      exact ⟨rfl, _, rfl, by omega⟩
    · refine am_E.go (t2 := (17, [vL f, vU], [vI 1], aq_h m s F c)) rfl rfl ?_
      refine am_E.go (t2 := (21, [vL f, vU], [vI 1], aq_h m s F c)) rfl rfl ?_
      refine am_E.ret rfl rfl ?_
      exact ⟨rfl, _, rfl, by omega⟩

theorem qn_X3_isAt {m s : Nat} {F : aq_F} {c : aq_C} {a : Nat} (hA : su_0 m F a) {i b p : Int} (h0 : 0 ≤ i) (h1 : c a 1 ≤ 40) : am_E ac_X3_isAt (0, [vR a, vI i, vI b, vI p], [], aq_h m s F c) (aq_P m s F c (fun r => ∃ v, r = some (vI v) ∧ ((v = 1 ∧ i < c a 1 ∧ c (a + 1) i = b ∧ c (a + 2) i = p) ∨ (v = 0 ∧ ¬ (i < c a 1 ∧ c (a + 1) i = b ∧ c (a + 2) i = p))))) := by
  obtain ⟨hma, hFa, hFn, hFp, hFf⟩ := hA
  refine am_E.go (t2 := (1, [vR a, vI i, vI b, vI p], [vI i], aq_h m s F c)) rfl rfl ?_
  refine am_E.go (t2 := (2, [vR a, vI i, vI b, vI p], [vR a, vI i], aq_h m s F c)) rfl rfl ?_
  refine aq_gf (v := vI (c a 1)) rfl (by omega) hFa (by decide) rfl ?_
  show am_E _ (5, [vR a, vI i, vI b, vI p], [vI (c a 1), vI i], aq_h m s F c) _
  refine ae_icmp rfl (fun (q_1 : (c a 1) ≤ i) => ?_) (fun (q_1 : i < (c a 1)) => ?_)
  · refine am_E.go (t2 := (33, [vR a, vI i, vI b, vI p], [vI 0], aq_h m s F c)) rfl rfl ?_
    refine am_E.ret rfl rfl ?_
    exact ⟨rfl, _, rfl, by omega⟩
  · refine am_E.go (t2 := (9, [vR a, vI i, vI b, vI p], [vR a], aq_h m s F c)) rfl rfl ?_
    refine aq_gf (v := vR (a + 1)) rfl (by omega) hFa (by decide) rfl ?_
    show am_E _ (12, [vR a, vI i, vI b, vI p], [vR (a + 1)], aq_h m s F c) _
    refine am_E.go (t2 := (13, [vR a, vI i, vI b, vI p], [vI i, vR (a + 1)], aq_h m s F c)) rfl rfl ?_
    refine aq_al (ok := fun k => k == 0) (v := vI (c (a + 1) i)) rfl rfl (by omega) hFn rfl (by omega) (by omega) rfl ?_
    show am_E _ (14, [vR a, vI i, vI b, vI p], [vI (c (a + 1) i)], aq_h m s F c) _
    refine am_E.go (t2 := (15, [vR a, vI i, vI b, vI p], [vI b, vI (c (a + 1) i)], aq_h m s F c)) rfl rfl ?_
    refine ae_icmp rfl (fun (q_2 : (c (a + 1) i) ≠ b) => ?_) (fun (q_2 : (c (a + 1) i) = b) => ?_)
    · refine am_E.go (t2 := (33, [vR a, vI i, vI b, vI p], [vI 0], aq_h m s F c)) rfl rfl ?_
      refine am_E.ret rfl rfl ?_
      exact ⟨rfl, _, rfl, by omega⟩
    · refine am_E.go (t2 := (19, [vR a, vI i, vI b, vI p], [vR a], aq_h m s F c)) rfl rfl ?_
      refine aq_gf (v := vR (a + 2)) rfl (by omega) hFa (by decide) rfl ?_
      show am_E _ (22, [vR a, vI i, vI b, vI p], [vR (a + 2)], aq_h m s F c) _
      refine am_E.go (t2 := (23, [vR a, vI i, vI b, vI p], [vI i, vR (a + 2)], aq_h m s F c)) rfl rfl ?_
      refine aq_al (ok := fun k => k == 0) (v := vI (c (a + 2) i)) rfl rfl (by omega) hFp rfl (by omega) (by omega) rfl ?_
      show am_E _ (24, [vR a, vI i, vI b, vI p], [vI (c (a + 2) i)], aq_h m s F c) _
      refine am_E.go (t2 := (25, [vR a, vI i, vI b, vI p], [vI p, vI (c (a + 2) i)], aq_h m s F c)) rfl rfl ?_
      refine ae_icmp rfl (fun (q_3 : (c (a + 2) i) ≠ p) => ?_) (fun (q_3 : (c (a + 2) i) = p) => ?_)
      · refine am_E.go (t2 := (33, [vR a, vI i, vI b, vI p], [vI 0], aq_h m s F c)) rfl rfl ?_
        refine am_E.ret rfl rfl ?_
        exact ⟨rfl, _, rfl, by omega⟩
      · refine am_E.go (t2 := (29, [vR a, vI i, vI b, vI p], [vI 1], aq_h m s F c)) rfl rfl ?_
        refine am_E.go (t2 := (33, [vR a, vI i, vI b, vI p], [vI 1], aq_h m s F c)) rfl rfl ?_
        refine am_E.ret rfl rfl ?_
        exact ⟨rfl, _, rfl, by omega⟩

theorem qn_X3_moveTail {m s : Nat} {F : aq_F} {c : aq_C} {a : Nat} (hA : su_0 m F a) {f t : Int} (hf0 : 0 ≤ f) (hf1 : f ≤ c a 1) (h40 : c a 1 ≤ 40) (ht0 : 0 ≤ t) (ht1 : t + (c a 1 - f) ≤ 40) : am_E ac_X3_moveTail (0, [vR a, vI f, vI t, vU], [], aq_h m s F c) (aq_Z m s F (fun b => b = a + 1 ∨ b = a + 2 ∨ b = a + 3) c (fun r d => r = none ∧ (∀ i, d (a + 1) i = if t ≤ i ∧ i < t + (c a 1 - f) then c (a + 1) (f + (i - t)) else c (a + 1) i) ∧ (∀ i, d (a + 2) i = if t ≤ i ∧ i < t + (c a 1 - f) then c (a + 2) (f + (i - t)) else c (a + 2) i) ∧ (∀ i, d (a + 3) i = if t ≤ i ∧ i < t + (c a 1 - f) then c (a + 3) (f + (i - t)) else c (a + 3) i))) := by
  obtain ⟨hma, hFa, hFn, hFp, hFf⟩ := hA
  refine am_E.go (t2 := (1, [vR a, vI f, vI t, vU], [vR a], aq_h m s F c)) rfl rfl ?_
  refine aq_gf (v := vI (c a 1)) rfl (by omega) hFa (by decide) rfl ?_
  show am_E _ (4, [vR a, vI f, vI t, vU], [vI (c a 1)], aq_h m s F c) _
  refine am_E.go (t2 := (5, [vR a, vI f, vI t, vU], [vI f, vI (c a 1)], aq_h m s F c)) rfl rfl ?_
  refine ae_sub rfl (am_ri (by omega) (by omega)) ?_
  show am_E _ (6, [vR a, vI f, vI t, vU], [vI ((c a 1) - f)], aq_h m s F c) _
  refine am_E.go (t2 := (7, [vR a, vI f, vI t, vI ((c a 1) - f)], [], aq_h m s F c)) rfl rfl ?_
  refine am_E.go (t2 := (8, [vR a, vI f, vI t, vI ((c a 1) - f)], [vR a], aq_h m s F c)) rfl rfl ?_
  refine aq_gf (v := vR (a + 1)) rfl (by omega) hFa (by decide) rfl ?_
  show am_E _ (11, [vR a, vI f, vI t, vI ((c a 1) - f)], [vR (a + 1)], aq_h m s F c) _
  refine am_E.go (t2 := (12, [vR a, vI f, vI t, vI ((c a 1) - f)], [vI f, vR (a + 1)], aq_h m s F c)) rfl rfl ?_
  refine am_E.go (t2 := (13, [vR a, vI f, vI t, vI ((c a 1) - f)], [vR a, vI f, vR (a + 1)], aq_h m s F c)) rfl rfl ?_
  refine aq_gf (v := vR (a + 1)) rfl (by omega) hFa (by decide) rfl ?_
  show am_E _ (16, [vR a, vI f, vI t, vI ((c a 1) - f)], [vR (a + 1), vI f, vR (a + 1)], aq_h m s F c) _
  refine am_E.go (t2 := (17, [vR a, vI f, vI t, vI ((c a 1) - f)], [vI t, vR (a + 1), vI f, vR (a + 1)], aq_h m s F c)) rfl rfl ?_
  refine am_E.go (t2 := (18, [vR a, vI f, vI t, vI ((c a 1) - f)], [vI ((c a 1) - f), vI t, vR (a + 1), vI f, vR (a + 1)], aq_h m s F c)) rfl rfl ?_
  refine aq_cpy (n := (((c a 1) - f) : Int).toNat) (sp := (f : Int).toNat) (dp := (t : Int).toNat) rfl (by omega) (by omega) hFn hFn (by decide) (by omega) (by omega) (by omega) (by omega) (by omega) ?_
  show am_E _ (21, [vR a, vI f, vI t, vI ((c a 1) - f)], [], aq_h m s F (aq_cp c (a + 1) (f : Int).toNat (a + 1) (t : Int).toNat (((c a 1) - f) : Int).toNat)) _
  generalize hdc_1 : aq_cp c (a + 1) (f : Int).toNat (a + 1) (t : Int).toNat (((c a 1) - f) : Int).toNat = c_1
  have sc_1 := aq_smc (aq_sm0 (S := fun b => b = a + 1 ∨ b = a + 2 ∨ b = a + 3)) hdc_1 (Or.inl rfl)
  refine am_E.go (t2 := (22, [vR a, vI f, vI t, vI ((c a 1) - f)], [vR a], aq_h m s F c_1)) rfl rfl ?_
  refine aq_gf (v := vR (a + 2)) rfl (by omega) hFa (by decide) rfl ?_
  show am_E _ (25, [vR a, vI f, vI t, vI ((c a 1) - f)], [vR (a + 2)], aq_h m s F c_1) _
  refine am_E.go (t2 := (26, [vR a, vI f, vI t, vI ((c a 1) - f)], [vI f, vR (a + 2)], aq_h m s F c_1)) rfl rfl ?_
  refine am_E.go (t2 := (27, [vR a, vI f, vI t, vI ((c a 1) - f)], [vR a, vI f, vR (a + 2)], aq_h m s F c_1)) rfl rfl ?_
  refine aq_gf (v := vR (a + 2)) rfl (by omega) hFa (by decide) rfl ?_
  show am_E _ (30, [vR a, vI f, vI t, vI ((c a 1) - f)], [vR (a + 2), vI f, vR (a + 2)], aq_h m s F c_1) _
  refine am_E.go (t2 := (31, [vR a, vI f, vI t, vI ((c a 1) - f)], [vI t, vR (a + 2), vI f, vR (a + 2)], aq_h m s F c_1)) rfl rfl ?_
  refine am_E.go (t2 := (32, [vR a, vI f, vI t, vI ((c a 1) - f)], [vI ((c a 1) - f), vI t, vR (a + 2), vI f, vR (a + 2)], aq_h m s F c_1)) rfl rfl ?_
  refine aq_cpy (n := (((c a 1) - f) : Int).toNat) (sp := (f : Int).toNat) (dp := (t : Int).toNat) rfl (by omega) (by omega) hFp hFp (by decide) (by omega) (by omega) (by omega) (by omega) (by omega) ?_
  show am_E _ (35, [vR a, vI f, vI t, vI ((c a 1) - f)], [], aq_h m s F (aq_cp c_1 (a + 2) (f : Int).toNat (a + 2) (t : Int).toNat (((c a 1) - f) : Int).toNat)) _
  generalize hdc_2 : aq_cp c_1 (a + 2) (f : Int).toNat (a + 2) (t : Int).toNat (((c a 1) - f) : Int).toNat = c_2
  have sc_2 := aq_smc sc_1 hdc_2 (Or.inr (Or.inl rfl))
  refine am_E.go (t2 := (36, [vR a, vI f, vI t, vI ((c a 1) - f)], [vR a], aq_h m s F c_2)) rfl rfl ?_
  refine aq_gf (v := vR (a + 3)) rfl (by omega) hFa (by decide) rfl ?_
  show am_E _ (39, [vR a, vI f, vI t, vI ((c a 1) - f)], [vR (a + 3)], aq_h m s F c_2) _
  refine am_E.go (t2 := (40, [vR a, vI f, vI t, vI ((c a 1) - f)], [vI f, vR (a + 3)], aq_h m s F c_2)) rfl rfl ?_
  refine am_E.go (t2 := (41, [vR a, vI f, vI t, vI ((c a 1) - f)], [vR a, vI f, vR (a + 3)], aq_h m s F c_2)) rfl rfl ?_
  refine aq_gf (v := vR (a + 3)) rfl (by omega) hFa (by decide) rfl ?_
  show am_E _ (44, [vR a, vI f, vI t, vI ((c a 1) - f)], [vR (a + 3), vI f, vR (a + 3)], aq_h m s F c_2) _
  refine am_E.go (t2 := (45, [vR a, vI f, vI t, vI ((c a 1) - f)], [vI t, vR (a + 3), vI f, vR (a + 3)], aq_h m s F c_2)) rfl rfl ?_
  refine am_E.go (t2 := (46, [vR a, vI f, vI t, vI ((c a 1) - f)], [vI ((c a 1) - f), vI t, vR (a + 3), vI f, vR (a + 3)], aq_h m s F c_2)) rfl rfl ?_
  refine aq_cpy (n := (((c a 1) - f) : Int).toNat) (sp := (f : Int).toNat) (dp := (t : Int).toNat) rfl (by omega) (by omega) hFf hFf (by decide) (by omega) (by omega) (by omega) (by omega) (by omega) ?_
  show am_E _ (49, [vR a, vI f, vI t, vI ((c a 1) - f)], [], aq_h m s F (aq_cp c_2 (a + 3) (f : Int).toNat (a + 3) (t : Int).toNat (((c a 1) - f) : Int).toNat)) _
  generalize hdc_3 : aq_cp c_2 (a + 3) (f : Int).toNat (a + 3) (t : Int).toNat (((c a 1) - f) : Int).toNat = c_3
  have sc_3 := aq_smc sc_2 hdc_3 (Or.inr (Or.inr rfl))
  refine am_E.ret rfl rfl ?_
  refine ⟨_, rfl, sc_3, rfl, fun i => ?_, fun i => ?_, fun i => ?_⟩
  · rw [← hdc_3, ← hdc_2, ← hdc_1]; simp only [aq_cp]; simp; split <;> split <;> first | rfl | (congr 1; omega) | omega | (exfalso; omega)
  · rw [← hdc_3, ← hdc_2, ← hdc_1]; simp only [aq_cp]; simp; split <;> split <;> first | rfl | (congr 1; omega) | omega | (exfalso; omega)
  · rw [← hdc_3, ← hdc_2, ← hdc_1]; simp only [aq_cp]; simp; split <;> split <;> first | rfl | (congr 1; omega) | omega | (exfalso; omega)

theorem aq_cpn {c : aq_C} {a sp b dp n x : Nat} {j : Int} (h : x ≠ b) : aq_cp c a sp b dp n x j = c x j := by
  unfold aq_cp
  rw [if_neg (fun q => h q.1)]
theorem aq_cps {c : aq_C} {a b n : Nat} {j : Int} (h0 : 0 ≤ j) (h1 : j < (n : Int)) : aq_cp c a (0 : Int).toNat b (0 : Int).toNat n b j = c a j := by
  unfold aq_cp
  rw [if_pos ⟨rfl, by omega, by omega⟩]
  congr 1
  omega
def hx_c (n : Int) : List (List Int) := if n = 1 then [[1]] else if n = 2 then [[1, 0], [2, 2]] else if n = 3 then [[1, 0, 3], [3, 2, 1], [3, 3, 3]] else [[1, 0, 3, 2], [1, 0, 4, 4], [3, 2, 1, 0], [4, 2, 1, 4], [4, 4, 3, 2], [4, 4, 4, 4]]
def hx_z (n : Int) : Int := ((hx_c n).length : Int)
/-- the partner of p in half h -/
def hx_d (n h p : Int) : Int := ((hx_c n).getD h.toNat []).getD p.toNat 0
/-- how many are left -/
def hx_l (n h : Int) : Int := ((((hx_c n).getD h.toNat []).filter (fun q => decide (q = n))).length : Int)
/-- size, left and partners are these -/
def hx_e (n z : Nat) (tl : Int → Int) (th : Int → Int → Int) : Prop := (z : Int) = hx_z (n : Int) ∧ ∀ h : Int, 0 ≤ h → h < hx_z (n : Int) → tl h = hx_l (n : Int) h ∧ ∀ p : Int, 0 ≤ p → p < (n : Int) → th h p = hx_d (n : Int) h p
/-- an entry of a table of w bits each -/
def tb_ (T w i : Nat) : Int := (((T >>> (w * i)) % 2 ^ w : Nat) : Int)
def rgT (n : Nat) : Nat := if n = 1 then 1 else if n = 2 then 66049 else if n = 3 then 10404955666743442129104717777862913 else 57390120684798749511077396332105794571101995222350688809851065516797879777801632129614810724180821914302756896657628363268354282913950639959873405449855984870331450083768552354044763196518608382769201289063903639431695499459421240638430827785645785346
def lnT (n : Nat) : Nat := if n = 1 then 0 else if n = 2 then 65537 else if n = 3 then 15617614471325223397412837120868866 else 172394096649824228678490876063868247811688202895297273733420766105489438064114819601242255088337135235583675020922885659791016769033109153517241103396735859236236647310161854603029350005173488512371164018466018739819887383238503213890588321708473778946
def spT (n : Nat) : Nat := if n = 1 then 0 else if n = 2 then 79228162514264337593543950336 else if n = 3 then 2583514293774741419893649596235438935058194969413569029937285137972218418338202396295490044155670288070031476845030676927040258770890035907184952891324073594176981654196053411697448526451861686864028081586432 else 1829475211475356853739850305318564581318198224246838686596051447923760820645797659155230711066626779999427860397361286018108597198326590502704263369853063986158022262382963719745175959973331262548511562842540610609777195926206153244393873804645068805597756081362470925279316897143519745565242449718396238827593222681824055426412868465801457831417147004527791976791485701774778244240458732001261930349019722317444245851060915515795672460102710509316944738108846401365039190246008583534388677338565074382972728891006540640010680379850438219797305185115472748050761431361110005233265130282359114594529246196411756361310472409302841842832788213636959641953128914305059545389301932898037821330282610519198385552237460764086701476096286514199146936379346789944325212791331594443097941589409706476653264119317385726732984361695251930647317134010884985226402023680398024017215681246123674948257417053215175454602471355032335888595155229081643803148058925427523283879975907156805443415277769473206813250625193144297288342406731922796084434574993437970089849105635589927095691014092121678748567940774105629529157187056654398735800851403962851584512679585535503017555480945727123282111643545923201183520051455462447832194259934512175576402281808852384482434906677176315205856098355116646790478737477482843160295501452788202340842664032723822110762506137019628900192557245712385685342836510396002749622638619866087198711483771154845476410084863275909608599041519294356540737777523903896545334501090258018212995868483878377226752
def bnT (n : Nat) : Nat := if n = 1 then 0 else if n = 2 then 411376139330301510538742295649722219962753621665455958495593448 else if n = 3 then 1188925059675319847051101875588221370637998259648363333497143670104116263684446672258813029050822415773144612542331176107741558273876491812814337878942684637563519307026359786824883601265490130788605207195539495493557564100281059786285914278464841346854438345179680471249776192018995212360739279336449050433809085904447589696408288642732162941486689923305109278026025461536645312070458218960392832121493972695463871643650 else 32754719852690610771619936788185263767816603489389340975929618588907499732677552637396942200400810626926427193178515483511445627061442079150557128031085079824448044403376624173985321468107909912794033761326948090735653043461270407903679186304635721420804279589600372101914797513355064161459914502339787293812392394607299812754550196090613758593651385689343344357892226362388832442099858586744393695031713020738278755139681685557702835650697362342999668813616731222686122057776085754971152167206029643701266765309531747524713189043610277817119669314842037743297413669488529088239599025896821040963106684854703135055031790155890958843035941905910040647516792461930974716488231977515116053750620371732373182544040203202949186559275802526237796443575902003616557893348901886311716580330291220976609522758105070370563577476456518960827590348945013652694543364037604467327105969905830608556791244912074428357393663854114751924606677901602287829643636415253119890577117552762855088475662052985974022834241436927150065445185868438261364072535385267529636313350540258814277356194276413030391862690746954277238472952757712299787200352588161894727437672187908689021794217709056409462205808692082164682306557190656329997412603901153012752643086560301056185401860756964106481994550082191422976031312698264820076802705285920946732427448094318551103126819413561399403080007878353324012782388682865607660174841480430440700768893368103133934571702075056856645765845995474255098124539422449471402061532367725037558331835619475198781520739115550830792938330942487561693701374258223176052455330950517040761711764689942740560471600637533894809938455834533157095875338042782780528222947624732642130841289729416095494701024155437940158685722101915314078507634595383270732628015832146490302030276965388492011306702375049997186401777255201130768744299191539170259215542505081352794295279288456289743052127468717224120827913113032182787022825601602273686315213681430356768186967260756712660949407286187111044559782042838963763390800586239054534069193443106965882352072679844302379320581463844902446892440929099650862212701360846255578244314212362762278330809020288547167908238450155137113609677153468676264143588999136722279666553011812249842847794417161986124763678644945401045844866233621116913147732906823586216009511105932294616886791783260317184278254105136913559219621062771207374497209289670013461877936430694453568917711667514118886171407326812279772436466374084137388736131851687114116404830352037079572000128175617702422727683356502405466816844196508778887475378023374194826049279218013778457879488199192966377918010117632792718701736143281045798582435361867734128432081684110384928669414879462225815732044714904791667925877796099923478979875699598286362608479279742385223013035088593002827599071088714137572236638143923153854273669574388094512442344551529733395654592924771191363495813898414446678590800260528995828116197156710968924710668685060797365137958794960133559411434395268447881201308926708945155682459993837423922249188787442383925150696
def fdT (n : Nat) : Nat := if n = 1 then 0 else if n = 2 then 131073 else if n = 3 then 72774158730845269135669699774120455 else 2982959802743847140216677952014299851581702380699113689192777758971883846847921879556204674180740617790916505242229894006411766098365963300841830213521101098187502235096747288570885677726499736617130567242649725371269944906359798943177297413298384210740
def ixT (n : Nat) : Nat := if n = 1 then 0 else if n = 2 then 131073 else if n = 3 then 72895538430146451388428640717964805 else 2989316425796432658396213682883544162468282582223734949238750464809701759653446698287959151584054604298471330356651323462742996803419374680452547660369665933253208160776532491346007718123374273108301080626780985725956752225060577724090004822428546309640
def szT (n : Nat) : Nat := if n = 1 then 72057594037927937 else if n = 2 then 73848251308732490520434389441502806605363775783726940673 else if n = 3 then 474184400792007242186472892514146340826137105847887167429814730334080480672533261189034986145744308151091054376501525091986246263137971053313104791693106485157860463012183434899093737324431725720076301179160846932768361185847654693312333445614105908855790809317889 else 33783401921441432179098721390677732982121538848475942809853859034660707979011995604616709637875066390276879929217064319030244358525289951226434552454966585620477297940237883722372475810541267805372219095635110966164795283150266447787128884764647044578539755895758254145743484785650424974975533910905409617406515351369973382663710802320214630036025598637237144517234254056870108024846538678356840293036036845169576930249784234309659513911305307521587681740151981003461754972611256044501577774207259372151571921683464779895944937466642474990152580526695499317907697546144694642422786270228473933035535835488259997593107268925056474709951767322514717998991817700644291175694772305975163530551416518541903047201396757761532727765839670903492406097384091058411682756605095614783179664011588637701869245597568557651755590748578054050293958088585633589475855468105162298260664747684490380864079273496793592370264724973411812359497927434076897739563454330192019230585627071093077575485583164618225841589658942170292259511595396308790109367023724368733002054308424438691940161631001763293604185854431963536790435296688147936359346180561214382106092314176576286061037593720903139158124292068275370527889009988145448546311063808201004497366562858155668006375907362783178746472722375979137675096318949035027404554135637771705639595976022604472336836933978447299044326255630452161039213744898071435968788680582341360677741458475115495580455089953064006813893851836311021423057939926078859870003010485527674855046921512917753082482157933851963208439641644184519964665535802988802567437287583919964184574642124068251838316387846740662328180993547682853373178533163333221059874809906160281367332822815316617485023331024838094311529968177213794166444744460722680023345247790285440696147089127598538818049
def paT (n : Nat) : Nat := if n = 1 then 0 else if n = 2 then 65537 else if n = 3 then 67703161110335384097309307898888706 else 2961017941032182165673834517842832230264264054442468059704339382728229454391288929493468266747257358208700052877181650462062047499482857797021008123419739755331741561902045906368922721253625805451308809019582587948052156085040402099979560040286885249035
def llT (n : Nat) : Nat := if n = 1 then 0 else if n = 2 then 720897 else if n = 3 then 57358737004974897666621644430445570 else 316370847583497533251263944365807004339142791726416674668877415784583813752903941524904059536535252108508025194755964032280179028716739308776175906596644012736515585669067399676407521225437276778780300457655315963875192908964199994414115265777305259011
/-- the box ahead in the least spelling; its last letter -/
def pa_ (n b : Int) : Int := tb_ (paT n.toNat) 8 b.toNat
def ll_ (n b : Int) : Int := tb_ (llT n.toNat) 8 b.toNat

/-- rings when closed; length and letters of the least spelling; the box with a plain box beneath; the order of finding, the place in it, how many are found -/
def rg_ (n b : Int) : Int := tb_ (rgT n.toNat) 8 b.toNat
def ln_ (n b : Int) : Int := tb_ (lnT n.toNat) 8 b.toNat
def sp_ (n b i : Int) : Int := tb_ (spT n.toNat) 8 (6 * b.toNat + i.toNat)
def bn_ (n b k : Int) : Int := tb_ (bnT n.toNat) 16 (6 * b.toNat + k.toNat)
def fd_ (n i : Int) : Int := tb_ (fdT n.toNat) 8 i.toNat
def ix_ (n b : Int) : Int := tb_ (ixT n.toNat) 8 b.toNat
def sz_ (n i k : Int) : Int := tb_ (szT n.toNat) 8 (7 * i.toNat + k.toNat)
/-- plain facts of one box -/
abbrev tb_A (n b : Int) : Prop := (0 ≤ ln_ n b ∧ ln_ n b ≤ 6) ∧ (0 ≤ ix_ n b ∧ ix_ n b < bx_K n ∧ fd_ n (ix_ n b) = b) ∧ (0 ≤ fd_ n b ∧ fd_ n b < bx_K n ∧ ix_ n (fd_ n b) = b) ∧ (0 ≤ rg_ n b ∧ rg_ n b ≤ 8)
abbrev tb_S (n b i : Int) : Prop := i < ln_ n b → 0 ≤ sp_ n b i ∧ sp_ n b i < 2 * n - 2
abbrev tb_N (n b k : Int) : Prop := k < 2 * n - 2 → 0 ≤ bn_ n b k ∧ bn_ n b k < 5000 ∧ bn_ n b k % 1000 < bx_K n
/-- a step of finding: the box i, the letter k -/
def tb_B (n i k : Int) : Prop := k < 2 * n - 2 → i < sz_ n i k ∧ sz_ n i k ≤ bx_K n ∧
  (if bn_ n (fd_ n i) k < bx_K n ∧ sz_ n i k ≤ ix_ n (bn_ n (fd_ n i) k) ∧ sz_ n i k < bx_K n then
    fd_ n (sz_ n i k) = bn_ n (fd_ n i) k ∧ ln_ n (bn_ n (fd_ n i) k) = ln_ n (fd_ n i) + 1 ∧ ln_ n (fd_ n i) ≤ 5 ∧ (∀ j : Nat, j < 6 → (j : Int) < ln_ n (fd_ n i) → sp_ n (bn_ n (fd_ n i) k) (j : Int) = sp_ n (fd_ n i) (j : Int)) ∧ sp_ n (bn_ n (fd_ n i) k) (ln_ n (fd_ n i)) = k ∧ ix_ n (bn_ n (fd_ n i) k) = sz_ n i k ∧ sz_ n i (k + 1) = sz_ n i k + 1
   else sz_ n i (k + 1) = sz_ n i k)
def tb_Bd {n i k : Int} : Decidable (tb_B n i k) := by unfold tb_B; exact inferInstance
abbrev tb_P (n i k : Int) : Prop := k < 2 * n - 2 → bn_ n (fd_ n i) k < bx_K n ∧ sz_ n i k ≤ ix_ n (bn_ n (fd_ n i) k) ∧ sz_ n i k < bx_K n → pa_ n (bn_ n (fd_ n i) k) = fd_ n i ∧ ll_ n (bn_ n (fd_ n i) k) = (if k < n - 1 then k + 1 else k - (n - 1) + 11)
abbrev tb_E (n i : Int) : Prop := ((i < sz_ n i 0 ∧ sz_ n i 0 < bx_K n) ∨ sz_ n i 0 = bx_K n) ∧ (i < bx_K n → i < sz_ n i 0 ∧ sz_ n i (2 * n - 2) = sz_ n (i + 1) 0)

theorem tb_A_1 : ∀ x : Nat, x < 1 → tb_A 1 (x : Int) := by decide +kernel
theorem tb_A_2 : ∀ x : Nat, x < 3 → tb_A 2 (x : Int) := by decide +kernel
theorem tb_A_3 : ∀ x : Nat, x < 15 → tb_A 3 (x : Int) := by decide +kernel
theorem tb_A_4 : ∀ x : Nat, x < 105 → tb_A 4 (x : Int) := by decide +kernel
theorem tb_A_a {n x : Int} (h1 : 1 ≤ n) (h4 : n ≤ 4) (x0 : 0 ≤ x) (xK : x < bx_K n + 0) : tb_A n x := by
  have ex : ((x.toNat : Nat) : Int) = x := Int.toNat_of_nonneg x0
  have h : n = 1 ∨ n = 2 ∨ n = 3 ∨ n = 4 := by omega
  rcases h with h | h | h | h <;> subst h
  · have g : bx_K 1 = 1 := by decide
    have := tb_A_1 x.toNat (by omega)
    rw [ex] at this
    exact this
  · have g : bx_K 2 = 3 := by decide
    have := tb_A_2 x.toNat (by omega)
    rw [ex] at this
    exact this
  · have g : bx_K 3 = 15 := by decide
    have := tb_A_3 x.toNat (by omega)
    rw [ex] at this
    exact this
  · have g : bx_K 4 = 105 := by decide
    have := tb_A_4 x.toNat (by omega)
    rw [ex] at this
    exact this
theorem tb_S_1 : ∀ x : Nat, x < 1 → ∀ k : Nat, k < 6 → tb_S 1 (x : Int) (k : Int) := by decide +kernel
theorem tb_S_2 : ∀ x : Nat, x < 3 → ∀ k : Nat, k < 6 → tb_S 2 (x : Int) (k : Int) := by decide +kernel
theorem tb_S_3 : ∀ x : Nat, x < 15 → ∀ k : Nat, k < 6 → tb_S 3 (x : Int) (k : Int) := by decide +kernel
theorem tb_S_4 : ∀ x : Nat, x < 105 → ∀ k : Nat, k < 6 → tb_S 4 (x : Int) (k : Int) := by decide +kernel
theorem tb_S_a {n x : Int} {k : Int} (h1 : 1 ≤ n) (h4 : n ≤ 4) (x0 : 0 ≤ x) (xK : x < bx_K n + 0) (k0 : 0 ≤ k) (k1 : k < 6) : tb_S n x k := by
  have ex : ((x.toNat : Nat) : Int) = x := Int.toNat_of_nonneg x0
  have ek : ((k.toNat : Nat) : Int) = k := Int.toNat_of_nonneg k0
  have h : n = 1 ∨ n = 2 ∨ n = 3 ∨ n = 4 := by omega
  rcases h with h | h | h | h <;> subst h
  · have g : bx_K 1 = 1 := by decide
    have := tb_S_1 x.toNat (by omega) k.toNat (by omega)
    rw [ex, ek] at this
    exact this
  · have g : bx_K 2 = 3 := by decide
    have := tb_S_2 x.toNat (by omega) k.toNat (by omega)
    rw [ex, ek] at this
    exact this
  · have g : bx_K 3 = 15 := by decide
    have := tb_S_3 x.toNat (by omega) k.toNat (by omega)
    rw [ex, ek] at this
    exact this
  · have g : bx_K 4 = 105 := by decide
    have := tb_S_4 x.toNat (by omega) k.toNat (by omega)
    rw [ex, ek] at this
    exact this
theorem tb_N_1 : ∀ x : Nat, x < 1 → ∀ k : Nat, k < 6 → tb_N 1 (x : Int) (k : Int) := by decide +kernel
theorem tb_N_2 : ∀ x : Nat, x < 3 → ∀ k : Nat, k < 6 → tb_N 2 (x : Int) (k : Int) := by decide +kernel
theorem tb_N_3 : ∀ x : Nat, x < 15 → ∀ k : Nat, k < 6 → tb_N 3 (x : Int) (k : Int) := by decide +kernel
theorem tb_N_4 : ∀ x : Nat, x < 105 → ∀ k : Nat, k < 6 → tb_N 4 (x : Int) (k : Int) := by decide +kernel
theorem tb_N_a {n x : Int} {k : Int} (h1 : 1 ≤ n) (h4 : n ≤ 4) (x0 : 0 ≤ x) (xK : x < bx_K n + 0) (k0 : 0 ≤ k) (k1 : k < 6) : tb_N n x k := by
  have ex : ((x.toNat : Nat) : Int) = x := Int.toNat_of_nonneg x0
  have ek : ((k.toNat : Nat) : Int) = k := Int.toNat_of_nonneg k0
  have h : n = 1 ∨ n = 2 ∨ n = 3 ∨ n = 4 := by omega
  rcases h with h | h | h | h <;> subst h
  · have g : bx_K 1 = 1 := by decide
    have := tb_N_1 x.toNat (by omega) k.toNat (by omega)
    rw [ex, ek] at this
    exact this
  · have g : bx_K 2 = 3 := by decide
    have := tb_N_2 x.toNat (by omega) k.toNat (by omega)
    rw [ex, ek] at this
    exact this
  · have g : bx_K 3 = 15 := by decide
    have := tb_N_3 x.toNat (by omega) k.toNat (by omega)
    rw [ex, ek] at this
    exact this
  · have g : bx_K 4 = 105 := by decide
    have := tb_N_4 x.toNat (by omega) k.toNat (by omega)
    rw [ex, ek] at this
    exact this
theorem tb_B_1 : ∀ x : Nat, x < 1 → ∀ k : Nat, k < 6 → @decide (tb_B 1 (x : Int) (k : Int)) tb_Bd = true := by decide +kernel
theorem tb_B_2 : ∀ x : Nat, x < 3 → ∀ k : Nat, k < 6 → @decide (tb_B 2 (x : Int) (k : Int)) tb_Bd = true := by decide +kernel
theorem tb_B_3 : ∀ x : Nat, x < 15 → ∀ k : Nat, k < 6 → @decide (tb_B 3 (x : Int) (k : Int)) tb_Bd = true := by decide +kernel
theorem tb_B_4 : ∀ x : Nat, x < 105 → ∀ k : Nat, k < 6 → @decide (tb_B 4 (x : Int) (k : Int)) tb_Bd = true := by decide +kernel
theorem tb_B_a {n x : Int} {k : Int} (h1 : 1 ≤ n) (h4 : n ≤ 4) (x0 : 0 ≤ x) (xK : x < bx_K n + 0) (k0 : 0 ≤ k) (k1 : k < 6) : tb_B n x k := by
  have ex : ((x.toNat : Nat) : Int) = x := Int.toNat_of_nonneg x0
  have ek : ((k.toNat : Nat) : Int) = k := Int.toNat_of_nonneg k0
  have h : n = 1 ∨ n = 2 ∨ n = 3 ∨ n = 4 := by omega
  rcases h with h | h | h | h <;> subst h
  · have g : bx_K 1 = 1 := by decide
    have := tb_B_1 x.toNat (by omega) k.toNat (by omega)
    rw [ex, ek] at this
    exact @of_decide_eq_true _ tb_Bd this
  · have g : bx_K 2 = 3 := by decide
    have := tb_B_2 x.toNat (by omega) k.toNat (by omega)
    rw [ex, ek] at this
    exact @of_decide_eq_true _ tb_Bd this
  · have g : bx_K 3 = 15 := by decide
    have := tb_B_3 x.toNat (by omega) k.toNat (by omega)
    rw [ex, ek] at this
    exact @of_decide_eq_true _ tb_Bd this
  · have g : bx_K 4 = 105 := by decide
    have := tb_B_4 x.toNat (by omega) k.toNat (by omega)
    rw [ex, ek] at this
    exact @of_decide_eq_true _ tb_Bd this
theorem tb_P_1 : ∀ x : Nat, x < 1 → ∀ k : Nat, k < 6 → tb_P 1 (x : Int) (k : Int) := by decide +kernel
theorem tb_P_2 : ∀ x : Nat, x < 3 → ∀ k : Nat, k < 6 → tb_P 2 (x : Int) (k : Int) := by decide +kernel
theorem tb_P_3 : ∀ x : Nat, x < 15 → ∀ k : Nat, k < 6 → tb_P 3 (x : Int) (k : Int) := by decide +kernel
theorem tb_P_4 : ∀ x : Nat, x < 105 → ∀ k : Nat, k < 6 → tb_P 4 (x : Int) (k : Int) := by decide +kernel
theorem tb_P_a {n x : Int} {k : Int} (h1 : 1 ≤ n) (h4 : n ≤ 4) (x0 : 0 ≤ x) (xK : x < bx_K n + 0) (k0 : 0 ≤ k) (k1 : k < 6) : tb_P n x k := by
  have ex : ((x.toNat : Nat) : Int) = x := Int.toNat_of_nonneg x0
  have ek : ((k.toNat : Nat) : Int) = k := Int.toNat_of_nonneg k0
  have h : n = 1 ∨ n = 2 ∨ n = 3 ∨ n = 4 := by omega
  rcases h with h | h | h | h <;> subst h
  · have g : bx_K 1 = 1 := by decide
    have := tb_P_1 x.toNat (by omega) k.toNat (by omega)
    rw [ex, ek] at this
    exact this
  · have g : bx_K 2 = 3 := by decide
    have := tb_P_2 x.toNat (by omega) k.toNat (by omega)
    rw [ex, ek] at this
    exact this
  · have g : bx_K 3 = 15 := by decide
    have := tb_P_3 x.toNat (by omega) k.toNat (by omega)
    rw [ex, ek] at this
    exact this
  · have g : bx_K 4 = 105 := by decide
    have := tb_P_4 x.toNat (by omega) k.toNat (by omega)
    rw [ex, ek] at this
    exact this
theorem tb_E_1 : ∀ x : Nat, x < 2 → tb_E 1 (x : Int) := by decide +kernel
theorem tb_E_2 : ∀ x : Nat, x < 4 → tb_E 2 (x : Int) := by decide +kernel
theorem tb_E_3 : ∀ x : Nat, x < 16 → tb_E 3 (x : Int) := by decide +kernel
theorem tb_E_4 : ∀ x : Nat, x < 106 → tb_E 4 (x : Int) := by decide +kernel
theorem tb_E_a {n x : Int} (h1 : 1 ≤ n) (h4 : n ≤ 4) (x0 : 0 ≤ x) (xK : x < bx_K n + 1) : tb_E n x := by
  have ex : ((x.toNat : Nat) : Int) = x := Int.toNat_of_nonneg x0
  have h : n = 1 ∨ n = 2 ∨ n = 3 ∨ n = 4 := by omega
  rcases h with h | h | h | h <;> subst h
  · have g : bx_K 1 = 1 := by decide
    have := tb_E_1 x.toNat (by omega)
    rw [ex] at this
    exact this
  · have g : bx_K 2 = 3 := by decide
    have := tb_E_2 x.toNat (by omega)
    rw [ex] at this
    exact this
  · have g : bx_K 3 = 15 := by decide
    have := tb_E_3 x.toNat (by omega)
    rw [ex] at this
    exact this
  · have g : bx_K 4 = 105 := by decide
    have := tb_E_4 x.toNat (by omega)
    rw [ex] at this
    exact this
/-- the straight box is found first -/
theorem tb_0 : ∀ n : Nat, n < 5 → 1 ≤ n → fd_ (n : Int) 0 = nu_o (bx_ol n 0) (2 * (n : Int)) 9 0 0 (2 * (n : Int) - 1) ∧ ln_ (n : Int) (fd_ (n : Int) 0) = 0 ∧ sz_ (n : Int) 0 0 = 1 := by decide +kernel
/-- the tables that an object of Boxes holds are these -/
def bx_e (n K : Nat) (tG tN : Int → Int → Int) (tR tL : Int → Int) : Prop := (∀ b : Int, 0 ≤ b → b < (K : Int) → tR b = rg_ (n : Int) b ∧ tL b = ln_ (n : Int) b) ∧ (∀ b i : Int, 0 ≤ b → b < (K : Int) → 0 ≤ i → i < ln_ (n : Int) b → tG b i = sp_ (n : Int) b i) ∧ ∀ b k : Int, 0 ≤ b → b < (K : Int) → 0 ≤ k → k < 2 * (n : Int) - 2 → tN b k = bn_ (n : Int) b k

def sb_o (j : Nat) : Nat := if j = 0 then 11 else if j = 1 then 42 else if j = 2 then 79 else 152
def sb_K (j : Nat) : Nat := if j = 0 then 1 else if j = 1 then 3 else if j = 2 then 15 else 105
def sb_h (j : Nat) : Nat := if j = 0 then 24 else if j = 1 then 61 else if j = 2 then 134 else 477
def sb_t : Nat → aq_T := fun y => match y with
  | 0 => .inr (vR 1)
  | 1 => .inr (vR 2)
  | 2 => .inr (vR 3)
  | 3 => .inr (vR 4)
  | 4 => .inr (vR 8)
  | _ => .inl 0
def sb_B (m : Nat) (F : aq_F) (o n K : Nat) : Prop := ∃ (tP tG tN : Int → Int → Int) (tR tL : Int → Int), bx_0 m F o n K ∧ bx_p F o n K tP ∧ bx_w F o n K tL tG tN ∧ bx_r F o K tR ∧ (0 ≤ nu_o (bx_ol n 0) (2 * (n : Int)) 9 0 0 (2 * (n : Int) - 1) ∧ nu_o (bx_ol n 0) (2 * (n : Int)) 9 0 0 (2 * (n : Int) - 1) < (K : Int)) ∧ bx_e n K tG tN tR tL
def sb_H (m : Nat) (F : aq_F) (o n : Nat) : Prop := ∃ (z : Nat) (tl : Int → Int) (th : Int → Int → Int), hv_0 m F o n z tl th ∧ hx_e n z tl th
def sb_C (m : Nat) (F : aq_F) : Prop := 527 ≤ m ∧ F 0 = (14, 5, sb_t) ∧ F 1 = (4, 4, fun j => aq_g 4 j (sb_o j)) ∧ F 2 = (5, 4, fun j => aq_g 4 j (sb_h j)) ∧ F 3 = (6, 8, fun j => aq_g 8 j (495 + 4 * j)) ∧ su_0 m F 4 ∧ cr_0 m F 8 ∧ (∀ j, j < 8 → su_0 m F (495 + 4 * j)) ∧ (∀ j, j < 4 → sb_B m F (sb_o j) (j + 1) (sb_K j)) ∧ ∀ j, j < 4 → sb_H m F (sb_h j) (j + 1)
/-- a sum between public calls -/
def sb_u (a : Nat) (c : aq_C) : Prop := 1 ≤ c a 0 ∧ c a 0 ≤ 4 ∧ su_k a (bx_K (c a 0)) c
def cl_I (c : aq_C) : Prop := (∀ j, j < 4 → aq_rg (sb_o j + 6 + 3 * sb_K j) (2 * ((j + 1 : Nat) : Int)) 0 (2 * ((j + 1 : Nat) : Int)) c) ∧ cr_l 8 c ∧ ∀ j, j < 8 → sb_u (495 + 4 * j) c
theorem sb_box {m : Nat} {F : aq_F} (hC : sb_C m F) {i : Int} (h0 : 0 ≤ i) (h4 : i < 4) : ∃ o n K : Nat, sb_o i.toNat = o ∧ (n : Int) = i + 1 ∧ (K : Int) = bx_K (i + 1) ∧ n = i.toNat + 1 ∧ sb_K i.toNat = K ∧ sb_B m F o n K := by
  refine ⟨_, i.toNat + 1, _, rfl, by omega, ?_, rfl, rfl, hC.2.2.2.2.2.2.2.2.1 i.toNat (by omega)⟩
  have h : i = 0 ∨ i = 1 ∨ i = 2 ∨ i = 3 := by omega
  rcases h with h | h | h | h <;> subst h <;> decide
theorem sb_half {m : Nat} {F : aq_F} (hC : sb_C m F) {i : Int} (h0 : 0 ≤ i) (h4 : i < 4) : ∃ o n : Nat, sb_h i.toNat = o ∧ (n : Int) = i + 1 ∧ sb_H m F o n :=
  ⟨_, i.toNat + 1, rfl, by omega, hC.2.2.2.2.2.2.2.2.2 i.toNat (by omega)⟩
theorem sb_dis : ∀ i, i < 4 → ∀ j, j < 4 → i ≠ j → sb_o i + 6 + 3 * sb_K i ≠ sb_o j + 6 + 3 * sb_K j ∧ sb_o i + 6 + 3 * sb_K i ≠ sb_o j + 7 + 3 * sb_K j := by decide
theorem sb_bnd : ∀ j, j < 4 → 20 ≤ sb_o j + 6 + 3 * sb_K j ∧ sb_o j + 7 + 3 * sb_K j < 495 := by decide
theorem sb_hnd : ∀ i, i < 4 → ∀ j, j < 4 → 20 ≤ sb_h j ∧ sb_h j + 18 ≤ 495 ∧ (sb_o i + 7 + 3 * sb_K i < sb_h j ∨ sb_h j + 18 ≤ sb_o i) := by decide
theorem cr_lc {x : Nat} {c d : aq_C} (h0 : ∀ i, d x i = c x i) (h1 : ∀ i, d (x + 1) i = c (x + 1) i) (h : cr_l x c) : cr_l x d := by
  unfold cr_l at *
  simp only [h0, h1]
  exact h
theorem su_kc {a : Nat} {k : Int} {c d : aq_C} (h0 : ∀ i, d a i = c a i) (h1 : ∀ i, d (a + 1) i = c (a + 1) i) (h3 : ∀ i, d (a + 3) i = c (a + 3) i) (h : su_k a k c) : su_k a k d := by
  unfold su_k at *
  simp only [h0, h1, h3]
  exact h
theorem sb_uc {a : Nat} {c d : aq_C} (h0 : ∀ i, d a i = c a i) (h1 : ∀ i, d (a + 1) i = c (a + 1) i) (h3 : ∀ i, d (a + 3) i = c (a + 3) i) (h : sb_u a c) : sb_u a d := by
  refine ⟨by rw [h0]; exact h.1, by rw [h0]; exact h.2.1, ?_⟩
  rw [h0]
  exact su_kc h0 h1 h3 h.2.2
/-- contents that differ on cells that hold nothing of the invariant -/
theorem cl_s {S : Nat → Prop} {c d : aq_C} (hI : cl_I c) (hs : aq_sm S c d) (h1 : ∀ j, j < 4 → ¬ S (sb_o j + 6 + 3 * sb_K j)) (h2 : ¬ S 8 ∧ ¬ S 9) (h3 : ∀ a, 495 ≤ a → ¬ S a) : cl_I d :=
  ⟨fun j hj => aq_rgs (hI.1 j hj) hs (h1 j hj), cr_lc (hs 8 h2.1) (hs 9 h2.2) hI.2.1, fun j hj => sb_uc (hs _ (h3 _ (by omega))) (hs _ (h3 _ (by omega))) (hs _ (h3 _ (by omega))) (hI.2.2 j hj)⟩
/-- draft and seen of one of the Boxes -/
theorem cl_b {c d : aq_C} {j : Nat} (hI : cl_I c) (hj : j < 4) (hs : aq_sm (fun a => a = sb_o j + 6 + 3 * sb_K j ∨ a = sb_o j + 7 + 3 * sb_K j) c d) (hr : aq_rg (sb_o j + 6 + 3 * sb_K j) (2 * ((j + 1 : Nat) : Int)) 0 (2 * ((j + 1 : Nat) : Int)) d) : cl_I d := by
  have hb := sb_bnd j hj
  refine ⟨fun i hi => ?_, cr_lc (hs 8 (by omega)) (hs 9 (by omega)) hI.2.1, fun i hi => sb_uc (hs _ (by omega)) (hs _ (by omega)) (hs _ (by omega)) (hI.2.2 i hi)⟩
  by_cases e : i = j
  · subst e
    exact hr
  · have h5 := sb_dis i hi j hj e
    exact aq_rgs (hI.1 i hi) hs (by omega)
/-- seen and table of one of the Halves -/
theorem cl_h {c d : aq_C} {j : Nat} (hI : cl_I c) (hj : j < 4) (hs : aq_sm (fun a => sb_h j ≤ a ∧ a < sb_h j + 18) c d) : cl_I d := by
  refine cl_s hI hs (fun i hi => ?_) ?_ (fun a ha => ?_)
  · have := sb_hnd i hi j hj
    omega
  · have := sb_hnd 0 (by omega) j hj
    omega
  · have := sb_hnd 0 (by omega) j hj
    omega
/-- the row of crossings -/
theorem cl_x {c d : aq_C} (hI : cl_I c) (hs : aq_sm (fun a => a = 8 ∨ a = 8 + 1) c d) (hl : cr_l 8 d) : cl_I d := by
  refine ⟨fun i hi => ?_, hl, fun i hi => sb_uc (hs _ (by omega)) (hs _ (by omega)) (hs _ (by omega)) (hI.2.2 i hi)⟩
  have hb := sb_bnd i hi
  exact aq_rgs (hI.1 i hi) hs (by omega)
/-- one of the sums -/
theorem cl_u {c d : aq_C} {j : Nat} (hI : cl_I c) (hj : j < 8) (hs : aq_sm (fun b => b = 495 + 4 * j ∨ b = 495 + 4 * j + 1 ∨ b = 495 + 4 * j + 2 ∨ b = 495 + 4 * j + 3) c d) (hu : sb_u (495 + 4 * j) d) : cl_I d := by
  refine ⟨fun i hi => ?_, cr_lc (hs 8 (by omega)) (hs 9 (by omega)) hI.2.1, fun i hi => ?_⟩
  · have hb := sb_bnd i hi
    exact aq_rgs (hI.1 i hi) hs (by omega)
  · by_cases e : i = j
    · subst e
      exact hu
    · exact sb_uc (hs _ (by omega)) (hs _ (by omega)) (hs _ (by omega)) (hI.2.2 i hi)
/-- the sum that is made -/
theorem cl_m {c d : aq_C} (hI : cl_I c) (hs : aq_sm (fun b => b = 4 ∨ b = 4 + 1 ∨ b = 4 + 2 ∨ b = 4 + 3) c d) : cl_I d := by
  refine cl_s hI hs (fun i hi => ?_) (by omega) (fun a ha => by omega)
  have hb := sb_bnd i hi
  omega
def aq_vl (r : Option am_V) : Prop := ∃ v, r = some (vL v)
theorem am_sq {d : Int} (h0 : 2 ≤ d) (h1 : d ≤ 32) : 0 ≤ d * d ∧ d * d ≤ 1024 := by
  refine ⟨Int.mul_nonneg (by omega) (by omega), ?_⟩
  exact Int.mul_le_mul h1 h1 (by omega) (by omega)
theorem ae_swd {C : am_C} {pc : Nat} {ls st : List am_V} {h : am_H} {Z : Option am_V → am_H → Prop} {d lo hi a : Int} {offs : Array Int} {len x y : Nat} (hrow : am_row C pc = some (.tableswitch d lo hi offs, len, x, y)) (ha : a < lo ∨ hi < a) (k : am_E C (((pc : Int) + d).toNat, ls, st, h) Z) : am_E C (pc, ls, vI a :: st, h) Z := by
  refine am_E.go hrow ?_ k
  show am_sw d lo hi offs len x y (pc, ls, vI a :: st, h) = _
  unfold am_sw
  simp only []
  rw [if_pos ha]

theorem qn_X4_isStrands {m s : Nat} {F : aq_F} {c : aq_C} {n : Int} : am_E ac_X4_isStrands (0, [vI n], [], aq_h m s F c) (aq_P m s F c (fun r => ∃ v, r = some (vI v) ∧ ((v = 1 ∧ 1 ≤ n ∧ n ≤ 4) ∨ (v = 0 ∧ ¬ (1 ≤ n ∧ n ≤ 4))))) := by
  refine am_E.go (t2 := (1, [vI n], [vI n], aq_h m s F c)) rfl rfl ?_
  refine am_E.go (t2 := (2, [vI n], [vI 1, vI n], aq_h m s F c)) rfl rfl ?_
  refine ae_icmp rfl (fun (q_1 : n < 1) => ?_) (fun (q_1 : 1 ≤ n) => ?_)
  · refine am_E.go (t2 := (15, [vI n], [vI 0], aq_h m s F c)) rfl rfl ?_
    refine am_E.ret rfl rfl ?_
    exact ⟨rfl, _, rfl, by omega⟩
  · refine am_E.go (t2 := (6, [vI n], [vI n], aq_h m s F c)) rfl rfl ?_
    refine am_E.go (t2 := (7, [vI n], [vI 4, vI n], aq_h m s F c)) rfl rfl ?_
    refine ae_icmp rfl (fun (q_2 : 4 < n) => ?_) (fun (q_2 : n ≤ 4) => ?_)
    · refine am_E.go (t2 := (15, [vI n], [vI 0], aq_h m s F c)) rfl rfl ?_
      refine am_E.ret rfl rfl ?_
      exact ⟨rfl, _, rfl, by omega⟩
    · refine am_E.go (t2 := (11, [vI n], [vI 1], aq_h m s F c)) rfl rfl ?_
      refine am_E.go (t2 := (15, [vI n], [vI 1], aq_h m s F c)) rfl rfl ?_
      refine am_E.ret rfl rfl ?_
      exact ⟨rfl, _, rfl, by omega⟩

theorem qn_X4_isSum {m s : Nat} {F : aq_F} {c : aq_C} {n : Int} : am_E ac_X4_isSum (0, [vI n], [], aq_h m s F c) (aq_P m s F c (fun r => ∃ v, r = some (vI v) ∧ ((v = 1 ∧ 0 ≤ n ∧ n < 8) ∨ (v = 0 ∧ ¬ (0 ≤ n ∧ n < 8))))) := by
  refine am_E.go (t2 := (1, [vI n], [vI n], aq_h m s F c)) rfl rfl ?_
  refine ae_if0 rfl (fun (q_1 : n < 0) => ?_) (fun (q_1 : 0 ≤ n) => ?_)
  · refine am_E.go (t2 := (15, [vI n], [vI 0], aq_h m s F c)) rfl rfl ?_
    refine am_E.ret rfl rfl ?_
    exact ⟨rfl, _, rfl, by omega⟩
  · refine am_E.go (t2 := (5, [vI n], [vI n], aq_h m s F c)) rfl rfl ?_
    refine am_E.go (t2 := (7, [vI n], [vI 8, vI n], aq_h m s F c)) rfl rfl ?_
    refine ae_icmp rfl (fun (q_2 : 8 ≤ n) => ?_) (fun (q_2 : n < 8) => ?_)
    · refine am_E.go (t2 := (15, [vI n], [vI 0], aq_h m s F c)) rfl rfl ?_
      refine am_E.ret rfl rfl ?_
      exact ⟨rfl, _, rfl, by omega⟩
    · refine am_E.go (t2 := (11, [vI n], [vI 1], aq_h m s F c)) rfl rfl ?_
      refine am_E.go (t2 := (15, [vI n], [vI 1], aq_h m s F c)) rfl rfl ?_
      refine am_E.ret rfl rfl ?_
      exact ⟨rfl, _, rfl, by omega⟩

theorem qn_X4_isThrough {m s : Nat} {F : aq_F} {c : aq_C} {n t : Int} : am_E ac_X4_isThrough (0, [vI n, vI t], [], aq_h m s F c) (aq_P m s F c (fun r => ∃ v, r = some (vI v) ∧ ((v = 1 ∧ 1 ≤ n ∧ n ≤ 4 ∧ 0 ≤ t ∧ t ≤ n) ∨ (v = 0 ∧ ¬ (1 ≤ n ∧ n ≤ 4 ∧ 0 ≤ t ∧ t ≤ n))))) := by
  refine am_E.go (t2 := (1, [vI n, vI t], [vI n], aq_h m s F c)) rfl rfl ?_
  refine am_E.call rfl rfl rfl (Nat.le_of_ble_eq_true rfl) (qn_X4_isStrands) ?_
  rintro r5 h5 ⟨rfl, v_1, rfl, hv_1⟩
  show am_E _ (4, [vI n, vI t], [vI v_1], aq_h m s F c) _
  refine ae_if0 rfl (fun (q_2 : v_1 = 0) => ?_) (fun (q_2 : v_1 ≠ 0) => ?_)
  · refine am_E.go (t2 := (21, [vI n, vI t], [vI 0], aq_h m s F c)) rfl rfl ?_
    refine am_E.ret rfl rfl ?_
    exact ⟨rfl, _, rfl, by omega⟩
  · refine am_E.go (t2 := (8, [vI n, vI t], [vI t], aq_h m s F c)) rfl rfl ?_
    refine ae_if0 rfl (fun (q_3 : t < 0) => ?_) (fun (q_3 : 0 ≤ t) => ?_)
    · refine am_E.go (t2 := (21, [vI n, vI t], [vI 0], aq_h m s F c)) rfl rfl ?_
      refine am_E.ret rfl rfl ?_
      exact ⟨rfl, _, rfl, by omega⟩
    · refine am_E.go (t2 := (12, [vI n, vI t], [vI t], aq_h m s F c)) rfl rfl ?_
      refine am_E.go (t2 := (13, [vI n, vI t], [vI n, vI t], aq_h m s F c)) rfl rfl ?_
      refine ae_icmp rfl (fun (q_4 : n < t) => ?_) (fun (q_4 : t ≤ n) => ?_)
      · refine am_E.go (t2 := (21, [vI n, vI t], [vI 0], aq_h m s F c)) rfl rfl ?_
        refine am_E.ret rfl rfl ?_
        exact ⟨rfl, _, rfl, by omega⟩
      · refine am_E.go (t2 := (17, [vI n, vI t], [vI 1], aq_h m s F c)) rfl rfl ?_
        refine am_E.go (t2 := (21, [vI n, vI t], [vI 1], aq_h m s F c)) rfl rfl ?_
        refine am_E.ret rfl rfl ?_
        exact ⟨rfl, _, rfl, by omega⟩

theorem qn_isPrime_l {m s : Nat} {F : aq_F} {c : aq_C} {p : Int} (hp0 : 2 ≤ p) (hp1 : p ≤ 997) : ∀ (d : Nat) (d5 : Int) (h0 : 2 ≤ d5) (h1 : d5 ≤ 32) (hd : 32 - d5 < (d : Int)), am_E ac_X4_isPrime (16, [vI p, vI d5], [], aq_h m s F c) (aq_P m s F c (fun r => ∃ v, r = some (vI v) ∧ ((v = 1 ∧ 2 ≤ p ∧ p ≤ 997) ∨ v = 0)))
  | 0, d5, h0, h1, hd => by exfalso; omega
  | d + 1, d5, h0, h1, hd => by
    have e1 : d5 = 32 → d5 * d5 = 1024 := by intro h; rw [h]; rfl
    have e2 := am_sq h0 h1
    refine am_E.go (t2 := (17, [vI p, vI d5], [vI d5], aq_h m s F c)) rfl rfl ?_
    refine am_E.go (t2 := (18, [vI p, vI d5], [vI d5, vI d5], aq_h m s F c)) rfl rfl ?_
    refine ae_mul rfl (am_ri (by omega) (by omega)) ?_
    show am_E _ (19, [vI p, vI d5], [vI (d5 * d5)], aq_h m s F c) _
    refine am_E.go (t2 := (20, [vI p, vI d5], [vI p, vI (d5 * d5)], aq_h m s F c)) rfl rfl ?_
    refine ae_icmp rfl (fun (q_1 : p < (d5 * d5)) => ?_) (fun (q_1 : (d5 * d5) ≤ p) => ?_)
    · refine am_E.go (t2 := (38, [vI p, vI d5], [vI 1], aq_h m s F c)) rfl rfl ?_
      refine am_E.ret rfl rfl ?_
      exact ⟨rfl, _, rfl, by omega⟩
    · refine am_E.go (t2 := (24, [vI p, vI d5], [vI p], aq_h m s F c)) rfl rfl ?_
      refine am_E.go (t2 := (25, [vI p, vI d5], [vI d5, vI p], aq_h m s F c)) rfl rfl ?_
      refine ae_bin (z := p.tmod d5) rfl rfl (am_rem_s (by omega)) ?_
      show am_E _ (26, [vI p, vI d5], [vI (p.tmod d5)], aq_h m s F c) _
      refine ae_if0 rfl (fun (q_2 : (p.tmod d5) ≠ 0) => ?_) (fun (q_2 : (p.tmod d5) = 0) => ?_)
      · refine ae_iinc rfl rfl (am_ri (by omega) (by omega)) ?_
        show am_E _ (34, [vI p, vI (d5 + 1)], [], aq_h m s F c) _
        refine am_E.go (t2 := (16, [vI p, vI (d5 + 1)], [], aq_h m s F c)) rfl rfl ?_
        exact qn_isPrime_l hp0 hp1 d (d5 + 1) (by omega) (by omega) (by omega)
      · refine am_E.go (t2 := (30, [vI p, vI d5], [vI 0], aq_h m s F c)) rfl rfl ?_
        refine am_E.ret rfl rfl ?_
        exact ⟨rfl, _, rfl, by omega⟩

theorem qn_X4_isPrime {m s : Nat} {F : aq_F} {c : aq_C} {p : Int} : am_E ac_X4_isPrime (0, [vI p, vU], [], aq_h m s F c) (aq_P m s F c (fun r => ∃ v, r = some (vI v) ∧ ((v = 1 ∧ 2 ≤ p ∧ p ≤ 997) ∨ v = 0))) := by
  refine am_E.go (t2 := (1, [vI p, vU], [vI p], aq_h m s F c)) rfl rfl ?_
  refine am_E.go (t2 := (2, [vI p, vU], [vI 2, vI p], aq_h m s F c)) rfl rfl ?_
  refine ae_icmp rfl (fun (q_1 : p < 2) => ?_) (fun (q_1 : 2 ≤ p) => ?_)
  · refine am_E.go (t2 := (13, [vI p, vU], [vI 0], aq_h m s F c)) rfl rfl ?_
    refine am_E.ret rfl rfl ?_
    exact ⟨rfl, _, rfl, by omega⟩
  · refine am_E.go (t2 := (6, [vI p, vU], [vI p], aq_h m s F c)) rfl rfl ?_
    refine am_E.go (t2 := (9, [vI p, vU], [vI 997, vI p], aq_h m s F c)) rfl rfl ?_
    refine ae_icmp rfl (fun (q_2 : p ≤ 997) => ?_) (fun (q_2 : 997 < p) => ?_)
    · refine am_E.go (t2 := (15, [vI p, vU], [vI 2], aq_h m s F c)) rfl rfl ?_
      refine am_E.go (t2 := (16, [vI p, vI 2], [], aq_h m s F c)) rfl rfl ?_
      exact qn_isPrime_l (by omega) (by omega) 32 2 (by omega) (by omega) (by omega)
    · refine am_E.go (t2 := (13, [vI p, vU], [vI 0], aq_h m s F c)) rfl rfl ?_
      refine am_E.ret rfl rfl ?_
      exact ⟨rfl, _, rfl, by omega⟩

theorem qn_X4_isBox {m s : Nat} {F : aq_F} {c : aq_C} (hC : sb_C m F) {nn b : Int} : am_E ac_X4_isBox (0, [vR 0, vI nn, vI b], [], aq_h m s F c) (aq_P m s F c (fun r => ∃ v, r = some (vI v) ∧ ((v = 1 ∧ 1 ≤ nn ∧ nn ≤ 4 ∧ 0 ≤ b ∧ b < bx_K nn) ∨ (v = 0 ∧ ¬ (1 ≤ nn ∧ nn ≤ 4 ∧ 0 ≤ b ∧ b < bx_K nn))))) := by
  obtain ⟨hCm, hC0, hC1, hC2, hC3, ⟨hma4, hFa4, hFn4, hFp4, hFf4⟩, ⟨hmx, hFx, hFl, hFw⟩, hCs, hCb, hCh⟩ := id hC
  refine am_E.go (t2 := (1, [vR 0, vI nn, vI b], [vI nn], aq_h m s F c)) rfl rfl ?_
  refine am_E.call rfl rfl rfl (Nat.le_of_ble_eq_true rfl) (qn_X4_isStrands) ?_
  rintro r5 h5 ⟨rfl, v_1, rfl, hv_1⟩
  show am_E _ (4, [vR 0, vI nn, vI b], [vI v_1], aq_h m s F c) _
  refine ae_if0 rfl (fun (q_2 : v_1 = 0) => ?_) (fun (q_2 : v_1 ≠ 0) => ?_)
  · refine am_E.go (t2 := (31, [vR 0, vI nn, vI b], [vI 0], aq_h m s F c)) rfl rfl ?_
    refine am_E.ret rfl rfl ?_
    exact ⟨rfl, _, rfl, by omega⟩
  · have e8 : nn - 1 + 1 = nn := by omega
    refine am_E.go (t2 := (8, [vR 0, vI nn, vI b], [vI b], aq_h m s F c)) rfl rfl ?_
    refine ae_if0 rfl (fun (q_3 : b < 0) => ?_) (fun (q_3 : 0 ≤ b) => ?_)
    · refine am_E.go (t2 := (31, [vR 0, vI nn, vI b], [vI 0], aq_h m s F c)) rfl rfl ?_
      refine am_E.ret rfl rfl ?_
      exact ⟨rfl, _, rfl, by omega⟩
    · refine am_E.go (t2 := (12, [vR 0, vI nn, vI b], [vI b], aq_h m s F c)) rfl rfl ?_
      refine am_E.go (t2 := (13, [vR 0, vI nn, vI b], [vR 0, vI b], aq_h m s F c)) rfl rfl ?_
      refine aq_gf (v := vR 1) rfl (by omega) hC0 (by decide) rfl ?_
      show am_E _ (16, [vR 0, vI nn, vI b], [vR 1, vI b], aq_h m s F c) _
      refine am_E.go (t2 := (17, [vR 0, vI nn, vI b], [vI nn, vR 1, vI b], aq_h m s F c)) rfl rfl ?_
      refine am_E.go (t2 := (18, [vR 0, vI nn, vI b], [vI 1, vI nn, vR 1, vI b], aq_h m s F c)) rfl rfl ?_
      refine ae_sub rfl (am_ri (by omega) (by omega)) ?_
      show am_E _ (19, [vR 0, vI nn, vI b], [vI (nn - 1), vR 1, vI b], aq_h m s F c) _
      obtain ⟨o, n, K, e_o, e_n, e_K, e_j, e_k, tP, tG, tN, tR, tL, ⟨hm, hn1, hn4, hK, hFo, hFd, hFs⟩, ⟨hPg, hPr, hPt⟩, ⟨hL, hGg, hGr, hNg, hNr, hLt, hGt, hNt⟩, ⟨hR, hRt⟩, hst, hex⟩ := sb_box hC (i := (nn - 1)) (by omega) (by omega)
      have hb := sb_bnd ((nn - 1)).toNat (by omega)
      rw [e_o, e_k] at hb
      refine aq_al (ok := fun k => decide (3 ≤ k) && decide (k < 7)) (v := vR o) rfl rfl (by omega) hC1 rfl (by omega) (by omega) (aq_gi2 (by omega) e_o) ?_
      show am_E _ (20, [vR 0, vI nn, vI b], [vR o, vI b], aq_h m s F c) _
      refine aq_gf (v := vI (K : Int)) rfl (by omega) hFo (by decide) rfl ?_
      show am_E _ (23, [vR 0, vI nn, vI b], [vI (K : Int), vI b], aq_h m s F c) _
      refine ae_icmp rfl (fun (q_4 : (K : Int) ≤ b) => ?_) (fun (q_4 : b < (K : Int)) => ?_)
      · rw [e8] at e_K
        refine am_E.go (t2 := (31, [vR 0, vI nn, vI b], [vI 0], aq_h m s F c)) rfl rfl ?_
        refine am_E.ret rfl rfl ?_
        exact ⟨rfl, _, rfl, by omega⟩
      · rw [e8] at e_K
        refine am_E.go (t2 := (27, [vR 0, vI nn, vI b], [vI 1], aq_h m s F c)) rfl rfl ?_
        refine am_E.go (t2 := (31, [vR 0, vI nn, vI b], [vI 1], aq_h m s F c)) rfl rfl ?_
        refine am_E.ret rfl rfl ?_
        exact ⟨rfl, _, rfl, by omega⟩
