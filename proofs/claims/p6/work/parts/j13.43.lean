
theorem qn_X1_wholeAt {m s : Nat} {F : aq_F} {c : aq_C} {S : Nat → Prop} {x : Nat} (hX : cr_0 m F x) (hSw : S (x + 2)) (hnx : ¬ S x) (hny : ¬ S (x + 1)) (hl : cr_l x c) {o n K : Nat} (hB : bx_0 m F o n K) (hSd : S (o + 6 + 3 * K)) (hSs : S (o + 7 + 3 * K)) (hxn : c x 0 = (n : Int)) (hdx : o + 6 + 3 * K ≠ x + 2) {tL : Int → Int} {tG tN : Int → Int → Int} (hT : bx_w F o n K tL tG tN) {tR : Int → Int} (hRr : bx_r F o K tR) (hst : 0 ≤ nu_o (bx_ol n 0) (2 * (n : Int)) 9 0 0 (2 * (n : Int) - 1) ∧ nu_o (bx_ol n 0) (2 * (n : Int)) 9 0 0 (2 * (n : Int) - 1) < (K : Int)) (hr : aq_rg (o + 6 + 3 * K) (2 * (n : Int)) 0 (2 * (n : Int)) c) {k : Int} (hk0 : -40 ≤ k) (hk1 : k ≤ 40) : am_E ac_X1_wholeAt (0, [vR x, vI k, vR o], [], aq_h m s F c) (aq_Z m s F (fun a => S a ∨ a = x) c (fun r d => aq_vi r ∧ aq_rg (o + 6 + 3 * K) (2 * (n : Int)) 0 (2 * (n : Int)) d ∧ d x 0 = c x 0 ∧ d x 1 = c x 1 ∧ ∀ i, d (x + 1) i = c (x + 1) i)) := by
  obtain ⟨hmx, hFx, hFl, hFw⟩ := hX
  obtain ⟨hm, hn1, hn4, hK, hFo, hFd, hFs⟩ := hB
  obtain ⟨hL, hGg, hGr, hNg, hNr, hLt, hGt, hNt⟩ := hT
  obtain ⟨hR, hRt⟩ := hRr
  obtain ⟨hl0, hl1, hl2, hl3, hl4⟩ := hl
  have hdo : o + 6 + 3 * K ≠ x := fun e => hnx (by rw [← e]; exact hSd)
  refine am_E.go (t2 := (1, [vR x, vI k, vR o], [vR x], aq_h m s F c)) rfl rfl ?_
  refine aq_gf (v := vI (c x 4)) rfl (by omega) hFx (by decide) rfl ?_
  show am_E _ (4, [vR x, vI k, vR o], [vI (c x 4)], aq_h m s F c) _
  skip
  refine ae_if0 rfl (fun (q_2 : (c x 4) ≠ 0) => ?_) (fun (q_2 : (c x 4) = 0) => ?_)
  · refine am_E.go (t2 := (18, [vR x, vI k, vR o], [vR x], aq_h m s F c)) rfl rfl ?_
    refine aq_gf (v := vR (x + 2)) rfl (by omega) hFx (by decide) rfl ?_
    show am_E _ (21, [vR x, vI k, vR o], [vR (x + 2)], aq_h m s F c) _
    refine am_E.go (t2 := (22, [vR x, vI k, vR o], [vI k, vR (x + 2)], aq_h m s F c)) rfl rfl ?_
    refine am_E.go (t2 := (24, [vR x, vI k, vR o], [vI 40, vI k, vR (x + 2)], aq_h m s F c)) rfl rfl ?_
    refine ae_add rfl (am_ri (by omega) (by omega)) ?_
    show am_E _ (25, [vR x, vI k, vR o], [vI (k + 40), vR (x + 2)], aq_h m s F c) _
    refine aq_al (ok := fun k => k == 0) (v := vI (c (x + 2) (k + 40))) rfl rfl (by omega) hFw rfl (by omega) (by omega) rfl ?_
    show am_E _ (26, [vR x, vI k, vR o], [vI (c (x + 2) (k + 40))], aq_h m s F c) _
    refine am_E.ret rfl rfl ?_
    exact ⟨_, rfl, aq_sm0, ⟨_, rfl⟩, hr, rfl, rfl, fun _ => rfl⟩
  · refine am_E.go (t2 := (8, [vR x, vI k, vR o], [vR x], aq_h m s F c)) rfl rfl ?_
    refine am_E.go (t2 := (9, [vR x, vI k, vR o], [vR o, vR x], aq_h m s F c)) rfl rfl ?_
    refine aq_callv (y := 2) (as2 := [vR o]) (rest := []) rfl rfl (by decide) (Nat.le_of_ble_eq_true rfl) rfl rfl (Nat.le_of_ble_eq_true rfl) (by omega) hFx rfl (Nat.le_of_ble_eq_true rfl) (qn_X1_addStates ⟨hmx, hFx, hFl, hFw⟩ hSw hnx hny ⟨hl0, hl1, hl2, hl3, hl4⟩ ⟨hm, hn1, hn4, hK, hFo, hFd, hFs⟩ hSd hSs hxn hdx ⟨hL, hGg, hGr, hNg, hNr, hLt, hGt, hNt⟩ ⟨hR, hRt⟩ hst hr) ?_
    rintro r5 h5 ⟨c_ads, rfl, sc_ads, rfl, hrc_ads⟩
    show am_E _ (12, [vR x, vI k, vR o], [], aq_h m s F c_ads) _
    refine am_E.go (t2 := (13, [vR x, vI k, vR o], [vR x], aq_h m s F c_ads)) rfl rfl ?_
    refine am_E.go (t2 := (14, [vR x, vI k, vR o], [vI 1, vR x], aq_h m s F c_ads)) rfl rfl ?_
    refine aq_pf rfl (by omega) hFx (by decide) rfl rfl ?_
    show am_E _ (17, [vR x, vI k, vR o], [], aq_h m s F (aq_u c_ads x 4 1)) _
    generalize hdc_3 : aq_u c_ads x 4 1 = c_3
    have sc_3 := aq_smu (aq_smi (S2 := fun a => S a ∨ a = x) sc_ads (fun a h => Or.inl h)) hdc_3 (Or.inr rfl)
    have hdrc_3 := aq_rgn hrc_ads hdc_3 hdo
    refine am_E.go (t2 := (18, [vR x, vI k, vR o], [vR x], aq_h m s F c_3)) rfl rfl ?_
    refine aq_gf (v := vR (x + 2)) rfl (by omega) hFx (by decide) rfl ?_
    show am_E _ (21, [vR x, vI k, vR o], [vR (x + 2)], aq_h m s F c_3) _
    refine am_E.go (t2 := (22, [vR x, vI k, vR o], [vI k, vR (x + 2)], aq_h m s F c_3)) rfl rfl ?_
    refine am_E.go (t2 := (24, [vR x, vI k, vR o], [vI 40, vI k, vR (x + 2)], aq_h m s F c_3)) rfl rfl ?_
    refine ae_add rfl (am_ri (by omega) (by omega)) ?_
    show am_E _ (25, [vR x, vI k, vR o], [vI (k + 40), vR (x + 2)], aq_h m s F c_3) _
    refine aq_al (ok := fun k => k == 0) (v := vI (c_3 (x + 2) (k + 40))) rfl rfl (by omega) hFw rfl (by omega) (by omega) rfl ?_
    show am_E _ (26, [vR x, vI k, vR o], [vI (c_3 (x + 2) (k + 40))], aq_h m s F c_3) _
    refine am_E.ret rfl rfl ?_
    refine ⟨_, rfl, sc_3, ⟨_, rfl⟩, hdrc_3, ?_, ?_, fun i => ?_⟩
    · rw [← hdc_3, aq_un (Or.inr (by omega)), sc_ads x hnx 0]
    · rw [← hdc_3, aq_un (Or.inr (by omega)), sc_ads x hnx 1]
    · rw [← hdc_3, aq_un (Or.inl (by omega)), sc_ads (x + 1) hny i]

theorem qn_X3_begin {m s : Nat} {F : aq_F} {c : aq_C} {a : Nat} (hA : su_0 m F a) {n : Int} : am_E ac_X3_begin (0, [vR a, vI n], [], aq_h m s F c) (aq_Z m s F (fun b => b = a ∨ b = a + 1 ∨ b = a + 2 ∨ b = a + 3) c (fun r d => r = none ∧ d a 0 = n ∧ d a 1 = 0)) := by
  obtain ⟨hma, hFa, hFn, hFp, hFf⟩ := hA
  refine am_E.go (t2 := (1, [vR a, vI n], [vR a], aq_h m s F c)) rfl rfl ?_
  refine am_E.go (t2 := (2, [vR a, vI n], [vI n, vR a], aq_h m s F c)) rfl rfl ?_
  refine aq_pf rfl (by omega) hFa (by decide) rfl rfl ?_
  show am_E _ (5, [vR a, vI n], [], aq_h m s F (aq_u c a 0 n)) _
  generalize hdc_1 : aq_u c a 0 n = c_1
  have sc_1 := aq_smu (aq_sm0 (S := (fun b => b = a ∨ b = a + 1 ∨ b = a + 2 ∨ b = a + 3))) hdc_1 (Or.inl rfl)
  refine am_E.go (t2 := (6, [vR a, vI n], [vR a], aq_h m s F c_1)) rfl rfl ?_
  refine am_E.go (t2 := (7, [vR a, vI n], [vI 0, vR a], aq_h m s F c_1)) rfl rfl ?_
  refine aq_pf rfl (by omega) hFa (by decide) rfl rfl ?_
  show am_E _ (10, [vR a, vI n], [], aq_h m s F (aq_u c_1 a 1 0)) _
  generalize hdc_2 : aq_u c_1 a 1 0 = c_2
  have sc_2 := aq_smu sc_1 hdc_2 (Or.inl rfl)
  refine am_E.ret rfl rfl ?_
  refine ⟨_, rfl, sc_2, rfl, ?_⟩
  rw [← hdc_2, ← hdc_1]
  simp [aq_u]

theorem qn_X3_isFactor {m s : Nat} {F : aq_F} {c : aq_C} {f : Int} : am_E ac_X3_isFactor (0, [vL f, vU], [], aq_h m s F c) (aq_P m s F c (fun r => ∃ v, r = some (vI v) ∧ ((v = 1 ∧ -1000000000000 ≤ f ∧ f ≤ 1000000000000) ∨ (v = 0 ∧ ¬ (-1000000000000 ≤ f ∧ f ≤ 1000000000000))))) := by
  refine am_E.go (t2 := (1, [vL f, vU], [vL f], aq_h m s F c)) rfl rfl ?_
  refine am_E.go (t2 := (4, [vL f, vU], [vL (-1000000000000), vL f], aq_h m s F c)) rfl rfl ?_
  have ez_1 := am_lcf f (-1000000000000)
  refine am_E.go (t2 := (5, [vL f, vU], [vI (if f < (-1000000000000) then -1 else if f = (-1000000000000) then 0 else 1)], aq_h m s F c)) rfl rfl ?_
  generalize (if f < (-1000000000000) then -1 else if f = (-1000000000000) then 0 else 1) = z_1 at ez_1 ⊢
  refine ae_if0 rfl (fun (q_2 : z_1 < 0) => ?_) (fun (q_2 : 0 ≤ z_1) => ?_)
  · refine am_E.go (t2 := (21, [vL f, vU], [vI 0], aq_h m s F c)) rfl rfl ?_
    refine am_E.ret rfl rfl ?_
    exact ⟨rfl, _, rfl, by omega⟩
  · refine am_E.go (t2 := (9, [vL f, vU], [vL f], aq_h m s F c)) rfl rfl ?_
    refine am_E.go (t2 := (12, [vL f, vU], [vL 1000000000000, vL f], aq_h m s F c)) rfl rfl ?_
    have ez_3 := am_lcf f 1000000000000
    refine am_E.go (t2 := (13, [vL f, vU], [vI (if f < 1000000000000 then -1 else if f = 1000000000000 then 0 else 1)], aq_h m s F c)) rfl rfl ?_
    generalize (if f < 1000000000000 then -1 else if f = 1000000000000 then 0 else 1) = z_3 at ez_3 ⊢
    refine ae_if0 rfl (fun (q_4 : 0 < z_3) => ?_) (fun (q_4 : z_3 ≤ 0) => ?_)
    · refine am_E.go (t2 := (21, [vL f, vU], [vI 0], aq_h m s F c)) rfl rfl ?_
      refine am_E.ret rfl rfl ?_
      exact ⟨rfl, _, rfl, by omega⟩
    · refine am_E.go (t2 := (17, [vL f, vU], [vI 1], aq_h m s F c)) rfl rfl ?_
      refine am_E.go (t2 := (21, [vL f, vU], [vI 1], aq_h m s F c)) rfl rfl ?_
      refine am_E.ret rfl rfl ?_
      exact ⟨rfl, _, rfl, by omega⟩

theorem qn_X3_isAt {m s : Nat} {F : aq_F} {c : aq_C} {a : Nat} (hA : su_0 m F a) {i b p : Int} (h0 : 0 ≤ i) (h1 : c a 1 ≤ 40) : am_E ac_X3_isAt (0, [vR a, vI i, vI b, vI p], [], aq_h m s F c) (aq_P m s F c (fun r => ∃ v, r = some (vI v) ∧ ((v = 1 ∧ i < c a 1 ∧ c (a + 1) i = b ∧ c (a + 2) i = p) ∨ (v = 0 ∧ ¬ (i < c a 1 ∧ c (a + 1) i = b ∧ c (a + 2) i = p))))) := by
  obtain ⟨hma, hFa, hFn, hFp, hFf⟩ := hA
  refine am_E.go (t2 := (1, [vR a, vI i, vI b, vI p], [vI i], aq_h m s F c)) rfl rfl ?_
  refine am_E.go (t2 := (2, [vR a, vI i, vI b, vI p], [vR a, vI i], aq_h m s F c)) rfl rfl ?_
  refine aq_gf (v := vI (c a 1)) rfl (by omega) hFa (by decide) rfl ?_
  show am_E _ (5, [vR a, vI i, vI b, vI p], [vI (c a 1), vI i], aq_h m s F c) _
  refine ae_icmp rfl (fun (q_1 : (c a 1) ≤ i) => ?_) (fun (q_1 : i < (c a 1)) => ?_)
  · refine am_E.go (t2 := (33, [vR a, vI i, vI b, vI p], [vI 0], aq_h m s F c)) rfl rfl ?_
    refine am_E.ret rfl rfl ?_
    exact ⟨rfl, _, rfl, by omega⟩
  · refine am_E.go (t2 := (9, [vR a, vI i, vI b, vI p], [vR a], aq_h m s F c)) rfl rfl ?_
    refine aq_gf (v := vR (a + 1)) rfl (by omega) hFa (by decide) rfl ?_
    show am_E _ (12, [vR a, vI i, vI b, vI p], [vR (a + 1)], aq_h m s F c) _
    refine am_E.go (t2 := (13, [vR a, vI i, vI b, vI p], [vI i, vR (a + 1)], aq_h m s F c)) rfl rfl ?_
    refine aq_al (ok := fun k => k == 0) (v := vI (c (a + 1) i)) rfl rfl (by omega) hFn rfl (by omega) (by omega) rfl ?_
    show am_E _ (14, [vR a, vI i, vI b, vI p], [vI (c (a + 1) i)], aq_h m s F c) _
    refine am_E.go (t2 := (15, [vR a, vI i, vI b, vI p], [vI b, vI (c (a + 1) i)], aq_h m s F c)) rfl rfl ?_
    refine ae_icmp rfl (fun (q_2 : (c (a + 1) i) ≠ b) => ?_) (fun (q_2 : (c (a + 1) i) = b) => ?_)
    · refine am_E.go (t2 := (33, [vR a, vI i, vI b, vI p], [vI 0], aq_h m s F c)) rfl rfl ?_
      refine am_E.ret rfl rfl ?_
      exact ⟨rfl, _, rfl, by omega⟩
    · refine am_E.go (t2 := (19, [vR a, vI i, vI b, vI p], [vR a], aq_h m s F c)) rfl rfl ?_
      refine aq_gf (v := vR (a + 2)) rfl (by omega) hFa (by decide) rfl ?_
      show am_E _ (22, [vR a, vI i, vI b, vI p], [vR (a + 2)], aq_h m s F c) _
      refine am_E.go (t2 := (23, [vR a, vI i, vI b, vI p], [vI i, vR (a + 2)], aq_h m s F c)) rfl rfl ?_
      refine aq_al (ok := fun k => k == 0) (v := vI (c (a + 2) i)) rfl rfl (by omega) hFp rfl (by omega) (by omega) rfl ?_
      show am_E _ (24, [vR a, vI i, vI b, vI p], [vI (c (a + 2) i)], aq_h m s F c) _
      refine am_E.go (t2 := (25, [vR a, vI i, vI b, vI p], [vI p, vI (c (a + 2) i)], aq_h m s F c)) rfl rfl ?_
      refine ae_icmp rfl (fun (q_3 : (c (a + 2) i) ≠ p) => ?_) (fun (q_3 : (c (a + 2) i) = p) => ?_)
      · refine am_E.go (t2 := (33, [vR a, vI i, vI b, vI p], [vI 0], aq_h m s F c)) rfl rfl ?_
        refine am_E.ret rfl rfl ?_
        exact ⟨rfl, _, rfl, by omega⟩
      · refine am_E.go (t2 := (29, [vR a, vI i, vI b, vI p], [vI 1], aq_h m s F c)) rfl rfl ?_
        refine am_E.go (t2 := (33, [vR a, vI i, vI b, vI p], [vI 1], aq_h m s F c)) rfl rfl ?_
        refine am_E.ret rfl rfl ?_
        exact ⟨rfl, _, rfl, by omega⟩

theorem qn_X3_moveTail {m s : Nat} {F : aq_F} {c : aq_C} {a : Nat} (hA : su_0 m F a) {f t : Int} (hf0 : 0 ≤ f) (hf1 : f ≤ c a 1) (h40 : c a 1 ≤ 40) (ht0 : 0 ≤ t) (ht1 : t + (c a 1 - f) ≤ 40) : am_E ac_X3_moveTail (0, [vR a, vI f, vI t, vU], [], aq_h m s F c) (aq_Z m s F (fun b => b = a + 1 ∨ b = a + 2 ∨ b = a + 3) c (fun r d => r = none ∧ (∀ i, d (a + 1) i = if t ≤ i ∧ i < t + (c a 1 - f) then c (a + 1) (f + (i - t)) else c (a + 1) i) ∧ (∀ i, d (a + 2) i = if t ≤ i ∧ i < t + (c a 1 - f) then c (a + 2) (f + (i - t)) else c (a + 2) i) ∧ (∀ i, d (a + 3) i = if t ≤ i ∧ i < t + (c a 1 - f) then c (a + 3) (f + (i - t)) else c (a + 3) i))) := by
  obtain ⟨hma, hFa, hFn, hFp, hFf⟩ := hA
  refine am_E.go (t2 := (1, [vR a, vI f, vI t, vU], [vR a], aq_h m s F c)) rfl rfl ?_
  refine aq_gf (v := vI (c a 1)) rfl (by omega) hFa (by decide) rfl ?_
  show am_E _ (4, [vR a, vI f, vI t, vU], [vI (c a 1)], aq_h m s F c) _
  refine am_E.go (t2 := (5, [vR a, vI f, vI t, vU], [vI f, vI (c a 1)], aq_h m s F c)) rfl rfl ?_
  refine ae_sub rfl (am_ri (by omega) (by omega)) ?_
  show am_E _ (6, [vR a, vI f, vI t, vU], [vI ((c a 1) - f)], aq_h m s F c) _
  refine am_E.go (t2 := (7, [vR a, vI f, vI t, vI ((c a 1) - f)], [], aq_h m s F c)) rfl rfl ?_
  refine am_E.go (t2 := (8, [vR a, vI f, vI t, vI ((c a 1) - f)], [vR a], aq_h m s F c)) rfl rfl ?_
  refine aq_gf (v := vR (a + 1)) rfl (by omega) hFa (by decide) rfl ?_
  show am_E _ (11, [vR a, vI f, vI t, vI ((c a 1) - f)], [vR (a + 1)], aq_h m s F c) _
  refine am_E.go (t2 := (12, [vR a, vI f, vI t, vI ((c a 1) - f)], [vI f, vR (a + 1)], aq_h m s F c)) rfl rfl ?_
  refine am_E.go (t2 := (13, [vR a, vI f, vI t, vI ((c a 1) - f)], [vR a, vI f, vR (a + 1)], aq_h m s F c)) rfl rfl ?_
  refine aq_gf (v := vR (a + 1)) rfl (by omega) hFa (by decide) rfl ?_
  show am_E _ (16, [vR a, vI f, vI t, vI ((c a 1) - f)], [vR (a + 1), vI f, vR (a + 1)], aq_h m s F c) _
  refine am_E.go (t2 := (17, [vR a, vI f, vI t, vI ((c a 1) - f)], [vI t, vR (a + 1), vI f, vR (a + 1)], aq_h m s F c)) rfl rfl ?_
  refine am_E.go (t2 := (18, [vR a, vI f, vI t, vI ((c a 1) - f)], [vI ((c a 1) - f), vI t, vR (a + 1), vI f, vR (a + 1)], aq_h m s F c)) rfl rfl ?_
  refine aq_cpy (n := (((c a 1) - f) : Int).toNat) (sp := (f : Int).toNat) (dp := (t : Int).toNat) rfl (by omega) (by omega) hFn hFn (by decide) (by omega) (by omega) (by omega) (by omega) (by omega) ?_
  show am_E _ (21, [vR a, vI f, vI t, vI ((c a 1) - f)], [], aq_h m s F (aq_cp c (a + 1) (f : Int).toNat (a + 1) (t : Int).toNat (((c a 1) - f) : Int).toNat)) _
  generalize hdc_1 : aq_cp c (a + 1) (f : Int).toNat (a + 1) (t : Int).toNat (((c a 1) - f) : Int).toNat = c_1
  have sc_1 := aq_smc (aq_sm0 (S := fun b => b = a + 1 ∨ b = a + 2 ∨ b = a + 3)) hdc_1 (Or.inl rfl)
  refine am_E.go (t2 := (22, [vR a, vI f, vI t, vI ((c a 1) - f)], [vR a], aq_h m s F c_1)) rfl rfl ?_
  refine aq_gf (v := vR (a + 2)) rfl (by omega) hFa (by decide) rfl ?_
  show am_E _ (25, [vR a, vI f, vI t, vI ((c a 1) - f)], [vR (a + 2)], aq_h m s F c_1) _
  refine am_E.go (t2 := (26, [vR a, vI f, vI t, vI ((c a 1) - f)], [vI f, vR (a + 2)], aq_h m s F c_1)) rfl rfl ?_
  refine am_E.go (t2 := (27, [vR a, vI f, vI t, vI ((c a 1) - f)], [vR a, vI f, vR (a + 2)], aq_h m s F c_1)) rfl rfl ?_
  refine aq_gf (v := vR (a + 2)) rfl (by omega) hFa (by decide) rfl ?_
  show am_E _ (30, [vR a, vI f, vI t, vI ((c a 1) - f)], [vR (a + 2), vI f, vR (a + 2)], aq_h m s F c_1) _
  refine am_E.go (t2 := (31, [vR a, vI f, vI t, vI ((c a 1) - f)], [vI t, vR (a + 2), vI f, vR (a + 2)], aq_h m s F c_1)) rfl rfl ?_
  refine am_E.go (t2 := (32, [vR a, vI f, vI t, vI ((c a 1) - f)], [vI ((c a 1) - f), vI t, vR (a + 2), vI f, vR (a + 2)], aq_h m s F c_1)) rfl rfl ?_
  refine aq_cpy (n := (((c a 1) - f) : Int).toNat) (sp := (f : Int).toNat) (dp := (t : Int).toNat) rfl (by omega) (by omega) hFp hFp (by decide) (by omega) (by omega) (by omega) (by omega) (by omega) ?_
  show am_E _ (35, [vR a, vI f, vI t, vI ((c a 1) - f)], [], aq_h m s F (aq_cp c_1 (a + 2) (f : Int).toNat (a + 2) (t : Int).toNat (((c a 1) - f) : Int).toNat)) _
  generalize hdc_2 : aq_cp c_1 (a + 2) (f : Int).toNat (a + 2) (t : Int).toNat (((c a 1) - f) : Int).toNat = c_2
  have sc_2 := aq_smc sc_1 hdc_2 (Or.inr (Or.inl rfl))
  refine am_E.go (t2 := (36, [vR a, vI f, vI t, vI ((c a 1) - f)], [vR a], aq_h m s F c_2)) rfl rfl ?_
  refine aq_gf (v := vR (a + 3)) rfl (by omega) hFa (by decide) rfl ?_
  show am_E _ (39, [vR a, vI f, vI t, vI ((c a 1) - f)], [vR (a + 3)], aq_h m s F c_2) _
  refine am_E.go (t2 := (40, [vR a, vI f, vI t, vI ((c a 1) - f)], [vI f, vR (a + 3)], aq_h m s F c_2)) rfl rfl ?_
  refine am_E.go (t2 := (41, [vR a, vI f, vI t, vI ((c a 1) - f)], [vR a, vI f, vR (a + 3)], aq_h m s F c_2)) rfl rfl ?_
  refine aq_gf (v := vR (a + 3)) rfl (by omega) hFa (by decide) rfl ?_
  show am_E _ (44, [vR a, vI f, vI t, vI ((c a 1) - f)], [vR (a + 3), vI f, vR (a + 3)], aq_h m s F c_2) _
  refine am_E.go (t2 := (45, [vR a, vI f, vI t, vI ((c a 1) - f)], [vI t, vR (a + 3), vI f, vR (a + 3)], aq_h m s F c_2)) rfl rfl ?_
  refine am_E.go (t2 := (46, [vR a, vI f, vI t, vI ((c a 1) - f)], [vI ((c a 1) - f), vI t, vR (a + 3), vI f, vR (a + 3)], aq_h m s F c_2)) rfl rfl ?_
  refine aq_cpy (n := (((c a 1) - f) : Int).toNat) (sp := (f : Int).toNat) (dp := (t : Int).toNat) rfl (by omega) (by omega) hFf hFf (by decide) (by omega) (by omega) (by omega) (by omega) (by omega) ?_
  show am_E _ (49, [vR a, vI f, vI t, vI ((c a 1) - f)], [], aq_h m s F (aq_cp c_2 (a + 3) (f : Int).toNat (a + 3) (t : Int).toNat (((c a 1) - f) : Int).toNat)) _
  generalize hdc_3 : aq_cp c_2 (a + 3) (f : Int).toNat (a + 3) (t : Int).toNat (((c a 1) - f) : Int).toNat = c_3
  have sc_3 := aq_smc sc_2 hdc_3 (Or.inr (Or.inr rfl))
  refine am_E.ret rfl rfl ?_
  refine ⟨_, rfl, sc_3, rfl, fun i => ?_, fun i => ?_, fun i => ?_⟩
  · rw [← hdc_3, ← hdc_2, ← hdc_1]; simp only [aq_cp]; simp; split <;> split <;> first | rfl | (congr 1; omega) | omega | (exfalso; omega)
  · rw [← hdc_3, ← hdc_2, ← hdc_1]; simp only [aq_cp]; simp; split <;> split <;> first | rfl | (congr 1; omega) | omega | (exfalso; omega)
  · rw [← hdc_3, ← hdc_2, ← hdc_1]; simp only [aq_cp]; simp; split <;> split <;> first | rfl | (congr 1; omega) | omega | (exfalso; omega)

theorem qn_X3_change {m s : Nat} {F : aq_F} {c : aq_C} {a : Nat} (hA : su_0 m F a) {i f k : Int} (h0 : 0 ≤ i) (h1 : i < c a 1) (hk : su_k a k c) : am_E ac_X3_change (0, [vR a, vI i, vL f, vU], [], aq_h m s F c) (aq_Z m s F (fun b => b = a ∨ b = a + 1 ∨ b = a + 2 ∨ b = a + 3) c (fun r d => ∃ v, r = some (vI v) ∧ (v = 0 ∨ v = 1) ∧ d a 0 = c a 0 ∧ su_k a k d)) := by
  obtain ⟨hma, hFa, hFn, hFp, hFf⟩ := hA
  have hk1 := hk.1
  have hk2 := hk.2.1
  refine am_E.go (t2 := (1, [vR a, vI i, vL f, vU], [vL f], aq_h m s F c)) rfl rfl ?_
  refine am_E.call rfl rfl rfl (Nat.le_of_ble_eq_true rfl) (qn_X3_isFactor) ?_
  rintro r5 h5 ⟨rfl, v_1, rfl, hv_1⟩
  show am_E _ (4, [vR a, vI i, vL f, vU], [vI v_1], aq_h m s F c) _
  refine ae_if0 rfl (fun (q_2 : v_1 ≠ 0) => ?_) (fun (q_2 : v_1 = 0) => ?_)
  · refine am_E.go (t2 := (10, [vR a, vI i, vL f, vU], [vL f], aq_h m s F c)) rfl rfl ?_
    refine am_E.go (t2 := (11, [vR a, vI i, vL f, vU], [vL 0, vL f], aq_h m s F c)) rfl rfl ?_
    have ez_3 := am_lcf f 0
    refine am_E.go (t2 := (12, [vR a, vI i, vL f, vU], [vI (if f < 0 then -1 else if f = 0 then 0 else 1)], aq_h m s F c)) rfl rfl ?_
    generalize (if f < 0 then -1 else if f = 0 then 0 else 1) = z_3 at ez_3 ⊢
    refine ae_if0 rfl (fun (q_4 : z_3 ≠ 0) => ?_) (fun (q_4 : z_3 = 0) => ?_)
    · refine am_E.go (t2 := (37, [vR a, vI i, vL f, vU], [vR a], aq_h m s F c)) rfl rfl ?_
      refine aq_gf (v := vR (a + 3)) rfl (by omega) hFa (by decide) rfl ?_
      show am_E _ (40, [vR a, vI i, vL f, vU], [vR (a + 3)], aq_h m s F c) _
      refine am_E.go (t2 := (41, [vR a, vI i, vL f, vU], [vI i, vR (a + 3)], aq_h m s F c)) rfl rfl ?_
      refine am_E.go (t2 := (42, [vR a, vI i, vL f, vU], [vL f, vI i, vR (a + 3)], aq_h m s F c)) rfl rfl ?_
      refine aq_asl rfl rfl (by omega) hFf (by omega) (by omega) rfl ?_
      show am_E _ (43, [vR a, vI i, vL f, vU], [], aq_h m s F (aq_u c (a + 3) i f)) _
      generalize hdc_5 : aq_u c (a + 3) i f = c_5
      have sc_5 := aq_smu (aq_sm0 (S := (fun b => b = a ∨ b = a + 1 ∨ b = a + 2 ∨ b = a + 3))) hdc_5 (Or.inr (Or.inr (Or.inr rfl)))
      refine am_E.go (t2 := (44, [vR a, vI i, vL f, vU], [vI 1], aq_h m s F c_5)) rfl rfl ?_
      refine am_E.ret rfl rfl ?_
      have g1 : c_5 a 1 = c a 1 := by rw [← hdc_5, aq_un (Or.inl (by omega))]
      refine ⟨_, rfl, sc_5, 1, rfl, Or.inr rfl, by rw [← hdc_5, aq_un (Or.inl (by omega))], by omega, by omega, fun j h5 h6 => ?_⟩
      have k1 := hk.2.2 j h5 (by omega)
      rw [← hdc_5, aq_un (Or.inl (by omega))]
      refine ⟨k1.1, k1.2.1, ?_⟩
      unfold aq_u
      split
      · omega
      · exact k1.2.2
    · refine am_E.go (t2 := (16, [vR a, vI i, vL f, vU], [vR a], aq_h m s F c)) rfl rfl ?_
      refine am_E.go (t2 := (17, [vR a, vI i, vL f, vU], [vI i, vR a], aq_h m s F c)) rfl rfl ?_
      refine am_E.go (t2 := (18, [vR a, vI i, vL f, vU], [vI 1, vI i, vR a], aq_h m s F c)) rfl rfl ?_
      refine ae_add rfl (am_ri (by omega) (by omega)) ?_
      show am_E _ (19, [vR a, vI i, vL f, vU], [vI (i + 1), vR a], aq_h m s F c) _
      refine am_E.go (t2 := (20, [vR a, vI i, vL f, vU], [vI i, vI (i + 1), vR a], aq_h m s F c)) rfl rfl ?_
      refine aq_callv (y := 3) (as2 := [vI (i + 1), vI i]) (rest := []) rfl rfl (by decide) (Nat.le_of_ble_eq_true rfl) rfl rfl (Nat.le_of_ble_eq_true rfl) (by omega) hFa rfl (Nat.le_of_ble_eq_true rfl) (qn_X3_moveTail ⟨hma, hFa, hFn, hFp, hFf⟩ (by omega) (by omega) (by omega) (by omega) (by omega)) ?_
      rintro r5 h5 ⟨c_mt, rfl, sc_mt, rfl, m1, m2, m3⟩
      show am_E _ (23, [vR a, vI i, vL f, vU], [], aq_h m s F c_mt) _
      refine am_E.go (t2 := (24, [vR a, vI i, vL f, vU], [vR a], aq_h m s F c_mt)) rfl rfl ?_
      refine am_E.go (t2 := (25, [vR a, vI i, vL f, vU], [vR a, vR a], aq_h m s F c_mt)) rfl rfl ?_
      refine aq_gf (v := vI (c_mt a 1)) rfl (by omega) hFa (by decide) rfl ?_
      show am_E _ (28, [vR a, vI i, vL f, vU], [vI (c_mt a 1), vR a], aq_h m s F c_mt) _
      have f_6 := sc_mt a (by omega) 1
      refine am_E.go (t2 := (29, [vR a, vI i, vL f, vU], [vI 1, vI (c_mt a 1), vR a], aq_h m s F c_mt)) rfl rfl ?_
      refine ae_sub rfl (am_ri (by omega) (by omega)) ?_
      show am_E _ (30, [vR a, vI i, vL f, vU], [vI ((c_mt a 1) - 1), vR a], aq_h m s F c_mt) _
      refine aq_pf rfl (by omega) hFa (by decide) rfl rfl ?_
      show am_E _ (33, [vR a, vI i, vL f, vU], [], aq_h m s F (aq_u c_mt a 1 ((c_mt a 1) - 1))) _
      generalize hdc_7 : aq_u c_mt a 1 ((c_mt a 1) - 1) = c_7
      have sc_7 := aq_smu (aq_smt (aq_sm0 (S := (fun b => b = a ∨ b = a + 1 ∨ b = a + 2 ∨ b = a + 3))) (aq_smi sc_mt (fun b h => Or.inr h))) hdc_7 (Or.inl rfl)
      refine am_E.go (t2 := (43, [vR a, vI i, vL f, vU], [], aq_h m s F c_7)) rfl rfl ?_
      refine am_E.go (t2 := (44, [vR a, vI i, vL f, vU], [vI 1], aq_h m s F c_7)) rfl rfl ?_
      refine am_E.ret rfl rfl ?_
      have g1 : c_7 a 1 = c a 1 - 1 := by rw [← hdc_7, aq_us, sc_mt a (by omega) 1]
      have g0 : c_7 a 0 = c a 0 := by rw [← hdc_7, aq_un (Or.inr (by omega)), sc_mt a (by omega) 0]
      refine ⟨_, rfl, sc_7, 1, rfl, Or.inr rfl, g0, by omega, by omega, fun j h5 h6 => ?_⟩
      have k1 := hk.2.2 j h5
      have k2 := hk.2.2 (j + 1) (by omega)
      rw [← hdc_7, aq_un (Or.inl (by omega)), aq_un (Or.inl (by omega)), m1 j, m3 j]
      have e : i + 1 + (j - i) = j + 1 := by omega
      rw [e]
      split
      · exact k2 (by omega)
      · exact k1 (by omega)
  · refine am_E.go (t2 := (8, [vR a, vI i, vL f, vU], [vI 0], aq_h m s F c)) rfl rfl ?_
    refine am_E.ret rfl rfl ?_
    exact ⟨_, rfl, (aq_sm0 (S := (fun b => b = a ∨ b = a + 1 ∨ b = a + 2 ∨ b = a + 3))), 0, rfl, Or.inl rfl, rfl, hk⟩

theorem qn_X3_insert {m s : Nat} {F : aq_F} {c : aq_C} {a : Nat} (hA : su_0 m F a) {i b p f k : Int} (h0 : 0 ≤ i) (h1 : i ≤ c a 1) (hb0 : 0 ≤ b) (hbk : b < k) (hf0 : -1000000000000 ≤ f) (hf1 : f ≤ 1000000000000) (hk : su_k a k c) : am_E ac_X3_insert (0, [vR a, vI i, vI b, vI p, vL f, vU], [], aq_h m s F c) (aq_Z m s F (fun b => b = a ∨ b = a + 1 ∨ b = a + 2 ∨ b = a + 3) c (fun r d => ∃ v, r = some (vI v) ∧ (v = 0 ∨ v = 1) ∧ d a 0 = c a 0 ∧ su_k a k d)) := by
  obtain ⟨hma, hFa, hFn, hFp, hFf⟩ := hA
  have hk1 := hk.1
  have hk2 := hk.2.1
  refine am_E.go (t2 := (1, [vR a, vI i, vI b, vI p, vL f, vU], [vR a], aq_h m s F c)) rfl rfl ?_
  refine aq_gf (v := vI (c a 1)) rfl (by omega) hFa (by decide) rfl ?_
  show am_E _ (4, [vR a, vI i, vI b, vI p, vL f, vU], [vI (c a 1)], aq_h m s F c) _
  skip
  refine am_E.go (t2 := (6, [vR a, vI i, vI b, vI p, vL f, vU], [vI 40, vI (c a 1)], aq_h m s F c)) rfl rfl ?_
  refine ae_icmp rfl (fun (q_2 : (c a 1) < 40) => ?_) (fun (q_2 : 40 ≤ (c a 1)) => ?_)
  · refine am_E.go (t2 := (12, [vR a, vI i, vI b, vI p, vL f, vU], [vR a], aq_h m s F c)) rfl rfl ?_
    refine am_E.go (t2 := (13, [vR a, vI i, vI b, vI p, vL f, vU], [vI i, vR a], aq_h m s F c)) rfl rfl ?_
    refine am_E.go (t2 := (14, [vR a, vI i, vI b, vI p, vL f, vU], [vI i, vI i, vR a], aq_h m s F c)) rfl rfl ?_
    refine am_E.go (t2 := (15, [vR a, vI i, vI b, vI p, vL f, vU], [vI 1, vI i, vI i, vR a], aq_h m s F c)) rfl rfl ?_
    refine ae_add rfl (am_ri (by omega) (by omega)) ?_
    show am_E _ (16, [vR a, vI i, vI b, vI p, vL f, vU], [vI (i + 1), vI i, vR a], aq_h m s F c) _
    refine aq_callv (y := 3) (as2 := [vI i, vI (i + 1)]) (rest := []) rfl rfl (by decide) (Nat.le_of_ble_eq_true rfl) rfl rfl (Nat.le_of_ble_eq_true rfl) (by omega) hFa rfl (Nat.le_of_ble_eq_true rfl) (qn_X3_moveTail ⟨hma, hFa, hFn, hFp, hFf⟩ (by omega) (by omega) (by omega) (by omega) (by omega)) ?_
    rintro r5 h5 ⟨c_mt, rfl, sc_mt, rfl, m1, m2, m3⟩
    show am_E _ (19, [vR a, vI i, vI b, vI p, vL f, vU], [], aq_h m s F c_mt) _
    refine am_E.go (t2 := (20, [vR a, vI i, vI b, vI p, vL f, vU], [vR a], aq_h m s F c_mt)) rfl rfl ?_
    refine am_E.go (t2 := (21, [vR a, vI i, vI b, vI p, vL f, vU], [vR a, vR a], aq_h m s F c_mt)) rfl rfl ?_
    refine aq_gf (v := vI (c_mt a 1)) rfl (by omega) hFa (by decide) rfl ?_
    show am_E _ (24, [vR a, vI i, vI b, vI p, vL f, vU], [vI (c_mt a 1), vR a], aq_h m s F c_mt) _
    have f_3 := sc_mt a (by omega) 1
    refine am_E.go (t2 := (25, [vR a, vI i, vI b, vI p, vL f, vU], [vI 1, vI (c_mt a 1), vR a], aq_h m s F c_mt)) rfl rfl ?_
    refine ae_add rfl (am_ri (by omega) (by omega)) ?_
    show am_E _ (26, [vR a, vI i, vI b, vI p, vL f, vU], [vI ((c_mt a 1) + 1), vR a], aq_h m s F c_mt) _
    refine aq_pf rfl (by omega) hFa (by decide) rfl rfl ?_
    show am_E _ (29, [vR a, vI i, vI b, vI p, vL f, vU], [], aq_h m s F (aq_u c_mt a 1 ((c_mt a 1) + 1))) _
    generalize hdc_4 : aq_u c_mt a 1 ((c_mt a 1) + 1) = c_4
    have sc_4 := aq_smu (aq_smt (aq_sm0 (S := (fun b => b = a ∨ b = a + 1 ∨ b = a + 2 ∨ b = a + 3))) (aq_smi sc_mt (fun b h => Or.inr h))) hdc_4 (Or.inl rfl)
    refine am_E.go (t2 := (30, [vR a, vI i, vI b, vI p, vL f, vU], [vR a], aq_h m s F c_4)) rfl rfl ?_
    refine aq_gf (v := vR (a + 1)) rfl (by omega) hFa (by decide) rfl ?_
    show am_E _ (33, [vR a, vI i, vI b, vI p, vL f, vU], [vR (a + 1)], aq_h m s F c_4) _
    refine am_E.go (t2 := (34, [vR a, vI i, vI b, vI p, vL f, vU], [vI i, vR (a + 1)], aq_h m s F c_4)) rfl rfl ?_
    refine am_E.go (t2 := (35, [vR a, vI i, vI b, vI p, vL f, vU], [vI b, vI i, vR (a + 1)], aq_h m s F c_4)) rfl rfl ?_
    refine aq_as (kd := 0) rfl rfl (by omega) hFn (by omega) (by omega) rfl rfl ?_
    show am_E _ (36, [vR a, vI i, vI b, vI p, vL f, vU], [], aq_h m s F (aq_u c_4 (a + 1) i b)) _
    generalize hdc_5 : aq_u c_4 (a + 1) i b = c_5
    have sc_5 := aq_smu sc_4 hdc_5 (Or.inr (Or.inl rfl))
    refine am_E.go (t2 := (37, [vR a, vI i, vI b, vI p, vL f, vU], [vR a], aq_h m s F c_5)) rfl rfl ?_
    refine aq_gf (v := vR (a + 2)) rfl (by omega) hFa (by decide) rfl ?_
    show am_E _ (40, [vR a, vI i, vI b, vI p, vL f, vU], [vR (a + 2)], aq_h m s F c_5) _
    refine am_E.go (t2 := (41, [vR a, vI i, vI b, vI p, vL f, vU], [vI i, vR (a + 2)], aq_h m s F c_5)) rfl rfl ?_
    refine am_E.go (t2 := (42, [vR a, vI i, vI b, vI p, vL f, vU], [vI p, vI i, vR (a + 2)], aq_h m s F c_5)) rfl rfl ?_
    refine aq_as (kd := 0) rfl rfl (by omega) hFp (by omega) (by omega) rfl rfl ?_
    show am_E _ (43, [vR a, vI i, vI b, vI p, vL f, vU], [], aq_h m s F (aq_u c_5 (a + 2) i p)) _
    generalize hdc_6 : aq_u c_5 (a + 2) i p = c_6
    have sc_6 := aq_smu sc_5 hdc_6 (Or.inr (Or.inr (Or.inl rfl)))
    refine am_E.go (t2 := (44, [vR a, vI i, vI b, vI p, vL f, vU], [vR a], aq_h m s F c_6)) rfl rfl ?_
    refine aq_gf (v := vR (a + 3)) rfl (by omega) hFa (by decide) rfl ?_
    show am_E _ (47, [vR a, vI i, vI b, vI p, vL f, vU], [vR (a + 3)], aq_h m s F c_6) _
    refine am_E.go (t2 := (48, [vR a, vI i, vI b, vI p, vL f, vU], [vI i, vR (a + 3)], aq_h m s F c_6)) rfl rfl ?_
    refine am_E.go (t2 := (50, [vR a, vI i, vI b, vI p, vL f, vU], [vL f, vI i, vR (a + 3)], aq_h m s F c_6)) rfl rfl ?_
    refine aq_asl rfl rfl (by omega) hFf (by omega) (by omega) rfl ?_
    show am_E _ (51, [vR a, vI i, vI b, vI p, vL f, vU], [], aq_h m s F (aq_u c_6 (a + 3) i f)) _
    generalize hdc_7 : aq_u c_6 (a + 3) i f = c_7
    have sc_7 := aq_smu sc_6 hdc_7 (Or.inr (Or.inr (Or.inr rfl)))
    refine am_E.go (t2 := (52, [vR a, vI i, vI b, vI p, vL f, vU], [vI 1], aq_h m s F c_7)) rfl rfl ?_
    refine am_E.ret rfl rfl ?_
    have g1 : c_7 a 1 = c a 1 + 1 := by rw [← hdc_7, aq_un (Or.inl (by omega)), ← hdc_6, aq_un (Or.inl (by omega)), ← hdc_5, aq_un (Or.inl (by omega)), ← hdc_4, aq_us, sc_mt a (by omega) 1]
    have g0 : c_7 a 0 = c a 0 := by rw [← hdc_7, aq_un (Or.inl (by omega)), ← hdc_6, aq_un (Or.inl (by omega)), ← hdc_5, aq_un (Or.inl (by omega)), ← hdc_4, aq_un (Or.inr (by omega)), sc_mt a (by omega) 0]
    refine ⟨_, rfl, sc_7, 1, rfl, Or.inr rfl, g0, by omega, by omega, fun j h5 h6 => ?_⟩
    have k1 := hk.2.2 j h5
    have k2 := hk.2.2 (j - 1)
    have n1 : c_7 (a + 1) j = if j = i then b else c_mt (a + 1) j := by
      rw [← hdc_7, aq_un (Or.inl (by omega)), ← hdc_6, aq_un (Or.inl (by omega)), ← hdc_5]
      by_cases e : j = i
      · rw [e, aq_us, if_pos rfl]
      · rw [aq_un (Or.inr e), if_neg e, ← hdc_4, aq_un (Or.inl (by omega))]
    have n3 : c_7 (a + 3) j = if j = i then f else c_mt (a + 3) j := by
      rw [← hdc_7]
      by_cases e : j = i
      · rw [e, aq_us, if_pos rfl]
      · rw [aq_un (Or.inr e), if_neg e, ← hdc_6, aq_un (Or.inl (by omega)), ← hdc_5, aq_un (Or.inl (by omega)), ← hdc_4, aq_un (Or.inl (by omega))]
    rw [n1, n3]
    by_cases e9 : j = i
    · rw [if_pos e9, if_pos e9]; exact ⟨hb0, hbk, hf0, hf1⟩
    · rw [if_neg e9, if_neg e9, m1 j, m3 j]
      have e : i + (j - (i + 1)) = j - 1 := by omega
      rw [e]
      split
      · exact k2 (by omega) (by omega)
      · exact k1 (by omega)
  · refine am_E.go (t2 := (10, [vR a, vI i, vI b, vI p, vL f, vU], [vI 0], aq_h m s F c)) rfl rfl ?_
    refine am_E.ret rfl rfl ?_
    exact ⟨_, rfl, (aq_sm0 (S := (fun b => b = a ∨ b = a + 1 ∨ b = a + 2 ∨ b = a + 3))), 0, rfl, Or.inl rfl, rfl, hk⟩

theorem qn_join_l {m s : Nat} {F : aq_F} {c : aq_C} {a : Nat} (hA : su_0 m F a) {b p f k : Int} (hb0 : 0 ≤ b) (hbk : b < k) (hk : su_k a k c) : ∀ (d : Nat) (i : Int) (h0 : 0 ≤ i) (h1 : i ≤ c a 1) (hd : c a 1 - i < (d : Int)) (K0 : ∀ (i2 : Int) (f1 : 0 ≤ i2) (f2 : i2 ≤ c a 1), am_E ac_X3_join (66, [vR a, vI b, vI p, vL f, vU, vI i2], [], aq_h m s F c) (aq_Z m s F (fun b => b = a ∨ b = a + 1 ∨ b = a + 2 ∨ b = a + 3) c (fun r d => ∃ v, r = some (vI v) ∧ (v = 0 ∨ v = 1) ∧ d a 0 = c a 0 ∧ su_k a k d))), am_E ac_X3_join (18, [vR a, vI b, vI p, vL f, vU, vI i], [], aq_h m s F c) (aq_Z m s F (fun b => b = a ∨ b = a + 1 ∨ b = a + 2 ∨ b = a + 3) c (fun r d => ∃ v, r = some (vI v) ∧ (v = 0 ∨ v = 1) ∧ d a 0 = c a 0 ∧ su_k a k d))
  | 0, i, h0, h1, hd, K0 => by exfalso; omega
  | d + 1, i, h0, h1, hd, K0 => by
    obtain ⟨hma, hFa, hFn, hFp, hFf⟩ := hA
    have hk1 := hk.1
    have hk2 := hk.2.1
    refine am_E.go (t2 := (20, [vR a, vI b, vI p, vL f, vU, vI i], [vI i], aq_h m s F c)) rfl rfl ?_
    refine am_E.go (t2 := (21, [vR a, vI b, vI p, vL f, vU, vI i], [vR a, vI i], aq_h m s F c)) rfl rfl ?_
    refine aq_gf (v := vI (c a 1)) rfl (by omega) hFa (by decide) rfl ?_
    show am_E _ (24, [vR a, vI b, vI p, vL f, vU, vI i], [vI (c a 1), vI i], aq_h m s F c) _
    skip
    refine ae_icmp rfl (fun (q_2 : (c a 1) ≤ i) => ?_) (fun (q_2 : i < (c a 1)) => ?_)
    · exact K0 i (by omega) (by omega)
    · refine am_E.go (t2 := (28, [vR a, vI b, vI p, vL f, vU, vI i], [vR a], aq_h m s F c)) rfl rfl ?_
      refine aq_gf (v := vR (a + 1)) rfl (by omega) hFa (by decide) rfl ?_
      show am_E _ (31, [vR a, vI b, vI p, vL f, vU, vI i], [vR (a + 1)], aq_h m s F c) _
      refine am_E.go (t2 := (33, [vR a, vI b, vI p, vL f, vU, vI i], [vI i, vR (a + 1)], aq_h m s F c)) rfl rfl ?_
      refine aq_al (ok := fun k => k == 0) (v := vI (c (a + 1) i)) rfl rfl (by omega) hFn rfl (by omega) (by omega) rfl ?_
      show am_E _ (34, [vR a, vI b, vI p, vL f, vU, vI i], [vI (c (a + 1) i)], aq_h m s F c) _
      refine am_E.go (t2 := (35, [vR a, vI b, vI p, vL f, vU, vI i], [vI b, vI (c (a + 1) i)], aq_h m s F c)) rfl rfl ?_
      refine ae_icmp rfl (fun (q_3 : (c (a + 1) i) < b) => ?_) (fun (q_3 : b ≤ (c (a + 1) i)) => ?_)
      · refine ae_iinc rfl rfl (am_ri (by omega) (by omega)) ?_
        show am_E _ (63, [vR a, vI b, vI p, vL f, vU, vI (i + 1)], [], aq_h m s F c) _
        refine am_E.go (t2 := (18, [vR a, vI b, vI p, vL f, vU, vI (i + 1)], [], aq_h m s F c)) rfl rfl ?_
        exact qn_join_l ⟨hma, hFa, hFn, hFp, hFf⟩ hb0 hbk hk d (i + 1) (by omega) (by omega) (by omega) K0
      · refine am_E.go (t2 := (39, [vR a, vI b, vI p, vL f, vU, vI i], [vR a], aq_h m s F c)) rfl rfl ?_
        refine aq_gf (v := vR (a + 1)) rfl (by omega) hFa (by decide) rfl ?_
        show am_E _ (42, [vR a, vI b, vI p, vL f, vU, vI i], [vR (a + 1)], aq_h m s F c) _
        refine am_E.go (t2 := (44, [vR a, vI b, vI p, vL f, vU, vI i], [vI i, vR (a + 1)], aq_h m s F c)) rfl rfl ?_
        refine aq_al (ok := fun k => k == 0) (v := vI (c (a + 1) i)) rfl rfl (by omega) hFn rfl (by omega) (by omega) rfl ?_
        show am_E _ (45, [vR a, vI b, vI p, vL f, vU, vI i], [vI (c (a + 1) i)], aq_h m s F c) _
        refine am_E.go (t2 := (46, [vR a, vI b, vI p, vL f, vU, vI i], [vI b, vI (c (a + 1) i)], aq_h m s F c)) rfl rfl ?_
        refine ae_icmp rfl (fun (q_4 : (c (a + 1) i) ≠ b) => ?_) (fun (q_4 : (c (a + 1) i) = b) => ?_)
        · exact K0 i (by omega) (by omega)
        · refine am_E.go (t2 := (50, [vR a, vI b, vI p, vL f, vU, vI i], [vR a], aq_h m s F c)) rfl rfl ?_
          refine aq_gf (v := vR (a + 2)) rfl (by omega) hFa (by decide) rfl ?_
          show am_E _ (53, [vR a, vI b, vI p, vL f, vU, vI i], [vR (a + 2)], aq_h m s F c) _
          refine am_E.go (t2 := (55, [vR a, vI b, vI p, vL f, vU, vI i], [vI i, vR (a + 2)], aq_h m s F c)) rfl rfl ?_
          refine aq_al (ok := fun k => k == 0) (v := vI (c (a + 2) i)) rfl rfl (by omega) hFp rfl (by omega) (by omega) rfl ?_
          show am_E _ (56, [vR a, vI b, vI p, vL f, vU, vI i], [vI (c (a + 2) i)], aq_h m s F c) _
          refine am_E.go (t2 := (57, [vR a, vI b, vI p, vL f, vU, vI i], [vI p, vI (c (a + 2) i)], aq_h m s F c)) rfl rfl ?_
          refine ae_icmp rfl (fun (q_5 : p ≤ (c (a + 2) i)) => ?_) (fun (q_5 : (c (a + 2) i) < p) => ?_)
          · exact K0 i (by omega) (by omega)
          · refine ae_iinc rfl rfl (am_ri (by omega) (by omega)) ?_
            show am_E _ (63, [vR a, vI b, vI p, vL f, vU, vI (i + 1)], [], aq_h m s F c) _
            refine am_E.go (t2 := (18, [vR a, vI b, vI p, vL f, vU, vI (i + 1)], [], aq_h m s F c)) rfl rfl ?_
            exact qn_join_l ⟨hma, hFa, hFn, hFp, hFf⟩ hb0 hbk hk d (i + 1) (by omega) (by omega) (by omega) K0

theorem qn_X3_join {m s : Nat} {F : aq_F} {c : aq_C} {a : Nat} (hA : su_0 m F a) {b p f k : Int} (hb0 : 0 ≤ b) (hbk : b < k) (hk : su_k a k c) : am_E ac_X3_join (0, [vR a, vI b, vI p, vL f, vU, vU], [], aq_h m s F c) (aq_Z m s F (fun b => b = a ∨ b = a + 1 ∨ b = a + 2 ∨ b = a + 3) c (fun r d => ∃ v, r = some (vI v) ∧ (v = 0 ∨ v = 1) ∧ d a 0 = c a 0 ∧ su_k a k d)) := by
  obtain ⟨hma, hFa, hFn, hFp, hFf⟩ := hA
  have hk1 := hk.1
  have hk2 := hk.2.1
  refine am_E.go (t2 := (1, [vR a, vI b, vI p, vL f, vU, vU], [vI p], aq_h m s F c)) rfl rfl ?_
  refine am_E.go (t2 := (3, [vR a, vI b, vI p, vL f, vU, vU], [vI 20, vI p], aq_h m s F c)) rfl rfl ?_
  refine ae_icmp rfl (fun (q_1 : 20 < p) => ?_) (fun (q_1 : p ≤ 20) => ?_)
  · refine am_E.go (t2 := (14, [vR a, vI b, vI p, vL f, vU, vU], [vI 0], aq_h m s F c)) rfl rfl ?_
    refine am_E.ret rfl rfl ?_
    exact ⟨_, rfl, (aq_sm0 (S := (fun b => b = a ∨ b = a + 1 ∨ b = a + 2 ∨ b = a + 3))), _, rfl, by omega, rfl, hk⟩
  · refine am_E.go (t2 := (7, [vR a, vI b, vI p, vL f, vU, vU], [vL f], aq_h m s F c)) rfl rfl ?_
    refine am_E.call rfl rfl rfl (Nat.le_of_ble_eq_true rfl) (qn_X3_isFactor) ?_
    rintro r5 h5 ⟨rfl, v_2, rfl, hv_2⟩
    show am_E _ (10, [vR a, vI b, vI p, vL f, vU, vU], [vI v_2], aq_h m s F c) _
    refine ae_if0 rfl (fun (q_3 : v_2 ≠ 0) => ?_) (fun (q_3 : v_2 = 0) => ?_)
    · refine am_E.go (t2 := (16, [vR a, vI b, vI p, vL f, vU, vU], [vI 0], aq_h m s F c)) rfl rfl ?_
      refine am_E.go (t2 := (18, [vR a, vI b, vI p, vL f, vU, vI 0], [], aq_h m s F c)) rfl rfl ?_
      refine qn_join_l ⟨hma, hFa, hFn, hFp, hFf⟩ hb0 hbk hk 41 0 (by omega) (by omega) (by omega) ?_
      · intro i2_18 f1_18 f2_18
        refine am_E.go (t2 := (67, [vR a, vI b, vI p, vL f, vU, vI i2_18], [vR a], aq_h m s F c)) rfl rfl ?_
        refine am_E.go (t2 := (69, [vR a, vI b, vI p, vL f, vU, vI i2_18], [vI i2_18, vR a], aq_h m s F c)) rfl rfl ?_
        refine am_E.go (t2 := (70, [vR a, vI b, vI p, vL f, vU, vI i2_18], [vI b, vI i2_18, vR a], aq_h m s F c)) rfl rfl ?_
        refine am_E.go (t2 := (71, [vR a, vI b, vI p, vL f, vU, vI i2_18], [vI p, vI b, vI i2_18, vR a], aq_h m s F c)) rfl rfl ?_
        refine aq_callv (y := 4) (as2 := [vI i2_18, vI b, vI p]) (rest := []) rfl rfl (by decide) (Nat.le_of_ble_eq_true rfl) rfl rfl (Nat.le_of_ble_eq_true rfl) (by omega) hFa rfl (Nat.le_of_ble_eq_true rfl) (qn_X3_isAt (a := a) ⟨hma, hFa, hFn, hFp, hFf⟩ (by omega) (by omega)) ?_
        rintro r5 h5 ⟨rfl, v_5, rfl, hv_5⟩
        show am_E _ (74, [vR a, vI b, vI p, vL f, vU, vI i2_18], [vI v_5], aq_h m s F c) _
        refine ae_if0 rfl (fun (q_6 : v_5 = 0) => ?_) (fun (q_6 : v_5 ≠ 0) => ?_)
        · refine am_E.go (t2 := (94, [vR a, vI b, vI p, vL f, vU, vI i2_18], [vL f], aq_h m s F c)) rfl rfl ?_
          refine am_E.go (t2 := (95, [vR a, vI b, vI p, vL f, vU, vI i2_18], [vL 0, vL f], aq_h m s F c)) rfl rfl ?_
          have ez_7 := am_lcf f 0
          refine am_E.go (t2 := (96, [vR a, vI b, vI p, vL f, vU, vI i2_18], [vI (if f < 0 then -1 else if f = 0 then 0 else 1)], aq_h m s F c)) rfl rfl ?_
          generalize (if f < 0 then -1 else if f = 0 then 0 else 1) = z_7 at ez_7 ⊢
          refine ae_if0 rfl (fun (q_8 : z_7 ≠ 0) => ?_) (fun (q_8 : z_7 = 0) => ?_)
          · refine am_E.go (t2 := (102, [vR a, vI b, vI p, vL f, vU, vI i2_18], [vR a], aq_h m s F c)) rfl rfl ?_
            refine am_E.go (t2 := (104, [vR a, vI b, vI p, vL f, vU, vI i2_18], [vI i2_18, vR a], aq_h m s F c)) rfl rfl ?_
            refine am_E.go (t2 := (105, [vR a, vI b, vI p, vL f, vU, vI i2_18], [vI b, vI i2_18, vR a], aq_h m s F c)) rfl rfl ?_
            refine am_E.go (t2 := (106, [vR a, vI b, vI p, vL f, vU, vI i2_18], [vI p, vI b, vI i2_18, vR a], aq_h m s F c)) rfl rfl ?_
            refine am_E.go (t2 := (107, [vR a, vI b, vI p, vL f, vU, vI i2_18], [vL f, vI p, vI b, vI i2_18, vR a], aq_h m s F c)) rfl rfl ?_
            refine aq_callv (y := 5) (as2 := [vI i2_18, vI b, vI p, vL f]) (rest := []) rfl rfl (by decide) (Nat.le_of_ble_eq_true rfl) rfl rfl (Nat.le_of_ble_eq_true rfl) (by omega) hFa rfl (Nat.le_of_ble_eq_true rfl) (qn_X3_insert ⟨hma, hFa, hFn, hFp, hFf⟩ (by omega) (by omega) hb0 hbk (by omega) (by omega) hk) ?_
            rintro r5 h5 ⟨c_j, rfl, sc_j, v_j, rfl, hv_j, e_j, hk_j⟩
            show am_E _ (110, [vR a, vI b, vI p, vL f, vU, vI i2_18], [vI v_j], aq_h m s F c_j) _
            refine ae_retb rfl (by omega) ?_
            exact ⟨_, rfl, (aq_smt (aq_sm0 (S := (fun b => b = a ∨ b = a + 1 ∨ b = a + 2 ∨ b = a + 3))) sc_j), v_j, rfl, hv_j, e_j, hk_j⟩
          · refine am_E.go (t2 := (100, [vR a, vI b, vI p, vL f, vU, vI i2_18], [vI 1], aq_h m s F c)) rfl rfl ?_
            refine am_E.ret rfl rfl ?_
            exact ⟨_, rfl, (aq_sm0 (S := (fun b => b = a ∨ b = a + 1 ∨ b = a + 2 ∨ b = a + 3))), _, rfl, by omega, rfl, hk⟩
        · refine am_E.go (t2 := (78, [vR a, vI b, vI p, vL f, vU, vI i2_18], [vR a], aq_h m s F c)) rfl rfl ?_
          refine am_E.go (t2 := (80, [vR a, vI b, vI p, vL f, vU, vI i2_18], [vI i2_18, vR a], aq_h m s F c)) rfl rfl ?_
          refine am_E.go (t2 := (81, [vR a, vI b, vI p, vL f, vU, vI i2_18], [vR a, vI i2_18, vR a], aq_h m s F c)) rfl rfl ?_
          refine aq_gf (v := vR (a + 3)) rfl (by omega) hFa (by decide) rfl ?_
          show am_E _ (84, [vR a, vI b, vI p, vL f, vU, vI i2_18], [vR (a + 3), vI i2_18, vR a], aq_h m s F c) _
          refine am_E.go (t2 := (86, [vR a, vI b, vI p, vL f, vU, vI i2_18], [vI i2_18, vR (a + 3), vI i2_18, vR a], aq_h m s F c)) rfl rfl ?_
          refine aq_al (ok := fun k => k == 2) (v := vL (c (a + 3) i2_18)) rfl rfl (by omega) hFf rfl (by omega) (by omega) rfl ?_
          show am_E _ (87, [vR a, vI b, vI p, vL f, vU, vI i2_18], [vL (c (a + 3) i2_18), vI i2_18, vR a], aq_h m s F c) _
          refine am_E.go (t2 := (88, [vR a, vI b, vI p, vL f, vU, vI i2_18], [vL f, vL (c (a + 3) i2_18), vI i2_18, vR a], aq_h m s F c)) rfl rfl ?_
          refine am_E.go (t2 := (89, [vR a, vI b, vI p, vL f, vU, vI i2_18], [vL (am_wl ((c (a + 3) i2_18) + f)), vI i2_18, vR a], aq_h m s F c)) rfl rfl ?_
          refine aq_callv (y := 3) (as2 := [vI i2_18, vL (am_wl ((c (a + 3) i2_18) + f))]) (rest := []) rfl rfl (by decide) (Nat.le_of_ble_eq_true rfl) rfl rfl (Nat.le_of_ble_eq_true rfl) (by omega) hFa rfl (Nat.le_of_ble_eq_true rfl) (qn_X3_change ⟨hma, hFa, hFn, hFp, hFf⟩ (by omega) (by omega) hk) ?_
          rintro r5 h5 ⟨c_j, rfl, sc_j, v_j, rfl, hv_j, e_j, hk_j⟩
          show am_E _ (92, [vR a, vI b, vI p, vL f, vU, vI i2_18], [vI v_j], aq_h m s F c_j) _
          refine ae_retb rfl (by omega) ?_
          exact ⟨_, rfl, (aq_smt (aq_sm0 (S := (fun b => b = a ∨ b = a + 1 ∨ b = a + 2 ∨ b = a + 3))) sc_j), v_j, rfl, hv_j, e_j, hk_j⟩
    · refine am_E.go (t2 := (14, [vR a, vI b, vI p, vL f, vU, vU], [vI 0], aq_h m s F c)) rfl rfl ?_
      refine am_E.ret rfl rfl ?_
      exact ⟨_, rfl, (aq_sm0 (S := (fun b => b = a ∨ b = a + 1 ∨ b = a + 2 ∨ b = a + 3))), _, rfl, by omega, rfl, hk⟩

theorem qn_joinAll_l {m s : Nat} {F : aq_F} {c0 : aq_C} {a : Nat} (hA : su_0 m F a) {k g : Int} {t : Nat} (hAt : su_0 m F t) (hkt : su_k t k c0) (hnt : t + 3 < a ∨ a + 3 < t) : ∀ (d : Nat) (i : Int) (c : aq_C) (hs : aq_sm (fun b => b = a ∨ b = a + 1 ∨ b = a + 2 ∨ b = a + 3) c0 c) (h0 : 0 ≤ i) (h1 : i ≤ c0 t 1) (e0 : c a 0 = c0 a 0) (hk : su_k a k c) (hd : c0 t 1 - i < (d : Int)), am_E ac_X3_joinAll (2, [vR a, vR t, vI g, vI i], [], aq_h m s F c) (aq_Z m s F (fun b => b = a ∨ b = a + 1 ∨ b = a + 2 ∨ b = a + 3) c0 (fun r d => ∃ v, r = some (vI v) ∧ (v = 0 ∨ v = 1) ∧ d a 0 = c0 a 0 ∧ su_k a k d))
  | 0, i, c, hs, h0, h1, e0, hk, hd => by exfalso; omega
  | d + 1, i, c, hs, h0, h1, e0, hk, hd => by
    obtain ⟨hma, hFa, hFn, hFp, hFf⟩ := hA
    obtain ⟨hmat, hFat, hFnt, hFpt, hFft⟩ := hAt
    have hkt1 := hkt.1
    have hkt2 := hkt.2.1
    refine am_E.go (t2 := (3, [vR a, vR t, vI g, vI i], [vI i], aq_h m s F c)) rfl rfl ?_
    refine am_E.go (t2 := (4, [vR a, vR t, vI g, vI i], [vR t, vI i], aq_h m s F c)) rfl rfl ?_
    refine aq_gf (v := vI (c t 1)) rfl (by omega) hFat (by decide) rfl ?_
    show am_E _ (7, [vR a, vR t, vI g, vI i], [vI (c t 1), vI i], aq_h m s F c) _
    have f_1 := hs t (by omega) 1
    refine ae_icmp rfl (fun (q_2 : (c t 1) ≤ i) => ?_) (fun (q_2 : i < (c t 1)) => ?_)
    · refine am_E.go (t2 := (47, [vR a, vR t, vI g, vI i], [vI 1], aq_h m s F c)) rfl rfl ?_
      refine am_E.ret rfl rfl ?_
      exact ⟨_, rfl, hs, _, rfl, by omega, e0, hk⟩
    · refine am_E.go (t2 := (11, [vR a, vR t, vI g, vI i], [vR a], aq_h m s F c)) rfl rfl ?_
      refine am_E.go (t2 := (12, [vR a, vR t, vI g, vI i], [vR t, vR a], aq_h m s F c)) rfl rfl ?_
      refine aq_gf (v := vR (t + 1)) rfl (by omega) hFat (by decide) rfl ?_
      show am_E _ (15, [vR a, vR t, vI g, vI i], [vR (t + 1), vR a], aq_h m s F c) _
      refine am_E.go (t2 := (16, [vR a, vR t, vI g, vI i], [vI i, vR (t + 1), vR a], aq_h m s F c)) rfl rfl ?_
      refine aq_al (ok := fun k => k == 0) (v := vI (c (t + 1) i)) rfl rfl (by omega) hFnt rfl (by omega) (by omega) rfl ?_
      show am_E _ (17, [vR a, vR t, vI g, vI i], [vI (c (t + 1) i), vR a], aq_h m s F c) _
      have f_3 := hs (t + 1) (by omega) i
      have f_3k := hkt.2.2 i (by omega) (by omega)
      refine am_E.go (t2 := (18, [vR a, vR t, vI g, vI i], [vR t, vI (c (t + 1) i), vR a], aq_h m s F c)) rfl rfl ?_
      refine aq_gf (v := vR (t + 2)) rfl (by omega) hFat (by decide) rfl ?_
      show am_E _ (21, [vR a, vR t, vI g, vI i], [vR (t + 2), vI (c (t + 1) i), vR a], aq_h m s F c) _
      refine am_E.go (t2 := (22, [vR a, vR t, vI g, vI i], [vI i, vR (t + 2), vI (c (t + 1) i), vR a], aq_h m s F c)) rfl rfl ?_
      refine aq_al (ok := fun k => k == 0) (v := vI (c (t + 2) i)) rfl rfl (by omega) hFpt rfl (by omega) (by omega) rfl ?_
      show am_E _ (23, [vR a, vR t, vI g, vI i], [vI (c (t + 2) i), vI (c (t + 1) i), vR a], aq_h m s F c) _
      refine am_E.go (t2 := (24, [vR a, vR t, vI g, vI i], [vI g, vI (c (t + 2) i), vI (c (t + 1) i), vR a], aq_h m s F c)) rfl rfl ?_
      refine am_E.go (t2 := (25, [vR a, vR t, vI g, vI i], [vL g, vI (c (t + 2) i), vI (c (t + 1) i), vR a], aq_h m s F c)) rfl rfl ?_
      refine am_E.go (t2 := (26, [vR a, vR t, vI g, vI i], [vR t, vL g, vI (c (t + 2) i), vI (c (t + 1) i), vR a], aq_h m s F c)) rfl rfl ?_
      refine aq_gf (v := vR (t + 3)) rfl (by omega) hFat (by decide) rfl ?_
      show am_E _ (29, [vR a, vR t, vI g, vI i], [vR (t + 3), vL g, vI (c (t + 2) i), vI (c (t + 1) i), vR a], aq_h m s F c) _
      refine am_E.go (t2 := (30, [vR a, vR t, vI g, vI i], [vI i, vR (t + 3), vL g, vI (c (t + 2) i), vI (c (t + 1) i), vR a], aq_h m s F c)) rfl rfl ?_
      refine aq_al (ok := fun k => k == 2) (v := vL (c (t + 3) i)) rfl rfl (by omega) hFft rfl (by omega) (by omega) rfl ?_
      show am_E _ (31, [vR a, vR t, vI g, vI i], [vL (c (t + 3) i), vL g, vI (c (t + 2) i), vI (c (t + 1) i), vR a], aq_h m s F c) _
      have f_4 := hs (t + 3) (by omega) i
      have f_4k := hkt.2.2 i (by omega) (by omega)
      refine am_E.go (t2 := (32, [vR a, vR t, vI g, vI i], [vL (am_wl (g * (c (t + 3) i))), vI (c (t + 2) i), vI (c (t + 1) i), vR a], aq_h m s F c)) rfl rfl ?_
      refine aq_callv (y := 4) (as2 := [vI (c (t + 1) i), vI (c (t + 2) i), vL (am_wl (g * (c (t + 3) i)))]) (rest := []) rfl rfl (by decide) (Nat.le_of_ble_eq_true rfl) rfl rfl (Nat.le_of_ble_eq_true rfl) (by omega) hFa rfl (Nat.le_of_ble_eq_true rfl) (qn_X3_join ⟨hma, hFa, hFn, hFp, hFf⟩ (by omega) (by omega) hk) ?_
      rintro r5 h5 ⟨c_j, rfl, sc_j, v_j, rfl, hv_j, e_j, hk_j⟩
      show am_E _ (35, [vR a, vR t, vI g, vI i], [vI v_j], aq_h m s F c_j) _
      refine ae_if0 rfl (fun (q_5 : v_j ≠ 0) => ?_) (fun (q_5 : v_j = 0) => ?_)
      · refine ae_iinc rfl rfl (am_ri (by omega) (by omega)) ?_
        show am_E _ (43, [vR a, vR t, vI g, vI (i + 1)], [], aq_h m s F c_j) _
        refine am_E.go (t2 := (2, [vR a, vR t, vI g, vI (i + 1)], [], aq_h m s F c_j)) rfl rfl ?_
        exact qn_joinAll_l ⟨hma, hFa, hFn, hFp, hFf⟩ ⟨hmat, hFat, hFnt, hFpt, hFft⟩ hkt hnt d (i + 1) c_j (aq_smt hs sc_j) (by omega) (by omega) (by rw [e_j]; exact e0) hk_j (by omega)
      · refine am_E.go (t2 := (39, [vR a, vR t, vI g, vI i], [vI 0], aq_h m s F c_j)) rfl rfl ?_
        refine am_E.ret rfl rfl ?_
        exact ⟨_, rfl, (aq_smt hs sc_j), _, rfl, by omega, by rw [e_j]; exact e0, hk_j⟩

theorem qn_X3_joinAll {m s : Nat} {F : aq_F} {c : aq_C} {a : Nat} (hA : su_0 m F a) {k g : Int} {t : Nat} (hAt : su_0 m F t) (hkt : su_k t k c) (hnt : t + 3 < a ∨ a + 3 < t) (hk : su_k a k c) : am_E ac_X3_joinAll (0, [vR a, vR t, vI g, vU], [], aq_h m s F c) (aq_Z m s F (fun b => b = a ∨ b = a + 1 ∨ b = a + 2 ∨ b = a + 3) c (fun r d => ∃ v, r = some (vI v) ∧ (v = 0 ∨ v = 1) ∧ d a 0 = c a 0 ∧ su_k a k d)) := by
  obtain ⟨hma, hFa, hFn, hFp, hFf⟩ := hA
  obtain ⟨hmat, hFat, hFnt, hFpt, hFft⟩ := hAt
  have hkt1 := hkt.1
  have hkt2 := hkt.2.1
  refine am_E.go (t2 := (1, [vR a, vR t, vI g, vU], [vI 0], aq_h m s F c)) rfl rfl ?_
  refine am_E.go (t2 := (2, [vR a, vR t, vI g, vI 0], [], aq_h m s F c)) rfl rfl ?_
  exact qn_joinAll_l ⟨hma, hFa, hFn, hFp, hFf⟩ ⟨hmat, hFat, hFnt, hFpt, hFft⟩ hkt hnt 41 0 c (aq_sm0 (S := (fun b => b = a ∨ b = a + 1 ∨ b = a + 2 ∨ b = a + 3))) (by omega) (by omega) rfl hk (by omega)

theorem qn_X3_fitsProduct {m s : Nat} {F : aq_F} {c : aq_C} {f g : Int} (hg0 : -1000000000000 ≤ g) (hg1 : g ≤ 1000000000000) : am_E ac_X3_fitsProduct (0, [vL f, vU, vL g, vU], [], aq_h m s F c) (aq_P m s F c aq_vb) := by
  refine am_E.go (t2 := (1, [vL f, vU, vL g, vU], [vL g], aq_h m s F c)) rfl rfl ?_
  refine am_E.go (t2 := (2, [vL f, vU, vL g, vU], [vL 0, vL g], aq_h m s F c)) rfl rfl ?_
  have ez_1 := am_lcf g 0
  refine am_E.go (t2 := (3, [vL f, vU, vL g, vU], [vI (if g < 0 then -1 else if g = 0 then 0 else 1)], aq_h m s F c)) rfl rfl ?_
  generalize (if g < 0 then -1 else if g = 0 then 0 else 1) = z_1 at ez_1 ⊢
  refine ae_if0 rfl (fun (q_2 : z_1 = 0) => ?_) (fun (q_2 : z_1 ≠ 0) => ?_)
  · refine am_E.go (t2 := (23, [vL f, vU, vL g, vU], [vI 1], aq_h m s F c)) rfl rfl ?_
    refine am_E.go (t2 := (27, [vL f, vU, vL g, vU], [vI 1], aq_h m s F c)) rfl rfl ?_
    refine am_E.ret rfl rfl ?_
    exact ⟨rfl, _, rfl, by omega⟩
  · refine am_E.go (t2 := (7, [vL f, vU, vL g, vU], [vL f], aq_h m s F c)) rfl rfl ?_
    refine am_E.call rfl rfl rfl (Nat.le_of_ble_eq_true rfl) (rn_J9_absl _) ?_
    rintro r5 h5 ⟨rfl, v_3, rfl, hv_3⟩
    show am_E _ (10, [vL f, vU, vL g, vU], [vL v_3], aq_h m s F c) _
    refine am_E.go (t2 := (13, [vL f, vU, vL g, vU], [vL 1000000000000, vL v_3], aq_h m s F c)) rfl rfl ?_
    refine am_E.go (t2 := (14, [vL f, vU, vL g, vU], [vL g, vL 1000000000000, vL v_3], aq_h m s F c)) rfl rfl ?_
    refine am_E.call rfl rfl rfl (Nat.le_of_ble_eq_true rfl) (rn_J9_absl _) ?_
    rintro r5 h5 ⟨rfl, v_4, rfl, hv_4⟩
    show am_E _ (17, [vL f, vU, vL g, vU], [vL v_4, vL 1000000000000, vL v_3], aq_h m s F c) _
    refine ae_binl (z := am_wl ((1000000000000 : Int).tdiv v_4)) rfl rfl (am_divl_s (by have := am_wl_id (x := -g) (am_rl (by omega) (by omega)); omega)) ?_
    show am_E _ (18, [vL f, vU, vL g, vU], [vL (am_wl ((1000000000000 : Int).tdiv v_4)), vL v_3], aq_h m s F c) _
    have ez_5 := am_lcf v_3 (am_wl ((1000000000000 : Int).tdiv v_4))
    refine am_E.go (t2 := (19, [vL f, vU, vL g, vU], [vI (if v_3 < (am_wl ((1000000000000 : Int).tdiv v_4)) then -1 else if v_3 = (am_wl ((1000000000000 : Int).tdiv v_4)) then 0 else 1)], aq_h m s F c)) rfl rfl ?_
    generalize (if v_3 < (am_wl ((1000000000000 : Int).tdiv v_4)) then -1 else if v_3 = (am_wl ((1000000000000 : Int).tdiv v_4)) then 0 else 1) = z_5 at ez_5 ⊢
    refine ae_if0 rfl (fun (q_6 : 0 < z_5) => ?_) (fun (q_6 : z_5 ≤ 0) => ?_)
    · refine am_E.go (t2 := (27, [vL f, vU, vL g, vU], [vI 0], aq_h m s F c)) rfl rfl ?_
      refine am_E.ret rfl rfl ?_
      exact ⟨rfl, _, rfl, by omega⟩
    · refine am_E.go (t2 := (23, [vL f, vU, vL g, vU], [vI 1], aq_h m s F c)) rfl rfl ?_
      refine am_E.go (t2 := (27, [vL f, vU, vL g, vU], [vI 1], aq_h m s F c)) rfl rfl ?_
      refine am_E.ret rfl rfl ?_
      exact ⟨rfl, _, rfl, by omega⟩

theorem qn_joinProducts_in {m s : Nat} {F : aq_F} {c0 : aq_C} {a : Nat} (hA : su_0 m F a) {k : Int} {t : Nat} (hAt : su_0 m F t) (hkt : su_k t k c0) (hnt : t + 3 < a ∨ a + 3 < t) {u : Nat} (hAu : su_0 m F u) (hku : su_k u k c0) (hnu : u + 3 < a ∨ a + 3 < u) {o n K : Nat} (hB : bx_0 m F o n K) {tL : Int → Int} {tG tN : Int → Int → Int} (hT : bx_w F o n K tL tG tN) (hkK : k = (K : Int)) : ∀ (d : Nat) (i : Int) (j : Int) (v6 : am_V) (v7 : am_V) (c : aq_C) (hs : aq_sm (fun b => b = a ∨ b = a + 1 ∨ b = a + 2 ∨ b = a + 3) c0 c) (h0 : 0 ≤ i) (h1 : i < c0 t 1) (h2 : 0 ≤ j) (h3 : j ≤ c0 u 1) (e0 : c a 0 = c0 a 0) (hk : su_k a k c) (hd : c0 u 1 - j < (d : Int)) (K0 : ∀ (j2 : Int) (v62 : am_V) (v72 : am_V) (c2 : aq_C) (hs2 : aq_sm (fun b => b = a ∨ b = a + 1 ∨ b = a + 2 ∨ b = a + 3) c0 c2) (e2 : c2 a 0 = c0 a 0) (hk2 : su_k a k c2), am_E ac_X3_joinProducts (128, [vR a, vR t, vR u, vR o, vI i, vI j2, v62, v72], [], aq_h m s F c2) (aq_Z m s F (fun b => b = a ∨ b = a + 1 ∨ b = a + 2 ∨ b = a + 3) c0 (fun r d => ∃ v, r = some (vI v) ∧ (v = 0 ∨ v = 1) ∧ d a 0 = c0 a 0 ∧ su_k a k d))), am_E ac_X3_joinProducts (15, [vR a, vR t, vR u, vR o, vI i, vI j, v6, v7], [], aq_h m s F c) (aq_Z m s F (fun b => b = a ∨ b = a + 1 ∨ b = a + 2 ∨ b = a + 3) c0 (fun r d => ∃ v, r = some (vI v) ∧ (v = 0 ∨ v = 1) ∧ d a 0 = c0 a 0 ∧ su_k a k d))
  | 0, i, j, v6, v7, c, hs, h0, h1, h2, h3, e0, hk, hd, K0 => by exfalso; omega
  | d + 1, i, j, v6, v7, c, hs, h0, h1, h2, h3, e0, hk, hd, K0 => by
    obtain ⟨hma, hFa, hFn, hFp, hFf⟩ := hA
    obtain ⟨hmat, hFat, hFnt, hFpt, hFft⟩ := hAt
    have hkt1 := hkt.1
    have hkt2 := hkt.2.1
    obtain ⟨hmau, hFau, hFnu, hFpu, hFfu⟩ := hAu
    have hku1 := hku.1
    have hku2 := hku.2.1
    obtain ⟨hm, hn1, hn4, hK, hFo, hFd, hFs⟩ := hB
    obtain ⟨hL, hGg, hGr, hNg, hNr, hLt, hGt, hNt⟩ := hT
    refine am_E.go (t2 := (17, [vR a, vR t, vR u, vR o, vI i, vI j, v6, v7], [vI j], aq_h m s F c)) rfl rfl ?_
    refine am_E.go (t2 := (18, [vR a, vR t, vR u, vR o, vI i, vI j, v6, v7], [vR u, vI j], aq_h m s F c)) rfl rfl ?_
    refine aq_gf (v := vI (c u 1)) rfl (by omega) hFau (by decide) rfl ?_
    show am_E _ (21, [vR a, vR t, vR u, vR o, vI i, vI j, v6, v7], [vI (c u 1), vI j], aq_h m s F c) _
    have f_1 := hs u (by omega) 1
    refine ae_icmp rfl (fun (q_2 : (c u 1) ≤ j) => ?_) (fun (q_2 : j < (c u 1)) => ?_)
    · exact K0 j (v6) (v7) c hs e0 hk
    · refine am_E.go (t2 := (25, [vR a, vR t, vR u, vR o, vI i, vI j, v6, v7], [vR t], aq_h m s F c)) rfl rfl ?_
      refine aq_gf (v := vR (t + 3)) rfl (by omega) hFat (by decide) rfl ?_
      show am_E _ (28, [vR a, vR t, vR u, vR o, vI i, vI j, v6, v7], [vR (t + 3)], aq_h m s F c) _
      refine am_E.go (t2 := (30, [vR a, vR t, vR u, vR o, vI i, vI j, v6, v7], [vI i, vR (t + 3)], aq_h m s F c)) rfl rfl ?_
      refine aq_al (ok := fun k => k == 2) (v := vL (c (t + 3) i)) rfl rfl (by omega) hFft rfl (by omega) (by omega) rfl ?_
      show am_E _ (31, [vR a, vR t, vR u, vR o, vI i, vI j, v6, v7], [vL (c (t + 3) i)], aq_h m s F c) _
      have f_3 := hs (t + 3) (by omega) i
      have f_3k := hkt.2.2 i (by omega) (by omega)
      refine am_E.go (t2 := (32, [vR a, vR t, vR u, vR o, vI i, vI j, v6, v7], [vR u, vL (c (t + 3) i)], aq_h m s F c)) rfl rfl ?_
      refine aq_gf (v := vR (u + 3)) rfl (by omega) hFau (by decide) rfl ?_
      show am_E _ (35, [vR a, vR t, vR u, vR o, vI i, vI j, v6, v7], [vR (u + 3), vL (c (t + 3) i)], aq_h m s F c) _
      refine am_E.go (t2 := (37, [vR a, vR t, vR u, vR o, vI i, vI j, v6, v7], [vI j, vR (u + 3), vL (c (t + 3) i)], aq_h m s F c)) rfl rfl ?_
      refine aq_al (ok := fun k => k == 2) (v := vL (c (u + 3) j)) rfl rfl (by omega) hFfu rfl (by omega) (by omega) rfl ?_
      show am_E _ (38, [vR a, vR t, vR u, vR o, vI i, vI j, v6, v7], [vL (c (u + 3) j), vL (c (t + 3) i)], aq_h m s F c) _
      have f_4 := hs (u + 3) (by omega) j
      have f_4k := hku.2.2 j (by omega) (by omega)
      refine am_E.call rfl rfl rfl (Nat.le_of_ble_eq_true rfl) (qn_X3_fitsProduct (by omega) (by omega)) ?_
      rintro r5 h5 ⟨rfl, v_5, rfl, hv_5⟩
      show am_E _ (41, [vR a, vR t, vR u, vR o, vI i, vI j, v6, v7], [vI v_5], aq_h m s F c) _
      refine ae_if0 rfl (fun (q_6 : v_5 ≠ 0) => ?_) (fun (q_6 : v_5 = 0) => ?_)
      · refine am_E.go (t2 := (47, [vR a, vR t, vR u, vR o, vI i, vI j, v6, v7], [vR o], aq_h m s F c)) rfl rfl ?_
        refine am_E.go (t2 := (48, [vR a, vR t, vR u, vR o, vI i, vI j, v6, v7], [vR t, vR o], aq_h m s F c)) rfl rfl ?_
        refine aq_gf (v := vR (t + 1)) rfl (by omega) hFat (by decide) rfl ?_
        show am_E _ (51, [vR a, vR t, vR u, vR o, vI i, vI j, v6, v7], [vR (t + 1), vR o], aq_h m s F c) _
        refine am_E.go (t2 := (53, [vR a, vR t, vR u, vR o, vI i, vI j, v6, v7], [vI i, vR (t + 1), vR o], aq_h m s F c)) rfl rfl ?_
        refine aq_al (ok := fun k => k == 0) (v := vI (c (t + 1) i)) rfl rfl (by omega) hFnt rfl (by omega) (by omega) rfl ?_
        show am_E _ (54, [vR a, vR t, vR u, vR o, vI i, vI j, v6, v7], [vI (c (t + 1) i), vR o], aq_h m s F c) _
        have f_7 := hs (t + 1) (by omega) i
        have f_7k := hkt.2.2 i (by omega) (by omega)
        refine am_E.go (t2 := (55, [vR a, vR t, vR u, vR o, vI i, vI j, v6, v7], [vR u, vI (c (t + 1) i), vR o], aq_h m s F c)) rfl rfl ?_
        refine aq_gf (v := vR (u + 1)) rfl (by omega) hFau (by decide) rfl ?_
        show am_E _ (58, [vR a, vR t, vR u, vR o, vI i, vI j, v6, v7], [vR (u + 1), vI (c (t + 1) i), vR o], aq_h m s F c) _
        refine am_E.go (t2 := (60, [vR a, vR t, vR u, vR o, vI i, vI j, v6, v7], [vI j, vR (u + 1), vI (c (t + 1) i), vR o], aq_h m s F c)) rfl rfl ?_
        refine aq_al (ok := fun k => k == 0) (v := vI (c (u + 1) j)) rfl rfl (by omega) hFnu rfl (by omega) (by omega) rfl ?_
        show am_E _ (61, [vR a, vR t, vR u, vR o, vI i, vI j, v6, v7], [vI (c (u + 1) j), vI (c (t + 1) i), vR o], aq_h m s F c) _
        have f_8 := hs (u + 1) (by omega) j
        have f_8k := hku.2.2 j (by omega) (by omega)
        refine aq_callv (y := 3) (as2 := [vI (c (t + 1) i), vI (c (u + 1) j)]) (rest := []) rfl rfl (by decide) (Nat.le_of_ble_eq_true rfl) rfl rfl (Nat.le_of_ble_eq_true rfl) (by omega) hFo rfl (Nat.le_of_ble_eq_true rfl) (qn_X0_stackOn ⟨hm, hn1, hn4, hK, hFo, hFd, hFs⟩ ⟨hL, hGg, hGr, hNg, hNr, hLt, hGt, hNt⟩ (by omega) (by omega) (by omega) (by omega)) ?_
        rintro r5 h5 ⟨rfl, v_9, rfl, hv_9⟩
        show am_E _ (64, [vR a, vR t, vR u, vR o, vI i, vI j, v6, v7], [vI v_9], aq_h m s F c) _
        refine am_E.go (t2 := (66, [vR a, vR t, vR u, vR o, vI i, vI j, vI v_9, v7], [], aq_h m s F c)) rfl rfl ?_
        refine am_E.go (t2 := (67, [vR a, vR t, vR u, vR o, vI i, vI j, vI v_9, v7], [vR t], aq_h m s F c)) rfl rfl ?_
        refine aq_gf (v := vR (t + 2)) rfl (by omega) hFat (by decide) rfl ?_
        show am_E _ (70, [vR a, vR t, vR u, vR o, vI i, vI j, vI v_9, v7], [vR (t + 2)], aq_h m s F c) _
        refine am_E.go (t2 := (72, [vR a, vR t, vR u, vR o, vI i, vI j, vI v_9, v7], [vI i, vR (t + 2)], aq_h m s F c)) rfl rfl ?_
        refine aq_al (ok := fun k => k == 0) (v := vI (c (t + 2) i)) rfl rfl (by omega) hFpt rfl (by omega) (by omega) rfl ?_
        show am_E _ (73, [vR a, vR t, vR u, vR o, vI i, vI j, vI v_9, v7], [vI (c (t + 2) i)], aq_h m s F c) _
        refine am_E.go (t2 := (74, [vR a, vR t, vR u, vR o, vI i, vI j, vI v_9, v7], [vR u, vI (c (t + 2) i)], aq_h m s F c)) rfl rfl ?_
        refine aq_gf (v := vR (u + 2)) rfl (by omega) hFau (by decide) rfl ?_
        show am_E _ (77, [vR a, vR t, vR u, vR o, vI i, vI j, vI v_9, v7], [vR (u + 2), vI (c (t + 2) i)], aq_h m s F c) _
        refine am_E.go (t2 := (79, [vR a, vR t, vR u, vR o, vI i, vI j, vI v_9, v7], [vI j, vR (u + 2), vI (c (t + 2) i)], aq_h m s F c)) rfl rfl ?_
        refine aq_al (ok := fun k => k == 0) (v := vI (c (u + 2) j)) rfl rfl (by omega) hFpu rfl (by omega) (by omega) rfl ?_
        show am_E _ (80, [vR a, vR t, vR u, vR o, vI i, vI j, vI v_9, v7], [vI (c (u + 2) j), vI (c (t + 2) i)], aq_h m s F c) _
        refine am_E.go (t2 := (81, [vR a, vR t, vR u, vR o, vI i, vI j, vI v_9, v7], [vI (am_w ((c (t + 2) i) + (c (u + 2) j)))], aq_h m s F c)) rfl rfl ?_
        refine am_E.go (t2 := (83, [vR a, vR t, vR u, vR o, vI i, vI j, vI v_9, v7], [vI v_9, vI (am_w ((c (t + 2) i) + (c (u + 2) j)))], aq_h m s F c)) rfl rfl ?_
        refine am_E.go (t2 := (86, [vR a, vR t, vR u, vR o, vI i, vI j, vI v_9, v7], [vI 1000, vI v_9, vI (am_w ((c (t + 2) i) + (c (u + 2) j)))], aq_h m s F c)) rfl rfl ?_
        refine ae_bin (z := v_9 / 1000) rfl rfl (am_div_e (by omega) (by omega) (by decide)) ?_
        show am_E _ (87, [vR a, vR t, vR u, vR o, vI i, vI j, vI v_9, v7], [vI (v_9 / 1000), vI (am_w ((c (t + 2) i) + (c (u + 2) j)))], aq_h m s F c) _
        refine am_E.go (t2 := (88, [vR a, vR t, vR u, vR o, vI i, vI j, vI v_9, v7], [vI (am_w ((am_w ((c (t + 2) i) + (c (u + 2) j))) + (v_9 / 1000)))], aq_h m s F c)) rfl rfl ?_
        refine am_E.go (t2 := (90, [vR a, vR t, vR u, vR o, vI i, vI j, vI v_9, vI (am_w ((am_w ((c (t + 2) i) + (c (u + 2) j))) + (v_9 / 1000)))], [], aq_h m s F c)) rfl rfl ?_
        refine am_E.go (t2 := (91, [vR a, vR t, vR u, vR o, vI i, vI j, vI v_9, vI (am_w ((am_w ((c (t + 2) i) + (c (u + 2) j))) + (v_9 / 1000)))], [vR a], aq_h m s F c)) rfl rfl ?_
        refine am_E.go (t2 := (93, [vR a, vR t, vR u, vR o, vI i, vI j, vI v_9, vI (am_w ((am_w ((c (t + 2) i) + (c (u + 2) j))) + (v_9 / 1000)))], [vI v_9, vR a], aq_h m s F c)) rfl rfl ?_
        refine am_E.go (t2 := (96, [vR a, vR t, vR u, vR o, vI i, vI j, vI v_9, vI (am_w ((am_w ((c (t + 2) i) + (c (u + 2) j))) + (v_9 / 1000)))], [vI 1000, vI v_9, vR a], aq_h m s F c)) rfl rfl ?_
        refine ae_bin (z := v_9 % 1000) rfl rfl (am_rem_e (by omega) (by decide)) ?_
        show am_E _ (97, [vR a, vR t, vR u, vR o, vI i, vI j, vI v_9, vI (am_w ((am_w ((c (t + 2) i) + (c (u + 2) j))) + (v_9 / 1000)))], [vI (v_9 % 1000), vR a], aq_h m s F c) _
        refine am_E.go (t2 := (99, [vR a, vR t, vR u, vR o, vI i, vI j, vI v_9, vI (am_w ((am_w ((c (t + 2) i) + (c (u + 2) j))) + (v_9 / 1000)))], [vI (am_w ((am_w ((c (t + 2) i) + (c (u + 2) j))) + (v_9 / 1000))), vI (v_9 % 1000), vR a], aq_h m s F c)) rfl rfl ?_
        refine am_E.go (t2 := (100, [vR a, vR t, vR u, vR o, vI i, vI j, vI v_9, vI (am_w ((am_w ((c (t + 2) i) + (c (u + 2) j))) + (v_9 / 1000)))], [vR t, vI (am_w ((am_w ((c (t + 2) i) + (c (u + 2) j))) + (v_9 / 1000))), vI (v_9 % 1000), vR a], aq_h m s F c)) rfl rfl ?_
        refine aq_gf (v := vR (t + 3)) rfl (by omega) hFat (by decide) rfl ?_
        show am_E _ (103, [vR a, vR t, vR u, vR o, vI i, vI j, vI v_9, vI (am_w ((am_w ((c (t + 2) i) + (c (u + 2) j))) + (v_9 / 1000)))], [vR (t + 3), vI (am_w ((am_w ((c (t + 2) i) + (c (u + 2) j))) + (v_9 / 1000))), vI (v_9 % 1000), vR a], aq_h m s F c) _
        refine am_E.go (t2 := (105, [vR a, vR t, vR u, vR o, vI i, vI j, vI v_9, vI (am_w ((am_w ((c (t + 2) i) + (c (u + 2) j))) + (v_9 / 1000)))], [vI i, vR (t + 3), vI (am_w ((am_w ((c (t + 2) i) + (c (u + 2) j))) + (v_9 / 1000))), vI (v_9 % 1000), vR a], aq_h m s F c)) rfl rfl ?_
        refine aq_al (ok := fun k => k == 2) (v := vL (c (t + 3) i)) rfl rfl (by omega) hFft rfl (by omega) (by omega) rfl ?_
        show am_E _ (106, [vR a, vR t, vR u, vR o, vI i, vI j, vI v_9, vI (am_w ((am_w ((c (t + 2) i) + (c (u + 2) j))) + (v_9 / 1000)))], [vL (c (t + 3) i), vI (am_w ((am_w ((c (t + 2) i) + (c (u + 2) j))) + (v_9 / 1000))), vI (v_9 % 1000), vR a], aq_h m s F c) _
        have f_10 := hs (t + 3) (by omega) i
        have f_10k := hkt.2.2 i (by omega) (by omega)
        refine am_E.go (t2 := (107, [vR a, vR t, vR u, vR o, vI i, vI j, vI v_9, vI (am_w ((am_w ((c (t + 2) i) + (c (u + 2) j))) + (v_9 / 1000)))], [vR u, vL (c (t + 3) i), vI (am_w ((am_w ((c (t + 2) i) + (c (u + 2) j))) + (v_9 / 1000))), vI (v_9 % 1000), vR a], aq_h m s F c)) rfl rfl ?_
        refine aq_gf (v := vR (u + 3)) rfl (by omega) hFau (by decide) rfl ?_
        show am_E _ (110, [vR a, vR t, vR u, vR o, vI i, vI j, vI v_9, vI (am_w ((am_w ((c (t + 2) i) + (c (u + 2) j))) + (v_9 / 1000)))], [vR (u + 3), vL (c (t + 3) i), vI (am_w ((am_w ((c (t + 2) i) + (c (u + 2) j))) + (v_9 / 1000))), vI (v_9 % 1000), vR a], aq_h m s F c) _
        refine am_E.go (t2 := (112, [vR a, vR t, vR u, vR o, vI i, vI j, vI v_9, vI (am_w ((am_w ((c (t + 2) i) + (c (u + 2) j))) + (v_9 / 1000)))], [vI j, vR (u + 3), vL (c (t + 3) i), vI (am_w ((am_w ((c (t + 2) i) + (c (u + 2) j))) + (v_9 / 1000))), vI (v_9 % 1000), vR a], aq_h m s F c)) rfl rfl ?_
        refine aq_al (ok := fun k => k == 2) (v := vL (c (u + 3) j)) rfl rfl (by omega) hFfu rfl (by omega) (by omega) rfl ?_
        show am_E _ (113, [vR a, vR t, vR u, vR o, vI i, vI j, vI v_9, vI (am_w ((am_w ((c (t + 2) i) + (c (u + 2) j))) + (v_9 / 1000)))], [vL (c (u + 3) j), vL (c (t + 3) i), vI (am_w ((am_w ((c (t + 2) i) + (c (u + 2) j))) + (v_9 / 1000))), vI (v_9 % 1000), vR a], aq_h m s F c) _
        have f_11 := hs (u + 3) (by omega) j
        have f_11k := hku.2.2 j (by omega) (by omega)
        refine am_E.go (t2 := (114, [vR a, vR t, vR u, vR o, vI i, vI j, vI v_9, vI (am_w ((am_w ((c (t + 2) i) + (c (u + 2) j))) + (v_9 / 1000)))], [vL (am_wl ((c (t + 3) i) * (c (u + 3) j))), vI (am_w ((am_w ((c (t + 2) i) + (c (u + 2) j))) + (v_9 / 1000))), vI (v_9 % 1000), vR a], aq_h m s F c)) rfl rfl ?_
        refine aq_callv (y := 4) (as2 := [vI (v_9 % 1000), vI (am_w ((am_w ((c (t + 2) i) + (c (u + 2) j))) + (v_9 / 1000))), vL (am_wl ((c (t + 3) i) * (c (u + 3) j)))]) (rest := []) rfl rfl (by decide) (Nat.le_of_ble_eq_true rfl) rfl rfl (Nat.le_of_ble_eq_true rfl) (by omega) hFa rfl (Nat.le_of_ble_eq_true rfl) (qn_X3_join ⟨hma, hFa, hFn, hFp, hFf⟩ (by omega) (by omega) hk) ?_
        rintro r5 h5 ⟨c_j, rfl, sc_j, v_j, rfl, hv_j, e_j, hk_j⟩
        show am_E _ (117, [vR a, vR t, vR u, vR o, vI i, vI j, vI v_9, vI (am_w ((am_w ((c (t + 2) i) + (c (u + 2) j))) + (v_9 / 1000)))], [vI v_j], aq_h m s F c_j) _
        refine ae_if0 rfl (fun (q_12 : v_j ≠ 0) => ?_) (fun (q_12 : v_j = 0) => ?_)
        · refine ae_iinc rfl rfl (am_ri (by omega) (by omega)) ?_
          show am_E _ (125, [vR a, vR t, vR u, vR o, vI i, vI (j + 1), vI v_9, vI (am_w ((am_w ((c (t + 2) i) + (c (u + 2) j))) + (v_9 / 1000)))], [], aq_h m s F c_j) _
          refine am_E.go (t2 := (15, [vR a, vR t, vR u, vR o, vI i, vI (j + 1), vI v_9, vI (am_w ((am_w ((c (t + 2) i) + (c (u + 2) j))) + (v_9 / 1000)))], [], aq_h m s F c_j)) rfl rfl ?_
          exact qn_joinProducts_in ⟨hma, hFa, hFn, hFp, hFf⟩ ⟨hmat, hFat, hFnt, hFpt, hFft⟩ hkt hnt ⟨hmau, hFau, hFnu, hFpu, hFfu⟩ hku hnu ⟨hm, hn1, hn4, hK, hFo, hFd, hFs⟩ ⟨hL, hGg, hGr, hNg, hNr, hLt, hGt, hNt⟩ hkK d i (j + 1) (vI v_9) (vI (am_w ((am_w ((c (t + 2) i) + (c (u + 2) j))) + (v_9 / 1000)))) c_j (aq_smt hs sc_j) (by omega) (by omega) (by omega) (by omega) (by rw [e_j]; exact e0) hk_j (by omega) K0
        · refine am_E.go (t2 := (121, [vR a, vR t, vR u, vR o, vI i, vI j, vI v_9, vI (am_w ((am_w ((c (t + 2) i) + (c (u + 2) j))) + (v_9 / 1000)))], [vI 0], aq_h m s F c_j)) rfl rfl ?_
          refine am_E.ret rfl rfl ?_
          exact ⟨_, rfl, (aq_smt hs sc_j), _, rfl, by omega, by rw [e_j]; exact e0, hk_j⟩
      · refine am_E.go (t2 := (45, [vR a, vR t, vR u, vR o, vI i, vI j, v6, v7], [vI 0], aq_h m s F c)) rfl rfl ?_
        refine am_E.ret rfl rfl ?_
        exact ⟨_, rfl, hs, _, rfl, by omega, e0, hk⟩

theorem qn_joinProducts_out {m s : Nat} {F : aq_F} {c0 : aq_C} {a : Nat} (hA : su_0 m F a) {k : Int} {t : Nat} (hAt : su_0 m F t) (hkt : su_k t k c0) (hnt : t + 3 < a ∨ a + 3 < t) {u : Nat} (hAu : su_0 m F u) (hku : su_k u k c0) (hnu : u + 3 < a ∨ a + 3 < u) {o n K : Nat} (hB : bx_0 m F o n K) {tL : Int → Int} {tG tN : Int → Int → Int} (hT : bx_w F o n K tL tG tN) (hkK : k = (K : Int)) : ∀ (d : Nat) (i : Int) (v5 : am_V) (v6 : am_V) (v7 : am_V) (c : aq_C) (hs : aq_sm (fun b => b = a ∨ b = a + 1 ∨ b = a + 2 ∨ b = a + 3) c0 c) (h0 : 0 ≤ i) (h1 : i ≤ c0 t 1) (e0 : c a 0 = c0 a 0) (hk : su_k a k c) (hd : c0 t 1 - i < (d : Int)), am_E ac_X3_joinProducts (3, [vR a, vR t, vR u, vR o, vI i, v5, v6, v7], [], aq_h m s F c) (aq_Z m s F (fun b => b = a ∨ b = a + 1 ∨ b = a + 2 ∨ b = a + 3) c0 (fun r d => ∃ v, r = some (vI v) ∧ (v = 0 ∨ v = 1) ∧ d a 0 = c0 a 0 ∧ su_k a k d))
  | 0, i, v5, v6, v7, c, hs, h0, h1, e0, hk, hd => by exfalso; omega
  | d + 1, i, v5, v6, v7, c, hs, h0, h1, e0, hk, hd => by
    obtain ⟨hma, hFa, hFn, hFp, hFf⟩ := hA
    obtain ⟨hmat, hFat, hFnt, hFpt, hFft⟩ := hAt
    have hkt1 := hkt.1
    have hkt2 := hkt.2.1
    obtain ⟨hmau, hFau, hFnu, hFpu, hFfu⟩ := hAu
    have hku1 := hku.1
    have hku2 := hku.2.1
    obtain ⟨hm, hn1, hn4, hK, hFo, hFd, hFs⟩ := hB
    obtain ⟨hL, hGg, hGr, hNg, hNr, hLt, hGt, hNt⟩ := hT
    refine am_E.go (t2 := (5, [vR a, vR t, vR u, vR o, vI i, v5, v6, v7], [vI i], aq_h m s F c)) rfl rfl ?_
    refine am_E.go (t2 := (6, [vR a, vR t, vR u, vR o, vI i, v5, v6, v7], [vR t, vI i], aq_h m s F c)) rfl rfl ?_
    refine aq_gf (v := vI (c t 1)) rfl (by omega) hFat (by decide) rfl ?_
    show am_E _ (9, [vR a, vR t, vR u, vR o, vI i, v5, v6, v7], [vI (c t 1), vI i], aq_h m s F c) _
    have f_1 := hs t (by omega) 1
    refine ae_icmp rfl (fun (q_2 : (c t 1) ≤ i) => ?_) (fun (q_2 : i < (c t 1)) => ?_)
    · refine am_E.go (t2 := (135, [vR a, vR t, vR u, vR o, vI i, v5, v6, v7], [vI 1], aq_h m s F c)) rfl rfl ?_
      refine am_E.ret rfl rfl ?_
      exact ⟨_, rfl, hs, _, rfl, by omega, e0, hk⟩
    · refine am_E.go (t2 := (13, [vR a, vR t, vR u, vR o, vI i, v5, v6, v7], [vI 0], aq_h m s F c)) rfl rfl ?_
      refine am_E.go (t2 := (15, [vR a, vR t, vR u, vR o, vI i, vI 0, v6, v7], [], aq_h m s F c)) rfl rfl ?_
      refine qn_joinProducts_in ⟨hma, hFa, hFn, hFp, hFf⟩ ⟨hmat, hFat, hFnt, hFpt, hFft⟩ hkt hnt ⟨hmau, hFau, hFnu, hFpu, hFfu⟩ hku hnu ⟨hm, hn1, hn4, hK, hFo, hFd, hFs⟩ ⟨hL, hGg, hGr, hNg, hNr, hLt, hGt, hNt⟩ hkK 41 i 0 (v6) (v7) c hs (by omega) (by omega) (by omega) (by omega) e0 hk (by omega) ?_
      · intro j2_15 v62_15 v72_15 c_3 sc_3 e2_15 hk2_15
        refine ae_iinc rfl rfl (am_ri (by omega) (by omega)) ?_
        show am_E _ (131, [vR a, vR t, vR u, vR o, vI (i + 1), vI j2_15, v62_15, v72_15], [], aq_h m s F c_3) _
        refine am_E.go (t2 := (3, [vR a, vR t, vR u, vR o, vI (i + 1), vI j2_15, v62_15, v72_15], [], aq_h m s F c_3)) rfl rfl ?_
        exact qn_joinProducts_out ⟨hma, hFa, hFn, hFp, hFf⟩ ⟨hmat, hFat, hFnt, hFpt, hFft⟩ hkt hnt ⟨hmau, hFau, hFnu, hFpu, hFfu⟩ hku hnu ⟨hm, hn1, hn4, hK, hFo, hFd, hFs⟩ ⟨hL, hGg, hGr, hNg, hNr, hLt, hGt, hNt⟩ hkK d (i + 1) (vI j2_15) (v62_15) (v72_15) c_3 sc_3 (by omega) (by omega) e2_15 hk2_15 (by omega)

theorem qn_X3_joinProducts {m s : Nat} {F : aq_F} {c : aq_C} {a : Nat} (hA : su_0 m F a) {k : Int} {t : Nat} (hAt : su_0 m F t) (hkt : su_k t k c) (hnt : t + 3 < a ∨ a + 3 < t) {u : Nat} (hAu : su_0 m F u) (hku : su_k u k c) (hnu : u + 3 < a ∨ a + 3 < u) {o n K : Nat} (hB : bx_0 m F o n K) {tL : Int → Int} {tG tN : Int → Int → Int} (hT : bx_w F o n K tL tG tN) (hkK : k = (K : Int)) (hk : su_k a k c) : am_E ac_X3_joinProducts (0, [vR a, vR t, vR u, vR o, vU, vU, vU, vU], [], aq_h m s F c) (aq_Z m s F (fun b => b = a ∨ b = a + 1 ∨ b = a + 2 ∨ b = a + 3) c (fun r d => ∃ v, r = some (vI v) ∧ (v = 0 ∨ v = 1) ∧ d a 0 = c a 0 ∧ su_k a k d)) := by
  obtain ⟨hma, hFa, hFn, hFp, hFf⟩ := hA
  obtain ⟨hmat, hFat, hFnt, hFpt, hFft⟩ := hAt
  have hkt1 := hkt.1
  have hkt2 := hkt.2.1
  obtain ⟨hmau, hFau, hFnu, hFpu, hFfu⟩ := hAu
  have hku1 := hku.1
  have hku2 := hku.2.1
  obtain ⟨hm, hn1, hn4, hK, hFo, hFd, hFs⟩ := hB
  obtain ⟨hL, hGg, hGr, hNg, hNr, hLt, hGt, hNt⟩ := hT
  refine am_E.go (t2 := (1, [vR a, vR t, vR u, vR o, vU, vU, vU, vU], [vI 0], aq_h m s F c)) rfl rfl ?_
  refine am_E.go (t2 := (3, [vR a, vR t, vR u, vR o, vI 0, vU, vU, vU], [], aq_h m s F c)) rfl rfl ?_
  exact qn_joinProducts_out ⟨hma, hFa, hFn, hFp, hFf⟩ ⟨hmat, hFat, hFnt, hFpt, hFft⟩ hkt hnt ⟨hmau, hFau, hFnu, hFpu, hFfu⟩ hku hnu ⟨hm, hn1, hn4, hK, hFo, hFd, hFs⟩ ⟨hL, hGg, hGr, hNg, hNr, hLt, hGt, hNt⟩ hkK 41 0 (vU) (vU) (vU) c (aq_sm0 (S := (fun b => b = a ∨ b = a + 1 ∨ b = a + 2 ∨ b = a + 3))) (by omega) (by omega) rfl hk (by omega)

theorem qn_isLike_l {m s : Nat} {F : aq_F} {c : aq_C} {a : Nat} (hA : su_0 m F a) {t : Nat} (hAt : su_0 m F t) (h40 : c a 1 ≤ 40) : ∀ (d : Nat) (i : Int) (h0 : 0 ≤ i) (h1 : i ≤ 40) (hd : max 0 (c a 1 - i) < (d : Int)), am_E ac_X3_isLike (26, [vR a, vR t, vI i], [], aq_h m s F c) (aq_P m s F c aq_vb)
  | 0, i, h0, h1, hd => by exfalso; omega
  | d + 1, i, h0, h1, hd => by
    obtain ⟨hma, hFa, hFn, hFp, hFf⟩ := hA
    obtain ⟨hmat, hFat, hFnt, hFpt, hFft⟩ := hAt
    refine am_E.go (t2 := (27, [vR a, vR t, vI i], [vI i], aq_h m s F c)) rfl rfl ?_
    refine am_E.go (t2 := (28, [vR a, vR t, vI i], [vR a, vI i], aq_h m s F c)) rfl rfl ?_
    refine aq_gf (v := vI (c a 1)) rfl (by omega) hFa (by decide) rfl ?_
    show am_E _ (31, [vR a, vR t, vI i], [vI (c a 1), vI i], aq_h m s F c) _
    skip
    refine ae_icmp rfl (fun (q_2 : (c a 1) ≤ i) => ?_) (fun (q_2 : i < (c a 1)) => ?_)
    · refine am_E.go (t2 := (79, [vR a, vR t, vI i], [vI 1], aq_h m s F c)) rfl rfl ?_
      refine am_E.ret rfl rfl ?_
      exact ⟨rfl, _, rfl, by omega⟩
    · refine am_E.go (t2 := (35, [vR a, vR t, vI i], [vR a], aq_h m s F c)) rfl rfl ?_
      refine am_E.go (t2 := (36, [vR a, vR t, vI i], [vI i, vR a], aq_h m s F c)) rfl rfl ?_
      refine am_E.go (t2 := (37, [vR a, vR t, vI i], [vR t, vI i, vR a], aq_h m s F c)) rfl rfl ?_
      refine aq_gf (v := vR (t + 1)) rfl (by omega) hFat (by decide) rfl ?_
      show am_E _ (40, [vR a, vR t, vI i], [vR (t + 1), vI i, vR a], aq_h m s F c) _
      refine am_E.go (t2 := (41, [vR a, vR t, vI i], [vI i, vR (t + 1), vI i, vR a], aq_h m s F c)) rfl rfl ?_
      refine aq_al (ok := fun k => k == 0) (v := vI (c (t + 1) i)) rfl rfl (by omega) hFnt rfl (by omega) (by omega) rfl ?_
      show am_E _ (42, [vR a, vR t, vI i], [vI (c (t + 1) i), vI i, vR a], aq_h m s F c) _
      refine am_E.go (t2 := (43, [vR a, vR t, vI i], [vR t, vI (c (t + 1) i), vI i, vR a], aq_h m s F c)) rfl rfl ?_
      refine aq_gf (v := vR (t + 2)) rfl (by omega) hFat (by decide) rfl ?_
      show am_E _ (46, [vR a, vR t, vI i], [vR (t + 2), vI (c (t + 1) i), vI i, vR a], aq_h m s F c) _
      refine am_E.go (t2 := (47, [vR a, vR t, vI i], [vI i, vR (t + 2), vI (c (t + 1) i), vI i, vR a], aq_h m s F c)) rfl rfl ?_
      refine aq_al (ok := fun k => k == 0) (v := vI (c (t + 2) i)) rfl rfl (by omega) hFpt rfl (by omega) (by omega) rfl ?_
      show am_E _ (48, [vR a, vR t, vI i], [vI (c (t + 2) i), vI (c (t + 1) i), vI i, vR a], aq_h m s F c) _
      refine aq_callv (y := 4) (as2 := [vI i, vI (c (t + 1) i), vI (c (t + 2) i)]) (rest := []) rfl rfl (by decide) (Nat.le_of_ble_eq_true rfl) rfl rfl (Nat.le_of_ble_eq_true rfl) (by omega) hFa rfl (Nat.le_of_ble_eq_true rfl) (qn_X3_isAt (a := a) ⟨hma, hFa, hFn, hFp, hFf⟩ (by omega) (by omega)) ?_
      rintro r5 h5 ⟨rfl, v_3, rfl, hv_3⟩
      show am_E _ (51, [vR a, vR t, vI i], [vI v_3], aq_h m s F c) _
      refine ae_if0 rfl (fun (q_4 : v_3 = 0) => ?_) (fun (q_4 : v_3 ≠ 0) => ?_)
      · refine am_E.go (t2 := (71, [vR a, vR t, vI i], [vI 0], aq_h m s F c)) rfl rfl ?_
        refine am_E.ret rfl rfl ?_
        exact ⟨rfl, _, rfl, by omega⟩
      · refine am_E.go (t2 := (55, [vR a, vR t, vI i], [vR a], aq_h m s F c)) rfl rfl ?_
        refine aq_gf (v := vR (a + 3)) rfl (by omega) hFa (by decide) rfl ?_
        show am_E _ (58, [vR a, vR t, vI i], [vR (a + 3)], aq_h m s F c) _
        refine am_E.go (t2 := (59, [vR a, vR t, vI i], [vI i, vR (a + 3)], aq_h m s F c)) rfl rfl ?_
        refine aq_al (ok := fun k => k == 2) (v := vL (c (a + 3) i)) rfl rfl (by omega) hFf rfl (by omega) (by omega) rfl ?_
        show am_E _ (60, [vR a, vR t, vI i], [vL (c (a + 3) i)], aq_h m s F c) _
        refine am_E.go (t2 := (61, [vR a, vR t, vI i], [vR t, vL (c (a + 3) i)], aq_h m s F c)) rfl rfl ?_
        refine aq_gf (v := vR (t + 3)) rfl (by omega) hFat (by decide) rfl ?_
        show am_E _ (64, [vR a, vR t, vI i], [vR (t + 3), vL (c (a + 3) i)], aq_h m s F c) _
        refine am_E.go (t2 := (65, [vR a, vR t, vI i], [vI i, vR (t + 3), vL (c (a + 3) i)], aq_h m s F c)) rfl rfl ?_
        refine aq_al (ok := fun k => k == 2) (v := vL (c (t + 3) i)) rfl rfl (by omega) hFft rfl (by omega) (by omega) rfl ?_
        show am_E _ (66, [vR a, vR t, vI i], [vL (c (t + 3) i), vL (c (a + 3) i)], aq_h m s F c) _
        have ez_5 := am_lcf (c (a + 3) i) (c (t + 3) i)
        refine am_E.go (t2 := (67, [vR a, vR t, vI i], [vI (if (c (a + 3) i) < (c (t + 3) i) then -1 else if (c (a + 3) i) = (c (t + 3) i) then 0 else 1)], aq_h m s F c)) rfl rfl ?_
        generalize (if (c (a + 3) i) < (c (t + 3) i) then -1 else if (c (a + 3) i) = (c (t + 3) i) then 0 else 1) = z_5 at ez_5 ⊢
        refine ae_if0 rfl (fun (q_6 : z_5 = 0) => ?_) (fun (q_6 : z_5 ≠ 0) => ?_)
        · refine ae_iinc rfl rfl (am_ri (by omega) (by omega)) ?_
          show am_E _ (75, [vR a, vR t, vI (i + 1)], [], aq_h m s F c) _
          refine am_E.go (t2 := (26, [vR a, vR t, vI (i + 1)], [], aq_h m s F c)) rfl rfl ?_
          exact qn_isLike_l ⟨hma, hFa, hFn, hFp, hFf⟩ ⟨hmat, hFat, hFnt, hFpt, hFft⟩ h40 d (i + 1) (by omega) (by omega) (by omega)
        · refine am_E.go (t2 := (71, [vR a, vR t, vI i], [vI 0], aq_h m s F c)) rfl rfl ?_
          refine am_E.ret rfl rfl ?_
          exact ⟨rfl, _, rfl, by omega⟩

theorem qn_X3_isLike {m s : Nat} {F : aq_F} {c : aq_C} {a : Nat} (hA : su_0 m F a) {t : Nat} (hAt : su_0 m F t) (h40 : c a 1 ≤ 40) : am_E ac_X3_isLike (0, [vR a, vR t, vU], [], aq_h m s F c) (aq_P m s F c aq_vb) := by
  obtain ⟨hma, hFa, hFn, hFp, hFf⟩ := hA
  obtain ⟨hmat, hFat, hFnt, hFpt, hFft⟩ := hAt
  refine am_E.go (t2 := (1, [vR a, vR t, vU], [vR a], aq_h m s F c)) rfl rfl ?_
  refine aq_gf (v := vI (c a 0)) rfl (by omega) hFa (by decide) rfl ?_
  show am_E _ (4, [vR a, vR t, vU], [vI (c a 0)], aq_h m s F c) _
  skip
  refine am_E.go (t2 := (5, [vR a, vR t, vU], [vR t, vI (c a 0)], aq_h m s F c)) rfl rfl ?_
  refine aq_gf (v := vI (c t 0)) rfl (by omega) hFat (by decide) rfl ?_
  show am_E _ (8, [vR a, vR t, vU], [vI (c t 0), vI (c a 0)], aq_h m s F c) _
  skip
  refine ae_icmp rfl (fun (q_3 : (c a 0) ≠ (c t 0)) => ?_) (fun (q_3 : (c a 0) = (c t 0)) => ?_)
  · refine am_E.go (t2 := (23, [vR a, vR t, vU], [vI 0], aq_h m s F c)) rfl rfl ?_
    refine am_E.ret rfl rfl ?_
    exact ⟨rfl, _, rfl, by omega⟩
  · refine am_E.go (t2 := (12, [vR a, vR t, vU], [vR a], aq_h m s F c)) rfl rfl ?_
    refine aq_gf (v := vI (c a 1)) rfl (by omega) hFa (by decide) rfl ?_
    show am_E _ (15, [vR a, vR t, vU], [vI (c a 1)], aq_h m s F c) _
    skip
    refine am_E.go (t2 := (16, [vR a, vR t, vU], [vR t, vI (c a 1)], aq_h m s F c)) rfl rfl ?_
    refine aq_gf (v := vI (c t 1)) rfl (by omega) hFat (by decide) rfl ?_
    show am_E _ (19, [vR a, vR t, vU], [vI (c t 1), vI (c a 1)], aq_h m s F c) _
    skip
    refine ae_icmp rfl (fun (q_6 : (c a 1) = (c t 1)) => ?_) (fun (q_6 : (c a 1) ≠ (c t 1)) => ?_)
    · refine am_E.go (t2 := (25, [vR a, vR t, vU], [vI 0], aq_h m s F c)) rfl rfl ?_
      refine am_E.go (t2 := (26, [vR a, vR t, vI 0], [], aq_h m s F c)) rfl rfl ?_
      exact qn_isLike_l ⟨hma, hFa, hFn, hFp, hFf⟩ ⟨hmat, hFat, hFnt, hFpt, hFft⟩ h40 42 0 (by omega) (by omega) (by omega)
    · refine am_E.go (t2 := (23, [vR a, vR t, vU], [vI 0], aq_h m s F c)) rfl rfl ?_
      refine am_E.ret rfl rfl ?_
      exact ⟨rfl, _, rfl, by omega⟩

theorem aq_cpn {c : aq_C} {a sp b dp n x : Nat} {j : Int} (h : x ≠ b) : aq_cp c a sp b dp n x j = c x j := by
  unfold aq_cp
  rw [if_neg (fun q => h q.1)]
theorem aq_cps {c : aq_C} {a b n : Nat} {j : Int} (h0 : 0 ≤ j) (h1 : j < (n : Int)) : aq_cp c a (0 : Int).toNat b (0 : Int).toNat n b j = c a j := by
  unfold aq_cp
  rw [if_pos ⟨rfl, by omega, by omega⟩]
  congr 1
  omega

theorem qn_X3_take {m s : Nat} {F : aq_F} {c : aq_C} {a : Nat} (hA : su_0 m F a) {k : Int} {t : Nat} (hAt : su_0 m F t) (hkt : su_k t k c) (hnt : t + 3 < a ∨ a + 3 < t) : am_E ac_X3_take (0, [vR a, vR t], [], aq_h m s F c) (aq_Z m s F (fun b => b = a ∨ b = a + 1 ∨ b = a + 2 ∨ b = a + 3) c (fun r d => r = none ∧ d a 0 = c t 0 ∧ su_k a k d)) := by
  obtain ⟨hma, hFa, hFn, hFp, hFf⟩ := hA
  obtain ⟨hmat, hFat, hFnt, hFpt, hFft⟩ := hAt
  have hkt1 := hkt.1
  have hkt2 := hkt.2.1
  refine am_E.go (t2 := (1, [vR a, vR t], [vR a], aq_h m s F c)) rfl rfl ?_
  refine am_E.go (t2 := (2, [vR a, vR t], [vR t, vR a], aq_h m s F c)) rfl rfl ?_
  refine aq_gf (v := vI (c t 0)) rfl (by omega) hFat (by decide) rfl ?_
  show am_E _ (5, [vR a, vR t], [vI (c t 0), vR a], aq_h m s F c) _
  have f_1 : c t 0 = c t 0 := by rfl
  refine aq_pf rfl (by omega) hFa (by decide) rfl rfl ?_
  show am_E _ (8, [vR a, vR t], [], aq_h m s F (aq_u c a 0 (c t 0))) _
  generalize hdc_2 : aq_u c a 0 (c t 0) = c_2
  have sc_2 := aq_smu (aq_sm0 (S := (fun b => b = a ∨ b = a + 1 ∨ b = a + 2 ∨ b = a + 3))) hdc_2 (Or.inl rfl)
  refine am_E.go (t2 := (9, [vR a, vR t], [vR a], aq_h m s F c_2)) rfl rfl ?_
  refine am_E.go (t2 := (10, [vR a, vR t], [vR t, vR a], aq_h m s F c_2)) rfl rfl ?_
  refine aq_gf (v := vI (c_2 t 1)) rfl (by omega) hFat (by decide) rfl ?_
  show am_E _ (13, [vR a, vR t], [vI (c_2 t 1), vR a], aq_h m s F c_2) _
  have f_3 : c_2 t 1 = c t 1 := by rw [← hdc_2, aq_un (Or.inl (by omega))]
  refine aq_pf rfl (by omega) hFa (by decide) rfl rfl ?_
  show am_E _ (16, [vR a, vR t], [], aq_h m s F (aq_u c_2 a 1 (c_2 t 1))) _
  generalize hdc_4 : aq_u c_2 a 1 (c_2 t 1) = c_4
  have sc_4 := aq_smu sc_2 hdc_4 (Or.inl rfl)
  refine am_E.go (t2 := (17, [vR a, vR t], [vR t], aq_h m s F c_4)) rfl rfl ?_
  refine aq_gf (v := vR (t + 1)) rfl (by omega) hFat (by decide) rfl ?_
  show am_E _ (20, [vR a, vR t], [vR (t + 1)], aq_h m s F c_4) _
  refine am_E.go (t2 := (21, [vR a, vR t], [vI 0, vR (t + 1)], aq_h m s F c_4)) rfl rfl ?_
  refine am_E.go (t2 := (22, [vR a, vR t], [vR a, vI 0, vR (t + 1)], aq_h m s F c_4)) rfl rfl ?_
  refine aq_gf (v := vR (a + 1)) rfl (by omega) hFa (by decide) rfl ?_
  show am_E _ (25, [vR a, vR t], [vR (a + 1), vI 0, vR (t + 1)], aq_h m s F c_4) _
  refine am_E.go (t2 := (26, [vR a, vR t], [vI 0, vR (a + 1), vI 0, vR (t + 1)], aq_h m s F c_4)) rfl rfl ?_
  refine am_E.go (t2 := (27, [vR a, vR t], [vR a, vI 0, vR (a + 1), vI 0, vR (t + 1)], aq_h m s F c_4)) rfl rfl ?_
  refine aq_gf (v := vI (c_4 a 1)) rfl (by omega) hFa (by decide) rfl ?_
  show am_E _ (30, [vR a, vR t], [vI (c_4 a 1), vI 0, vR (a + 1), vI 0, vR (t + 1)], aq_h m s F c_4) _
  have f_5 : c_4 a 1 = c t 1 := by rw [← hdc_4, aq_us]; assumption
  refine aq_cpy (n := ((c_4 a 1) : Int).toNat) (sp := (0 : Int).toNat) (dp := (0 : Int).toNat) rfl (by omega) (by omega) hFnt hFn (by decide) (by omega) (by omega) (by omega) (by omega) (by omega) ?_
  show am_E _ (33, [vR a, vR t], [], aq_h m s F (aq_cp c_4 (t + 1) (0 : Int).toNat (a + 1) (0 : Int).toNat ((c_4 a 1) : Int).toNat)) _
  generalize hdc_6 : aq_cp c_4 (t + 1) (0 : Int).toNat (a + 1) (0 : Int).toNat ((c_4 a 1) : Int).toNat = c_6
  have sc_6 := aq_smc sc_4 hdc_6 (Or.inr (Or.inl rfl))
  refine am_E.go (t2 := (34, [vR a, vR t], [vR t], aq_h m s F c_6)) rfl rfl ?_
  refine aq_gf (v := vR (t + 2)) rfl (by omega) hFat (by decide) rfl ?_
  show am_E _ (37, [vR a, vR t], [vR (t + 2)], aq_h m s F c_6) _
  refine am_E.go (t2 := (38, [vR a, vR t], [vI 0, vR (t + 2)], aq_h m s F c_6)) rfl rfl ?_
  refine am_E.go (t2 := (39, [vR a, vR t], [vR a, vI 0, vR (t + 2)], aq_h m s F c_6)) rfl rfl ?_
  refine aq_gf (v := vR (a + 2)) rfl (by omega) hFa (by decide) rfl ?_
  show am_E _ (42, [vR a, vR t], [vR (a + 2), vI 0, vR (t + 2)], aq_h m s F c_6) _
  refine am_E.go (t2 := (43, [vR a, vR t], [vI 0, vR (a + 2), vI 0, vR (t + 2)], aq_h m s F c_6)) rfl rfl ?_
  refine am_E.go (t2 := (44, [vR a, vR t], [vR a, vI 0, vR (a + 2), vI 0, vR (t + 2)], aq_h m s F c_6)) rfl rfl ?_
  refine aq_gf (v := vI (c_6 a 1)) rfl (by omega) hFa (by decide) rfl ?_
  show am_E _ (47, [vR a, vR t], [vI (c_6 a 1), vI 0, vR (a + 2), vI 0, vR (t + 2)], aq_h m s F c_6) _
  have f_7 : c_6 a 1 = c t 1 := by rw [← hdc_6, aq_cpn (by omega), ← hdc_4, aq_us]; assumption
  refine aq_cpy (n := ((c_6 a 1) : Int).toNat) (sp := (0 : Int).toNat) (dp := (0 : Int).toNat) rfl (by omega) (by omega) hFpt hFp (by decide) (by omega) (by omega) (by omega) (by omega) (by omega) ?_
  show am_E _ (50, [vR a, vR t], [], aq_h m s F (aq_cp c_6 (t + 2) (0 : Int).toNat (a + 2) (0 : Int).toNat ((c_6 a 1) : Int).toNat)) _
  generalize hdc_8 : aq_cp c_6 (t + 2) (0 : Int).toNat (a + 2) (0 : Int).toNat ((c_6 a 1) : Int).toNat = c_8
  have sc_8 := aq_smc sc_6 hdc_8 (Or.inr (Or.inr (Or.inl rfl)))
  refine am_E.go (t2 := (51, [vR a, vR t], [vR t], aq_h m s F c_8)) rfl rfl ?_
  refine aq_gf (v := vR (t + 3)) rfl (by omega) hFat (by decide) rfl ?_
  show am_E _ (54, [vR a, vR t], [vR (t + 3)], aq_h m s F c_8) _
  refine am_E.go (t2 := (55, [vR a, vR t], [vI 0, vR (t + 3)], aq_h m s F c_8)) rfl rfl ?_
  refine am_E.go (t2 := (56, [vR a, vR t], [vR a, vI 0, vR (t + 3)], aq_h m s F c_8)) rfl rfl ?_
  refine aq_gf (v := vR (a + 3)) rfl (by omega) hFa (by decide) rfl ?_
  show am_E _ (59, [vR a, vR t], [vR (a + 3), vI 0, vR (t + 3)], aq_h m s F c_8) _
  refine am_E.go (t2 := (60, [vR a, vR t], [vI 0, vR (a + 3), vI 0, vR (t + 3)], aq_h m s F c_8)) rfl rfl ?_
  refine am_E.go (t2 := (61, [vR a, vR t], [vR a, vI 0, vR (a + 3), vI 0, vR (t + 3)], aq_h m s F c_8)) rfl rfl ?_
  refine aq_gf (v := vI (c_8 a 1)) rfl (by omega) hFa (by decide) rfl ?_
  show am_E _ (64, [vR a, vR t], [vI (c_8 a 1), vI 0, vR (a + 3), vI 0, vR (t + 3)], aq_h m s F c_8) _
  have f_9 : c_8 a 1 = c t 1 := by rw [← hdc_8, aq_cpn (by omega), ← hdc_6, aq_cpn (by omega), ← hdc_4, aq_us]; assumption
  refine aq_cpy (n := ((c_8 a 1) : Int).toNat) (sp := (0 : Int).toNat) (dp := (0 : Int).toNat) rfl (by omega) (by omega) hFft hFf (by decide) (by omega) (by omega) (by omega) (by omega) (by omega) ?_
  show am_E _ (67, [vR a, vR t], [], aq_h m s F (aq_cp c_8 (t + 3) (0 : Int).toNat (a + 3) (0 : Int).toNat ((c_8 a 1) : Int).toNat)) _
  generalize hdc_10 : aq_cp c_8 (t + 3) (0 : Int).toNat (a + 3) (0 : Int).toNat ((c_8 a 1) : Int).toNat = c_10
  have sc_10 := aq_smc sc_8 hdc_10 (Or.inr (Or.inr (Or.inr rfl)))
  refine am_E.ret rfl rfl ?_
  have g1 : c_10 a 1 = c t 1 := by rw [← hdc_10, aq_cpn (by omega), ← hdc_8, aq_cpn (by omega), ← hdc_6, aq_cpn (by omega), ← hdc_4, aq_us]; assumption
  have g0 : c_10 a 0 = c t 0 := by rw [← hdc_10, aq_cpn (by omega), ← hdc_8, aq_cpn (by omega), ← hdc_6, aq_cpn (by omega), ← hdc_4, aq_un (Or.inr (by omega)), ← hdc_2, aq_us]
  refine ⟨_, rfl, sc_10, rfl, g0, by omega, by omega, fun j h5 h6 => ?_⟩
  have k1 := hkt.2.2 j h5 (by omega)
  have n1 : c_10 (a + 1) j = c (t + 1) j := by rw [← hdc_10, aq_cpn (by omega), ← hdc_8, aq_cpn (by omega), ← hdc_6, aq_cps h5 (by omega), ← hdc_4, aq_un (Or.inl (by omega)), ← hdc_2, aq_un (Or.inl (by omega))]
  have n3 : c_10 (a + 3) j = c (t + 3) j := by rw [← hdc_10, aq_cps h5 (by omega), ← hdc_8, aq_cpn (by omega), ← hdc_6, aq_cpn (by omega), ← hdc_4, aq_un (Or.inl (by omega)), ← hdc_2, aq_un (Or.inl (by omega))]
  rw [n1, n3]
  exact k1
def hx_c (n : Int) : List (List Int) := if n = 1 then [[1]] else if n = 2 then [[1, 0], [2, 2]] else if n = 3 then [[1, 0, 3], [3, 2, 1], [3, 3, 3]] else [[1, 0, 3, 2], [1, 0, 4, 4], [3, 2, 1, 0], [4, 2, 1, 4], [4, 4, 3, 2], [4, 4, 4, 4]]
def hx_z (n : Int) : Int := ((hx_c n).length : Int)
/-- the partner of p in half h -/
def hx_d (n h p : Int) : Int := ((hx_c n).getD h.toNat []).getD p.toNat 0
/-- how many are left -/
def hx_l (n h : Int) : Int := ((((hx_c n).getD h.toNat []).filter (fun q => decide (q = n))).length : Int)
/-- size, left and partners are these -/
def hx_e (n z : Nat) (tl : Int → Int) (th : Int → Int → Int) : Prop := (z : Int) = hx_z (n : Int) ∧ ∀ h : Int, 0 ≤ h → h < hx_z (n : Int) → tl h = hx_l (n : Int) h ∧ ∀ p : Int, 0 ≤ p → p < (n : Int) → th h p = hx_d (n : Int) h p
/-- an entry of a table of w bits each -/
def tb_ (T w i : Nat) : Int := (((T >>> (w * i)) % 2 ^ w : Nat) : Int)
def rgT (n : Nat) : Nat := if n = 1 then 1 else if n = 2 then 66049 else if n = 3 then 10404955666743442129104717777862913 else 57390120684798749511077396332105794571101995222350688809851065516797879777801632129614810724180821914302756896657628363268354282913950639959873405449855984870331450083768552354044763196518608382769201289063903639431695499459421240638430827785645785346
def lnT (n : Nat) : Nat := if n = 1 then 0 else if n = 2 then 65537 else if n = 3 then 15617614471325223397412837120868866 else 172394096649824228678490876063868247811688202895297273733420766105489438064114819601242255088337135235583675020922885659791016769033109153517241103396735859236236647310161854603029350005173488512371164018466018739819887383238503213890588321708473778946
def spT (n : Nat) : Nat := if n = 1 then 0 else if n = 2 then 79228162514264337593543950336 else if n = 3 then 2583514293774741419893649596235438935058194969413569029937285137972218418338202396295490044155670288070031476845030676927040258770890035907184952891324073594176981654196053411697448526451861686864028081586432 else 1829475211475356853739850305318564581318198224246838686596051447923760820645797659155230711066626779999427860397361286018108597198326590502704263369853063986158022262382963719745175959973331262548511562842540610609777195926206153244393873804645068805597756081362470925279316897143519745565242449718396238827593222681824055426412868465801457831417147004527791976791485701774778244240458732001261930349019722317444245851060915515795672460102710509316944738108846401365039190246008583534388677338565074382972728891006540640010680379850438219797305185115472748050761431361110005233265130282359114594529246196411756361310472409302841842832788213636959641953128914305059545389301932898037821330282610519198385552237460764086701476096286514199146936379346789944325212791331594443097941589409706476653264119317385726732984361695251930647317134010884985226402023680398024017215681246123674948257417053215175454602471355032335888595155229081643803148058925427523283879975907156805443415277769473206813250625193144297288342406731922796084434574993437970089849105635589927095691014092121678748567940774105629529157187056654398735800851403962851584512679585535503017555480945727123282111643545923201183520051455462447832194259934512175576402281808852384482434906677176315205856098355116646790478737477482843160295501452788202340842664032723822110762506137019628900192557245712385685342836510396002749622638619866087198711483771154845476410084863275909608599041519294356540737777523903896545334501090258018212995868483878377226752
def bnT (n : Nat) : Nat := if n = 1 then 0 else if n = 2 then 411376139330301510538742295649722219962753621665455958495593448 else if n = 3 then 1188925059675319847051101875588221370637998259648363333497143670104116263684446672258813029050822415773144612542331176107741558273876491812814337878942684637563519307026359786824883601265490130788605207195539495493557564100281059786285914278464841346854438345179680471249776192018995212360739279336449050433809085904447589696408288642732162941486689923305109278026025461536645312070458218960392832121493972695463871643650 else 32754719852690610771619936788185263767816603489389340975929618588907499732677552637396942200400810626926427193178515483511445627061442079150557128031085079824448044403376624173985321468107909912794033761326948090735653043461270407903679186304635721420804279589600372101914797513355064161459914502339787293812392394607299812754550196090613758593651385689343344357892226362388832442099858586744393695031713020738278755139681685557702835650697362342999668813616731222686122057776085754971152167206029643701266765309531747524713189043610277817119669314842037743297413669488529088239599025896821040963106684854703135055031790155890958843035941905910040647516792461930974716488231977515116053750620371732373182544040203202949186559275802526237796443575902003616557893348901886311716580330291220976609522758105070370563577476456518960827590348945013652694543364037604467327105969905830608556791244912074428357393663854114751924606677901602287829643636415253119890577117552762855088475662052985974022834241436927150065445185868438261364072535385267529636313350540258814277356194276413030391862690746954277238472952757712299787200352588161894727437672187908689021794217709056409462205808692082164682306557190656329997412603901153012752643086560301056185401860756964106481994550082191422976031312698264820076802705285920946732427448094318551103126819413561399403080007878353324012782388682865607660174841480430440700768893368103133934571702075056856645765845995474255098124539422449471402061532367725037558331835619475198781520739115550830792938330942487561693701374258223176052455330950517040761711764689942740560471600637533894809938455834533157095875338042782780528222947624732642130841289729416095494701024155437940158685722101915314078507634595383270732628015832146490302030276965388492011306702375049997186401777255201130768744299191539170259215542505081352794295279288456289743052127468717224120827913113032182787022825601602273686315213681430356768186967260756712660949407286187111044559782042838963763390800586239054534069193443106965882352072679844302379320581463844902446892440929099650862212701360846255578244314212362762278330809020288547167908238450155137113609677153468676264143588999136722279666553011812249842847794417161986124763678644945401045844866233621116913147732906823586216009511105932294616886791783260317184278254105136913559219621062771207374497209289670013461877936430694453568917711667514118886171407326812279772436466374084137388736131851687114116404830352037079572000128175617702422727683356502405466816844196508778887475378023374194826049279218013778457879488199192966377918010117632792718701736143281045798582435361867734128432081684110384928669414879462225815732044714904791667925877796099923478979875699598286362608479279742385223013035088593002827599071088714137572236638143923153854273669574388094512442344551529733395654592924771191363495813898414446678590800260528995828116197156710968924710668685060797365137958794960133559411434395268447881201308926708945155682459993837423922249188787442383925150696
def fdT (n : Nat) : Nat := if n = 1 then 0 else if n = 2 then 131073 else if n = 3 then 72774158730845269135669699774120455 else 2982959802743847140216677952014299851581702380699113689192777758971883846847921879556204674180740617790916505242229894006411766098365963300841830213521101098187502235096747288570885677726499736617130567242649725371269944906359798943177297413298384210740
def ixT (n : Nat) : Nat := if n = 1 then 0 else if n = 2 then 131073 else if n = 3 then 72895538430146451388428640717964805 else 2989316425796432658396213682883544162468282582223734949238750464809701759653446698287959151584054604298471330356651323462742996803419374680452547660369665933253208160776532491346007718123374273108301080626780985725956752225060577724090004822428546309640
def szT (n : Nat) : Nat := if n = 1 then 72057594037927937 else if n = 2 then 73848251308732490520434389441502806605363775783726940673 else if n = 3 then 474184400792007242186472892514146340826137105847887167429814730334080480672533261189034986145744308151091054376501525091986246263137971053313104791693106485157860463012183434899093737324431725720076301179160846932768361185847654693312333445614105908855790809317889 else 33783401921441432179098721390677732982121538848475942809853859034660707979011995604616709637875066390276879929217064319030244358525289951226434552454966585620477297940237883722372475810541267805372219095635110966164795283150266447787128884764647044578539755895758254145743484785650424974975533910905409617406515351369973382663710802320214630036025598637237144517234254056870108024846538678356840293036036845169576930249784234309659513911305307521587681740151981003461754972611256044501577774207259372151571921683464779895944937466642474990152580526695499317907697546144694642422786270228473933035535835488259997593107268925056474709951767322514717998991817700644291175694772305975163530551416518541903047201396757761532727765839670903492406097384091058411682756605095614783179664011588637701869245597568557651755590748578054050293958088585633589475855468105162298260664747684490380864079273496793592370264724973411812359497927434076897739563454330192019230585627071093077575485583164618225841589658942170292259511595396308790109367023724368733002054308424438691940161631001763293604185854431963536790435296688147936359346180561214382106092314176576286061037593720903139158124292068275370527889009988145448546311063808201004497366562858155668006375907362783178746472722375979137675096318949035027404554135637771705639595976022604472336836933978447299044326255630452161039213744898071435968788680582341360677741458475115495580455089953064006813893851836311021423057939926078859870003010485527674855046921512917753082482157933851963208439641644184519964665535802988802567437287583919964184574642124068251838316387846740662328180993547682853373178533163333221059874809906160281367332822815316617485023331024838094311529968177213794166444744460722680023345247790285440696147089127598538818049
def paT (n : Nat) : Nat := if n = 1 then 0 else if n = 2 then 65537 else if n = 3 then 67703161110335384097309307898888706 else 2961017941032182165673834517842832230264264054442468059704339382728229454391288929493468266747257358208700052877181650462062047499482857797021008123419739755331741561902045906368922721253625805451308809019582587948052156085040402099979560040286885249035
def llT (n : Nat) : Nat := if n = 1 then 0 else if n = 2 then 720897 else if n = 3 then 57358737004974897666621644430445570 else 316370847583497533251263944365807004339142791726416674668877415784583813752903941524904059536535252108508025194755964032280179028716739308776175906596644012736515585669067399676407521225437276778780300457655315963875192908964199994414115265777305259011
/-- the box ahead in the least spelling; its last letter -/
def pa_ (n b : Int) : Int := tb_ (paT n.toNat) 8 b.toNat
def ll_ (n b : Int) : Int := tb_ (llT n.toNat) 8 b.toNat

/-- rings when closed; length and letters of the least spelling; the box with a plain box beneath; the order of finding, the place in it, how many are found -/
def rg_ (n b : Int) : Int := tb_ (rgT n.toNat) 8 b.toNat
def ln_ (n b : Int) : Int := tb_ (lnT n.toNat) 8 b.toNat
def sp_ (n b i : Int) : Int := tb_ (spT n.toNat) 8 (6 * b.toNat + i.toNat)
def bn_ (n b k : Int) : Int := tb_ (bnT n.toNat) 16 (6 * b.toNat + k.toNat)
def fd_ (n i : Int) : Int := tb_ (fdT n.toNat) 8 i.toNat
def ix_ (n b : Int) : Int := tb_ (ixT n.toNat) 8 b.toNat
def sz_ (n i k : Int) : Int := tb_ (szT n.toNat) 8 (7 * i.toNat + k.toNat)
/-- plain facts of one box -/
abbrev tb_A (n b : Int) : Prop := (0 ≤ ln_ n b ∧ ln_ n b ≤ 6) ∧ (0 ≤ ix_ n b ∧ ix_ n b < bx_K n ∧ fd_ n (ix_ n b) = b) ∧ (0 ≤ fd_ n b ∧ fd_ n b < bx_K n ∧ ix_ n (fd_ n b) = b) ∧ (0 ≤ rg_ n b ∧ rg_ n b ≤ 8)
abbrev tb_S (n b i : Int) : Prop := i < ln_ n b → 0 ≤ sp_ n b i ∧ sp_ n b i < 2 * n - 2
abbrev tb_N (n b k : Int) : Prop := k < 2 * n - 2 → 0 ≤ bn_ n b k ∧ bn_ n b k < 5000 ∧ bn_ n b k % 1000 < bx_K n
/-- a step of finding: the box i, the letter k -/
def tb_B (n i k : Int) : Prop := k < 2 * n - 2 → i < sz_ n i k ∧ sz_ n i k ≤ bx_K n ∧
  (if bn_ n (fd_ n i) k < bx_K n ∧ sz_ n i k ≤ ix_ n (bn_ n (fd_ n i) k) ∧ sz_ n i k < bx_K n then
    fd_ n (sz_ n i k) = bn_ n (fd_ n i) k ∧ ln_ n (bn_ n (fd_ n i) k) = ln_ n (fd_ n i) + 1 ∧ ln_ n (fd_ n i) ≤ 5 ∧ (∀ j : Nat, j < 6 → (j : Int) < ln_ n (fd_ n i) → sp_ n (bn_ n (fd_ n i) k) (j : Int) = sp_ n (fd_ n i) (j : Int)) ∧ sp_ n (bn_ n (fd_ n i) k) (ln_ n (fd_ n i)) = k ∧ ix_ n (bn_ n (fd_ n i) k) = sz_ n i k ∧ sz_ n i (k + 1) = sz_ n i k + 1
   else sz_ n i (k + 1) = sz_ n i k)
def tb_Bd {n i k : Int} : Decidable (tb_B n i k) := by unfold tb_B; exact inferInstance
abbrev tb_P (n i k : Int) : Prop := k < 2 * n - 2 → bn_ n (fd_ n i) k < bx_K n ∧ sz_ n i k ≤ ix_ n (bn_ n (fd_ n i) k) ∧ sz_ n i k < bx_K n → pa_ n (bn_ n (fd_ n i) k) = fd_ n i ∧ ll_ n (bn_ n (fd_ n i) k) = (if k < n - 1 then k + 1 else k - (n - 1) + 11)
abbrev tb_E (n i : Int) : Prop := ((i < sz_ n i 0 ∧ sz_ n i 0 < bx_K n) ∨ sz_ n i 0 = bx_K n) ∧ (i < bx_K n → i < sz_ n i 0 ∧ sz_ n i (2 * n - 2) = sz_ n (i + 1) 0)

theorem tb_A_1 : ∀ x : Nat, x < 1 → tb_A 1 (x : Int) := by decide +kernel
theorem tb_A_2 : ∀ x : Nat, x < 3 → tb_A 2 (x : Int) := by decide +kernel
theorem tb_A_3 : ∀ x : Nat, x < 15 → tb_A 3 (x : Int) := by decide +kernel
theorem tb_A_4 : ∀ x : Nat, x < 105 → tb_A 4 (x : Int) := by decide +kernel
theorem tb_A_a {n x : Int} (h1 : 1 ≤ n) (h4 : n ≤ 4) (x0 : 0 ≤ x) (xK : x < bx_K n + 0) : tb_A n x := by
  have ex : ((x.toNat : Nat) : Int) = x := Int.toNat_of_nonneg x0
  have h : n = 1 ∨ n = 2 ∨ n = 3 ∨ n = 4 := by omega
  rcases h with h | h | h | h <;> subst h
  · have g : bx_K 1 = 1 := by decide
    have := tb_A_1 x.toNat (by omega)
    rw [ex] at this
    exact this
  · have g : bx_K 2 = 3 := by decide
    have := tb_A_2 x.toNat (by omega)
    rw [ex] at this
    exact this
  · have g : bx_K 3 = 15 := by decide
    have := tb_A_3 x.toNat (by omega)
    rw [ex] at this
    exact this
  · have g : bx_K 4 = 105 := by decide
    have := tb_A_4 x.toNat (by omega)
    rw [ex] at this
    exact this
theorem tb_S_1 : ∀ x : Nat, x < 1 → ∀ k : Nat, k < 6 → tb_S 1 (x : Int) (k : Int) := by decide +kernel
theorem tb_S_2 : ∀ x : Nat, x < 3 → ∀ k : Nat, k < 6 → tb_S 2 (x : Int) (k : Int) := by decide +kernel
theorem tb_S_3 : ∀ x : Nat, x < 15 → ∀ k : Nat, k < 6 → tb_S 3 (x : Int) (k : Int) := by decide +kernel
theorem tb_S_4 : ∀ x : Nat, x < 105 → ∀ k : Nat, k < 6 → tb_S 4 (x : Int) (k : Int) := by decide +kernel
theorem tb_S_a {n x : Int} {k : Int} (h1 : 1 ≤ n) (h4 : n ≤ 4) (x0 : 0 ≤ x) (xK : x < bx_K n + 0) (k0 : 0 ≤ k) (k1 : k < 6) : tb_S n x k := by
  have ex : ((x.toNat : Nat) : Int) = x := Int.toNat_of_nonneg x0
  have ek : ((k.toNat : Nat) : Int) = k := Int.toNat_of_nonneg k0
  have h : n = 1 ∨ n = 2 ∨ n = 3 ∨ n = 4 := by omega
  rcases h with h | h | h | h <;> subst h
  · have g : bx_K 1 = 1 := by decide
    have := tb_S_1 x.toNat (by omega) k.toNat (by omega)
    rw [ex, ek] at this
    exact this
  · have g : bx_K 2 = 3 := by decide
    have := tb_S_2 x.toNat (by omega) k.toNat (by omega)
    rw [ex, ek] at this
    exact this
  · have g : bx_K 3 = 15 := by decide
    have := tb_S_3 x.toNat (by omega) k.toNat (by omega)
    rw [ex, ek] at this
    exact this
  · have g : bx_K 4 = 105 := by decide
    have := tb_S_4 x.toNat (by omega) k.toNat (by omega)
    rw [ex, ek] at this
    exact this
theorem tb_N_1 : ∀ x : Nat, x < 1 → ∀ k : Nat, k < 6 → tb_N 1 (x : Int) (k : Int) := by decide +kernel
theorem tb_N_2 : ∀ x : Nat, x < 3 → ∀ k : Nat, k < 6 → tb_N 2 (x : Int) (k : Int) := by decide +kernel
theorem tb_N_3 : ∀ x : Nat, x < 15 → ∀ k : Nat, k < 6 → tb_N 3 (x : Int) (k : Int) := by decide +kernel
theorem tb_N_4 : ∀ x : Nat, x < 105 → ∀ k : Nat, k < 6 → tb_N 4 (x : Int) (k : Int) := by decide +kernel
theorem tb_N_a {n x : Int} {k : Int} (h1 : 1 ≤ n) (h4 : n ≤ 4) (x0 : 0 ≤ x) (xK : x < bx_K n + 0) (k0 : 0 ≤ k) (k1 : k < 6) : tb_N n x k := by
  have ex : ((x.toNat : Nat) : Int) = x := Int.toNat_of_nonneg x0
  have ek : ((k.toNat : Nat) : Int) = k := Int.toNat_of_nonneg k0
  have h : n = 1 ∨ n = 2 ∨ n = 3 ∨ n = 4 := by omega
  rcases h with h | h | h | h <;> subst h
  · have g : bx_K 1 = 1 := by decide
    have := tb_N_1 x.toNat (by omega) k.toNat (by omega)
    rw [ex, ek] at this
    exact this
  · have g : bx_K 2 = 3 := by decide
    have := tb_N_2 x.toNat (by omega) k.toNat (by omega)
    rw [ex, ek] at this
    exact this
  · have g : bx_K 3 = 15 := by decide
    have := tb_N_3 x.toNat (by omega) k.toNat (by omega)
    rw [ex, ek] at this
    exact this
  · have g : bx_K 4 = 105 := by decide
    have := tb_N_4 x.toNat (by omega) k.toNat (by omega)
    rw [ex, ek] at this
    exact this
theorem tb_B_1 : ∀ x : Nat, x < 1 → ∀ k : Nat, k < 6 → @decide (tb_B 1 (x : Int) (k : Int)) tb_Bd = true := by decide +kernel
theorem tb_B_2 : ∀ x : Nat, x < 3 → ∀ k : Nat, k < 6 → @decide (tb_B 2 (x : Int) (k : Int)) tb_Bd = true := by decide +kernel
theorem tb_B_3 : ∀ x : Nat, x < 15 → ∀ k : Nat, k < 6 → @decide (tb_B 3 (x : Int) (k : Int)) tb_Bd = true := by decide +kernel
theorem tb_B_4 : ∀ x : Nat, x < 105 → ∀ k : Nat, k < 6 → @decide (tb_B 4 (x : Int) (k : Int)) tb_Bd = true := by decide +kernel
theorem tb_B_a {n x : Int} {k : Int} (h1 : 1 ≤ n) (h4 : n ≤ 4) (x0 : 0 ≤ x) (xK : x < bx_K n + 0) (k0 : 0 ≤ k) (k1 : k < 6) : tb_B n x k := by
  have ex : ((x.toNat : Nat) : Int) = x := Int.toNat_of_nonneg x0
  have ek : ((k.toNat : Nat) : Int) = k := Int.toNat_of_nonneg k0
  have h : n = 1 ∨ n = 2 ∨ n = 3 ∨ n = 4 := by omega
  rcases h with h | h | h | h <;> subst h
  · have g : bx_K 1 = 1 := by decide
    have := tb_B_1 x.toNat (by omega) k.toNat (by omega)
    rw [ex, ek] at this
    exact @of_decide_eq_true _ tb_Bd this
  · have g : bx_K 2 = 3 := by decide
    have := tb_B_2 x.toNat (by omega) k.toNat (by omega)
    rw [ex, ek] at this
    exact @of_decide_eq_true _ tb_Bd this
  · have g : bx_K 3 = 15 := by decide
    have := tb_B_3 x.toNat (by omega) k.toNat (by omega)
    rw [ex, ek] at this
    exact @of_decide_eq_true _ tb_Bd this
  · have g : bx_K 4 = 105 := by decide
    have := tb_B_4 x.toNat (by omega) k.toNat (by omega)
    rw [ex, ek] at this
    exact @of_decide_eq_true _ tb_Bd this
theorem tb_P_1 : ∀ x : Nat, x < 1 → ∀ k : Nat, k < 6 → tb_P 1 (x : Int) (k : Int) := by decide +kernel
theorem tb_P_2 : ∀ x : Nat, x < 3 → ∀ k : Nat, k < 6 → tb_P 2 (x : Int) (k : Int) := by decide +kernel
theorem tb_P_3 : ∀ x : Nat, x < 15 → ∀ k : Nat, k < 6 → tb_P 3 (x : Int) (k : Int) := by decide +kernel
theorem tb_P_4 : ∀ x : Nat, x < 105 → ∀ k : Nat, k < 6 → tb_P 4 (x : Int) (k : Int) := by decide +kernel
theorem tb_P_a {n x : Int} {k : Int} (h1 : 1 ≤ n) (h4 : n ≤ 4) (x0 : 0 ≤ x) (xK : x < bx_K n + 0) (k0 : 0 ≤ k) (k1 : k < 6) : tb_P n x k := by
  have ex : ((x.toNat : Nat) : Int) = x := Int.toNat_of_nonneg x0
  have ek : ((k.toNat : Nat) : Int) = k := Int.toNat_of_nonneg k0
  have h : n = 1 ∨ n = 2 ∨ n = 3 ∨ n = 4 := by omega
  rcases h with h | h | h | h <;> subst h
  · have g : bx_K 1 = 1 := by decide
    have := tb_P_1 x.toNat (by omega) k.toNat (by omega)
    rw [ex, ek] at this
    exact this
  · have g : bx_K 2 = 3 := by decide
    have := tb_P_2 x.toNat (by omega) k.toNat (by omega)
    rw [ex, ek] at this
    exact this
  · have g : bx_K 3 = 15 := by decide
    have := tb_P_3 x.toNat (by omega) k.toNat (by omega)
    rw [ex, ek] at this
    exact this
  · have g : bx_K 4 = 105 := by decide
    have := tb_P_4 x.toNat (by omega) k.toNat (by omega)
    rw [ex, ek] at this
    exact this
theorem tb_E_1 : ∀ x : Nat, x < 2 → tb_E 1 (x : Int) := by decide +kernel
theorem tb_E_2 : ∀ x : Nat, x < 4 → tb_E 2 (x : Int) := by decide +kernel
theorem tb_E_3 : ∀ x : Nat, x < 16 → tb_E 3 (x : Int) := by decide +kernel
theorem tb_E_4 : ∀ x : Nat, x < 106 → tb_E 4 (x : Int) := by decide +kernel
theorem tb_E_a {n x : Int} (h1 : 1 ≤ n) (h4 : n ≤ 4) (x0 : 0 ≤ x) (xK : x < bx_K n + 1) : tb_E n x := by
  have ex : ((x.toNat : Nat) : Int) = x := Int.toNat_of_nonneg x0
  have h : n = 1 ∨ n = 2 ∨ n = 3 ∨ n = 4 := by omega
  rcases h with h | h | h | h <;> subst h
  · have g : bx_K 1 = 1 := by decide
    have := tb_E_1 x.toNat (by omega)
    rw [ex] at this
    exact this
  · have g : bx_K 2 = 3 := by decide
    have := tb_E_2 x.toNat (by omega)
    rw [ex] at this
    exact this
  · have g : bx_K 3 = 15 := by decide
    have := tb_E_3 x.toNat (by omega)
    rw [ex] at this
    exact this
  · have g : bx_K 4 = 105 := by decide
    have := tb_E_4 x.toNat (by omega)
    rw [ex] at this
    exact this
/-- the straight box is found first -/
theorem tb_0 : ∀ n : Nat, n < 5 → 1 ≤ n → fd_ (n : Int) 0 = nu_o (bx_ol n 0) (2 * (n : Int)) 9 0 0 (2 * (n : Int) - 1) ∧ ln_ (n : Int) (fd_ (n : Int) 0) = 0 ∧ sz_ (n : Int) 0 0 = 1 := by decide +kernel
/-- the tables that an object of Boxes holds are these -/
def bx_e (n K : Nat) (tG tN : Int → Int → Int) (tR tL : Int → Int) : Prop := (∀ b : Int, 0 ≤ b → b < (K : Int) → tR b = rg_ (n : Int) b ∧ tL b = ln_ (n : Int) b) ∧ (∀ b i : Int, 0 ≤ b → b < (K : Int) → 0 ≤ i → i < ln_ (n : Int) b → tG b i = sp_ (n : Int) b i) ∧ ∀ b k : Int, 0 ≤ b → b < (K : Int) → 0 ≤ k → k < 2 * (n : Int) - 2 → tN b k = bn_ (n : Int) b k

def sb_o (j : Nat) : Nat := if j = 0 then 11 else if j = 1 then 42 else if j = 2 then 79 else 152
def sb_K (j : Nat) : Nat := if j = 0 then 1 else if j = 1 then 3 else if j = 2 then 15 else 105
def sb_h (j : Nat) : Nat := if j = 0 then 24 else if j = 1 then 61 else if j = 2 then 134 else 477
def sb_t : Nat → aq_T := fun y => match y with
  | 0 => .inr (vR 1)
  | 1 => .inr (vR 2)
  | 2 => .inr (vR 3)
  | 3 => .inr (vR 4)
  | 4 => .inr (vR 8)
  | _ => .inl 0
def sb_B (m : Nat) (F : aq_F) (o n K : Nat) : Prop := ∃ (tP tG tN : Int → Int → Int) (tR tL : Int → Int), bx_0 m F o n K ∧ bx_p F o n K tP ∧ bx_w F o n K tL tG tN ∧ bx_r F o K tR ∧ (0 ≤ nu_o (bx_ol n 0) (2 * (n : Int)) 9 0 0 (2 * (n : Int) - 1) ∧ nu_o (bx_ol n 0) (2 * (n : Int)) 9 0 0 (2 * (n : Int) - 1) < (K : Int)) ∧ bx_e n K tG tN tR tL
def sb_H (m : Nat) (F : aq_F) (o n : Nat) : Prop := ∃ (z : Nat) (tl : Int → Int) (th : Int → Int → Int), hv_0 m F o n z tl th ∧ hx_e n z tl th
def sb_C (m : Nat) (F : aq_F) : Prop := 527 ≤ m ∧ F 0 = (14, 5, sb_t) ∧ F 1 = (4, 4, fun j => aq_g 4 j (sb_o j)) ∧ F 2 = (5, 4, fun j => aq_g 4 j (sb_h j)) ∧ F 3 = (6, 8, fun j => aq_g 8 j (495 + 4 * j)) ∧ su_0 m F 4 ∧ cr_0 m F 8 ∧ (∀ j, j < 8 → su_0 m F (495 + 4 * j)) ∧ (∀ j, j < 4 → sb_B m F (sb_o j) (j + 1) (sb_K j)) ∧ ∀ j, j < 4 → sb_H m F (sb_h j) (j + 1)
/-- a sum between public calls -/
def sb_u (a : Nat) (c : aq_C) : Prop := 1 ≤ c a 0 ∧ c a 0 ≤ 4 ∧ su_k a (bx_K (c a 0)) c
def cl_I (c : aq_C) : Prop := (∀ j, j < 4 → aq_rg (sb_o j + 6 + 3 * sb_K j) (2 * ((j + 1 : Nat) : Int)) 0 (2 * ((j + 1 : Nat) : Int)) c) ∧ cr_l 8 c ∧ ∀ j, j < 8 → sb_u (495 + 4 * j) c
theorem sb_box {m : Nat} {F : aq_F} (hC : sb_C m F) {i : Int} (h0 : 0 ≤ i) (h4 : i < 4) : ∃ o n K : Nat, sb_o i.toNat = o ∧ (n : Int) = i + 1 ∧ (K : Int) = bx_K (i + 1) ∧ n = i.toNat + 1 ∧ sb_K i.toNat = K ∧ sb_B m F o n K := by
  refine ⟨_, i.toNat + 1, _, rfl, by omega, ?_, rfl, rfl, hC.2.2.2.2.2.2.2.2.1 i.toNat (by omega)⟩
  have h : i = 0 ∨ i = 1 ∨ i = 2 ∨ i = 3 := by omega
  rcases h with h | h | h | h <;> subst h <;> decide
theorem sb_half {m : Nat} {F : aq_F} (hC : sb_C m F) {i : Int} (h0 : 0 ≤ i) (h4 : i < 4) : ∃ o n : Nat, sb_h i.toNat = o ∧ (n : Int) = i + 1 ∧ sb_H m F o n :=
  ⟨_, i.toNat + 1, rfl, by omega, hC.2.2.2.2.2.2.2.2.2 i.toNat (by omega)⟩
theorem sb_dis : ∀ i, i < 4 → ∀ j, j < 4 → i ≠ j → sb_o i + 6 + 3 * sb_K i ≠ sb_o j + 6 + 3 * sb_K j ∧ sb_o i + 6 + 3 * sb_K i ≠ sb_o j + 7 + 3 * sb_K j := by decide
theorem sb_bnd : ∀ j, j < 4 → 20 ≤ sb_o j + 6 + 3 * sb_K j ∧ sb_o j + 7 + 3 * sb_K j < 495 := by decide
theorem sb_hnd : ∀ i, i < 4 → ∀ j, j < 4 → 20 ≤ sb_h j ∧ sb_h j + 18 ≤ 495 ∧ (sb_o i + 7 + 3 * sb_K i < sb_h j ∨ sb_h j + 18 ≤ sb_o i) := by decide
theorem cr_lc {x : Nat} {c d : aq_C} (h0 : ∀ i, d x i = c x i) (h1 : ∀ i, d (x + 1) i = c (x + 1) i) (h : cr_l x c) : cr_l x d := by
  unfold cr_l at *
  simp only [h0, h1]
  exact h
theorem su_kc {a : Nat} {k : Int} {c d : aq_C} (h0 : ∀ i, d a i = c a i) (h1 : ∀ i, d (a + 1) i = c (a + 1) i) (h3 : ∀ i, d (a + 3) i = c (a + 3) i) (h : su_k a k c) : su_k a k d := by
  unfold su_k at *
  simp only [h0, h1, h3]
  exact h
theorem sb_uc {a : Nat} {c d : aq_C} (h0 : ∀ i, d a i = c a i) (h1 : ∀ i, d (a + 1) i = c (a + 1) i) (h3 : ∀ i, d (a + 3) i = c (a + 3) i) (h : sb_u a c) : sb_u a d := by
  refine ⟨by rw [h0]; exact h.1, by rw [h0]; exact h.2.1, ?_⟩
  rw [h0]
  exact su_kc h0 h1 h3 h.2.2
/-- contents that differ on cells that hold nothing of the invariant -/
theorem cl_s {S : Nat → Prop} {c d : aq_C} (hI : cl_I c) (hs : aq_sm S c d) (h1 : ∀ j, j < 4 → ¬ S (sb_o j + 6 + 3 * sb_K j)) (h2 : ¬ S 8 ∧ ¬ S 9) (h3 : ∀ a, 495 ≤ a → ¬ S a) : cl_I d :=
  ⟨fun j hj => aq_rgs (hI.1 j hj) hs (h1 j hj), cr_lc (hs 8 h2.1) (hs 9 h2.2) hI.2.1, fun j hj => sb_uc (hs _ (h3 _ (by omega))) (hs _ (h3 _ (by omega))) (hs _ (h3 _ (by omega))) (hI.2.2 j hj)⟩
/-- draft and seen of one of the Boxes -/
theorem cl_b {c d : aq_C} {j : Nat} (hI : cl_I c) (hj : j < 4) (hs : aq_sm (fun a => a = sb_o j + 6 + 3 * sb_K j ∨ a = sb_o j + 7 + 3 * sb_K j) c d) (hr : aq_rg (sb_o j + 6 + 3 * sb_K j) (2 * ((j + 1 : Nat) : Int)) 0 (2 * ((j + 1 : Nat) : Int)) d) : cl_I d := by
  have hb := sb_bnd j hj
  refine ⟨fun i hi => ?_, cr_lc (hs 8 (by omega)) (hs 9 (by omega)) hI.2.1, fun i hi => sb_uc (hs _ (by omega)) (hs _ (by omega)) (hs _ (by omega)) (hI.2.2 i hi)⟩
  by_cases e : i = j
  · subst e
    exact hr
  · have h5 := sb_dis i hi j hj e
    exact aq_rgs (hI.1 i hi) hs (by omega)
/-- seen and table of one of the Halves -/
theorem cl_h {c d : aq_C} {j : Nat} (hI : cl_I c) (hj : j < 4) (hs : aq_sm (fun a => sb_h j ≤ a ∧ a < sb_h j + 18) c d) : cl_I d := by
  refine cl_s hI hs (fun i hi => ?_) ?_ (fun a ha => ?_)
  · have := sb_hnd i hi j hj
    omega
  · have := sb_hnd 0 (by omega) j hj
    omega
  · have := sb_hnd 0 (by omega) j hj
    omega
/-- the row of crossings -/
theorem cl_x {c d : aq_C} (hI : cl_I c) (hs : aq_sm (fun a => a = 8 ∨ a = 8 + 1) c d) (hl : cr_l 8 d) : cl_I d := by
  refine ⟨fun i hi => ?_, hl, fun i hi => sb_uc (hs _ (by omega)) (hs _ (by omega)) (hs _ (by omega)) (hI.2.2 i hi)⟩
  have hb := sb_bnd i hi
  exact aq_rgs (hI.1 i hi) hs (by omega)
/-- one of the sums -/
theorem cl_u {c d : aq_C} {j : Nat} (hI : cl_I c) (hj : j < 8) (hs : aq_sm (fun b => b = 495 + 4 * j ∨ b = 495 + 4 * j + 1 ∨ b = 495 + 4 * j + 2 ∨ b = 495 + 4 * j + 3) c d) (hu : sb_u (495 + 4 * j) d) : cl_I d := by
  refine ⟨fun i hi => ?_, cr_lc (hs 8 (by omega)) (hs 9 (by omega)) hI.2.1, fun i hi => ?_⟩
  · have hb := sb_bnd i hi
    exact aq_rgs (hI.1 i hi) hs (by omega)
  · by_cases e : i = j
    · subst e
      exact hu
    · exact sb_uc (hs _ (by omega)) (hs _ (by omega)) (hs _ (by omega)) (hI.2.2 i hi)
/-- the sum that is made -/
theorem cl_m {c d : aq_C} (hI : cl_I c) (hs : aq_sm (fun b => b = 4 ∨ b = 4 + 1 ∨ b = 4 + 2 ∨ b = 4 + 3) c d) : cl_I d := by
  refine cl_s hI hs (fun i hi => ?_) (by omega) (fun a ha => by omega)
  have hb := sb_bnd i hi
  omega
def aq_vl (r : Option am_V) : Prop := ∃ v, r = some (vL v)
theorem am_sq {d : Int} (h0 : 2 ≤ d) (h1 : d ≤ 32) : 0 ≤ d * d ∧ d * d ≤ 1024 := by
  refine ⟨Int.mul_nonneg (by omega) (by omega), ?_⟩
  exact Int.mul_le_mul h1 h1 (by omega) (by omega)
theorem ae_swd {C : am_C} {pc : Nat} {ls st : List am_V} {h : am_H} {Z : Option am_V → am_H → Prop} {d lo hi a : Int} {offs : Array Int} {len x y : Nat} (hrow : am_row C pc = some (.tableswitch d lo hi offs, len, x, y)) (ha : a < lo ∨ hi < a) (k : am_E C (((pc : Int) + d).toNat, ls, st, h) Z) : am_E C (pc, ls, vI a :: st, h) Z := by
  refine am_E.go hrow ?_ k
  show am_sw d lo hi offs len x y (pc, ls, vI a :: st, h) = _
  unfold am_sw
  simp only []
  rw [if_pos ha]
