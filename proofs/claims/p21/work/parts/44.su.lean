/-! Sum.take. Printed by wip/p20/sx/gSU2.py. -/

theorem aq_cpn {c : aq_C} {a sp b dp n x : Nat} {j : Int} (h : x ≠ b) : aq_cp c a sp b dp n x j = c x j := by
  unfold aq_cp
  rw [if_neg (fun q => h q.1)]
theorem aq_cps {c : aq_C} {a b n : Nat} {j : Int} (h0 : 0 ≤ j) (h1 : j < (n : Int)) : aq_cp c a (0 : Int).toNat b (0 : Int).toNat n b j = c a j := by
  unfold aq_cp
  rw [if_pos ⟨rfl, by omega, by omega⟩]
  congr 1
  omega

theorem qn_X3_take {m s : Nat} {F : aq_F} {c : aq_C} {a : Nat} (hA : su_0 m F a) {k : Int} {t : Nat} (hAt : su_0 m F t) (hkt : su_k t k c) (hnt : t + 3 < a ∨ a + 3 < t) : am_E ac_X3_take (0, [vR a, vR t], [], aq_h m s F c) (aq_Z m s F (fun b => b = a ∨ b = a + 1 ∨ b = a + 2 ∨ b = a + 3) c (fun r d => r = none ∧ d a 0 = c t 0 ∧ su_k a k d)) := by
  obtain ⟨hma, hFa, hFn, hFp, hFf⟩ := hA
  obtain ⟨hmat, hFat, hFnt, hFpt, hFft⟩ := hAt
  have hkt1 := hkt.1
  have hkt2 := hkt.2.1
  refine am_E.go (t2 := (1, [vR a, vR t], [vR a], aq_h m s F c)) rfl rfl ?_
  refine am_E.go (t2 := (2, [vR a, vR t], [vR t, vR a], aq_h m s F c)) rfl rfl ?_
  refine aq_gf (v := vI (c t 0)) rfl (by omega) hFat (by decide) rfl ?_
  show am_E _ (5, [vR a, vR t], [vI (c t 0), vR a], aq_h m s F c) _
  have f_1 : c t 0 = c t 0 := by rfl
  refine aq_pf rfl (by omega) hFa (by decide) rfl rfl ?_
  show am_E _ (8, [vR a, vR t], [], aq_h m s F (aq_u c a 0 (c t 0))) _
  generalize hdc_2 : aq_u c a 0 (c t 0) = c_2
  have sc_2 := aq_smu (aq_sm0 (S := (fun b => b = a ∨ b = a + 1 ∨ b = a + 2 ∨ b = a + 3))) hdc_2 (Or.inl rfl)
  refine am_E.go (t2 := (9, [vR a, vR t], [vR a], aq_h m s F c_2)) rfl rfl ?_
  refine am_E.go (t2 := (10, [vR a, vR t], [vR t, vR a], aq_h m s F c_2)) rfl rfl ?_
  refine aq_gf (v := vI (c_2 t 1)) rfl (by omega) hFat (by decide) rfl ?_
  show am_E _ (13, [vR a, vR t], [vI (c_2 t 1), vR a], aq_h m s F c_2) _
  have f_3 : c_2 t 1 = c t 1 := by rw [← hdc_2, aq_un (Or.inl (by omega))]
  refine aq_pf rfl (by omega) hFa (by decide) rfl rfl ?_
  show am_E _ (16, [vR a, vR t], [], aq_h m s F (aq_u c_2 a 1 (c_2 t 1))) _
  generalize hdc_4 : aq_u c_2 a 1 (c_2 t 1) = c_4
  have sc_4 := aq_smu sc_2 hdc_4 (Or.inl rfl)
  refine am_E.go (t2 := (17, [vR a, vR t], [vR t], aq_h m s F c_4)) rfl rfl ?_
  refine aq_gf (v := vR (t + 1)) rfl (by omega) hFat (by decide) rfl ?_
  show am_E _ (20, [vR a, vR t], [vR (t + 1)], aq_h m s F c_4) _
  refine am_E.go (t2 := (21, [vR a, vR t], [vI 0, vR (t + 1)], aq_h m s F c_4)) rfl rfl ?_
  refine am_E.go (t2 := (22, [vR a, vR t], [vR a, vI 0, vR (t + 1)], aq_h m s F c_4)) rfl rfl ?_
  refine aq_gf (v := vR (a + 1)) rfl (by omega) hFa (by decide) rfl ?_
  show am_E _ (25, [vR a, vR t], [vR (a + 1), vI 0, vR (t + 1)], aq_h m s F c_4) _
  refine am_E.go (t2 := (26, [vR a, vR t], [vI 0, vR (a + 1), vI 0, vR (t + 1)], aq_h m s F c_4)) rfl rfl ?_
  refine am_E.go (t2 := (27, [vR a, vR t], [vR a, vI 0, vR (a + 1), vI 0, vR (t + 1)], aq_h m s F c_4)) rfl rfl ?_
  refine aq_gf (v := vI (c_4 a 1)) rfl (by omega) hFa (by decide) rfl ?_
  show am_E _ (30, [vR a, vR t], [vI (c_4 a 1), vI 0, vR (a + 1), vI 0, vR (t + 1)], aq_h m s F c_4) _
  have f_5 : c_4 a 1 = c t 1 := by rw [← hdc_4, aq_us]; assumption
  refine aq_cpy (n := ((c_4 a 1) : Int).toNat) (sp := (0 : Int).toNat) (dp := (0 : Int).toNat) rfl (by omega) (by omega) hFnt hFn (by decide) (by omega) (by omega) (by omega) (by omega) (by omega) ?_
  show am_E _ (33, [vR a, vR t], [], aq_h m s F (aq_cp c_4 (t + 1) (0 : Int).toNat (a + 1) (0 : Int).toNat ((c_4 a 1) : Int).toNat)) _
  generalize hdc_6 : aq_cp c_4 (t + 1) (0 : Int).toNat (a + 1) (0 : Int).toNat ((c_4 a 1) : Int).toNat = c_6
  have sc_6 := aq_smc sc_4 hdc_6 (Or.inr (Or.inl rfl))
  refine am_E.go (t2 := (34, [vR a, vR t], [vR t], aq_h m s F c_6)) rfl rfl ?_
  refine aq_gf (v := vR (t + 2)) rfl (by omega) hFat (by decide) rfl ?_
  show am_E _ (37, [vR a, vR t], [vR (t + 2)], aq_h m s F c_6) _
  refine am_E.go (t2 := (38, [vR a, vR t], [vI 0, vR (t + 2)], aq_h m s F c_6)) rfl rfl ?_
  refine am_E.go (t2 := (39, [vR a, vR t], [vR a, vI 0, vR (t + 2)], aq_h m s F c_6)) rfl rfl ?_
  refine aq_gf (v := vR (a + 2)) rfl (by omega) hFa (by decide) rfl ?_
  show am_E _ (42, [vR a, vR t], [vR (a + 2), vI 0, vR (t + 2)], aq_h m s F c_6) _
  refine am_E.go (t2 := (43, [vR a, vR t], [vI 0, vR (a + 2), vI 0, vR (t + 2)], aq_h m s F c_6)) rfl rfl ?_
  refine am_E.go (t2 := (44, [vR a, vR t], [vR a, vI 0, vR (a + 2), vI 0, vR (t + 2)], aq_h m s F c_6)) rfl rfl ?_
  refine aq_gf (v := vI (c_6 a 1)) rfl (by omega) hFa (by decide) rfl ?_
  show am_E _ (47, [vR a, vR t], [vI (c_6 a 1), vI 0, vR (a + 2), vI 0, vR (t + 2)], aq_h m s F c_6) _
  have f_7 : c_6 a 1 = c t 1 := by rw [← hdc_6, aq_cpn (by omega), ← hdc_4, aq_us]; assumption
  refine aq_cpy (n := ((c_6 a 1) : Int).toNat) (sp := (0 : Int).toNat) (dp := (0 : Int).toNat) rfl (by omega) (by omega) hFpt hFp (by decide) (by omega) (by omega) (by omega) (by omega) (by omega) ?_
  show am_E _ (50, [vR a, vR t], [], aq_h m s F (aq_cp c_6 (t + 2) (0 : Int).toNat (a + 2) (0 : Int).toNat ((c_6 a 1) : Int).toNat)) _
  generalize hdc_8 : aq_cp c_6 (t + 2) (0 : Int).toNat (a + 2) (0 : Int).toNat ((c_6 a 1) : Int).toNat = c_8
  have sc_8 := aq_smc sc_6 hdc_8 (Or.inr (Or.inr (Or.inl rfl)))
  refine am_E.go (t2 := (51, [vR a, vR t], [vR t], aq_h m s F c_8)) rfl rfl ?_
  refine aq_gf (v := vR (t + 3)) rfl (by omega) hFat (by decide) rfl ?_
  show am_E _ (54, [vR a, vR t], [vR (t + 3)], aq_h m s F c_8) _
  refine am_E.go (t2 := (55, [vR a, vR t], [vI 0, vR (t + 3)], aq_h m s F c_8)) rfl rfl ?_
  refine am_E.go (t2 := (56, [vR a, vR t], [vR a, vI 0, vR (t + 3)], aq_h m s F c_8)) rfl rfl ?_
  refine aq_gf (v := vR (a + 3)) rfl (by omega) hFa (by decide) rfl ?_
  show am_E _ (59, [vR a, vR t], [vR (a + 3), vI 0, vR (t + 3)], aq_h m s F c_8) _
  refine am_E.go (t2 := (60, [vR a, vR t], [vI 0, vR (a + 3), vI 0, vR (t + 3)], aq_h m s F c_8)) rfl rfl ?_
  refine am_E.go (t2 := (61, [vR a, vR t], [vR a, vI 0, vR (a + 3), vI 0, vR (t + 3)], aq_h m s F c_8)) rfl rfl ?_
  refine aq_gf (v := vI (c_8 a 1)) rfl (by omega) hFa (by decide) rfl ?_
  show am_E _ (64, [vR a, vR t], [vI (c_8 a 1), vI 0, vR (a + 3), vI 0, vR (t + 3)], aq_h m s F c_8) _
  have f_9 : c_8 a 1 = c t 1 := by rw [← hdc_8, aq_cpn (by omega), ← hdc_6, aq_cpn (by omega), ← hdc_4, aq_us]; assumption
  refine aq_cpy (n := ((c_8 a 1) : Int).toNat) (sp := (0 : Int).toNat) (dp := (0 : Int).toNat) rfl (by omega) (by omega) hFft hFf (by decide) (by omega) (by omega) (by omega) (by omega) (by omega) ?_
  show am_E _ (67, [vR a, vR t], [], aq_h m s F (aq_cp c_8 (t + 3) (0 : Int).toNat (a + 3) (0 : Int).toNat ((c_8 a 1) : Int).toNat)) _
  generalize hdc_10 : aq_cp c_8 (t + 3) (0 : Int).toNat (a + 3) (0 : Int).toNat ((c_8 a 1) : Int).toNat = c_10
  have sc_10 := aq_smc sc_8 hdc_10 (Or.inr (Or.inr (Or.inr rfl)))
  refine am_E.ret rfl rfl ?_
  have g1 : c_10 a 1 = c t 1 := by rw [← hdc_10, aq_cpn (by omega), ← hdc_8, aq_cpn (by omega), ← hdc_6, aq_cpn (by omega), ← hdc_4, aq_us]; assumption
  have g0 : c_10 a 0 = c t 0 := by rw [← hdc_10, aq_cpn (by omega), ← hdc_8, aq_cpn (by omega), ← hdc_6, aq_cpn (by omega), ← hdc_4, aq_un (Or.inr (by omega)), ← hdc_2, aq_us]
  refine ⟨_, rfl, sc_10, rfl, g0, by omega, by omega, fun j h5 h6 => ?_⟩
  have k1 := hkt.2.2 j h5 (by omega)
  have n1 : c_10 (a + 1) j = c (t + 1) j := by rw [← hdc_10, aq_cpn (by omega), ← hdc_8, aq_cpn (by omega), ← hdc_6, aq_cps h5 (by omega), ← hdc_4, aq_un (Or.inl (by omega)), ← hdc_2, aq_un (Or.inl (by omega))]
  have n3 : c_10 (a + 3) j = c (t + 3) j := by rw [← hdc_10, aq_cps h5 (by omega), ← hdc_8, aq_cpn (by omega), ← hdc_6, aq_cpn (by omega), ← hdc_4, aq_un (Or.inl (by omega)), ← hdc_2, aq_un (Or.inl (by omega))]
  rw [n1, n3]
  exact k1
