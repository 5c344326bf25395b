/-! The reference: formOf on the halves of the list. Printed by wip/p20/sx/gMO12.py. -/
def mt_ (y : Nat) (w0 w1 w2 w3 : Int) (c : aq_C) : Prop := c (y + 13) 0 = w0 ∧ c (y + 13) 1 = w1 ∧ c (y + 13) 2 = w2 ∧ c (y + 13) 3 = w3
section MT
variable {y : Nat} {w0 w1 w2 w3 x : Int} {c d : aq_C}
theorem mt_0 (h : mt_ y w0 w1 w2 w3 c) (he : aq_u c (y + 13) 0 x = d) : mt_ y x w1 w2 w3 d := by
  subst he
  exact ⟨aq_us, by rw [aq_un (Or.inr (by decide))]; exact h.2.1, by rw [aq_un (Or.inr (by decide))]; exact h.2.2.1, by rw [aq_un (Or.inr (by decide))]; exact h.2.2.2⟩
theorem mt_1 (h : mt_ y w0 w1 w2 w3 c) (he : aq_u c (y + 13) 1 x = d) : mt_ y w0 x w2 w3 d := by
  subst he
  exact ⟨by rw [aq_un (Or.inr (by decide))]; exact h.1, aq_us, by rw [aq_un (Or.inr (by decide))]; exact h.2.2.1, by rw [aq_un (Or.inr (by decide))]; exact h.2.2.2⟩
theorem mt_2 (h : mt_ y w0 w1 w2 w3 c) (he : aq_u c (y + 13) 2 x = d) : mt_ y w0 w1 x w3 d := by
  subst he
  exact ⟨by rw [aq_un (Or.inr (by decide))]; exact h.1, by rw [aq_un (Or.inr (by decide))]; exact h.2.1, aq_us, by rw [aq_un (Or.inr (by decide))]; exact h.2.2.2⟩
theorem mt_3 (h : mt_ y w0 w1 w2 w3 c) (he : aq_u c (y + 13) 3 x = d) : mt_ y w0 w1 w2 x d := by
  subst he
  exact ⟨by rw [aq_un (Or.inr (by decide))]; exact h.1, by rw [aq_un (Or.inr (by decide))]; exact h.2.1, by rw [aq_un (Or.inr (by decide))]; exact h.2.2.1, aq_us⟩
end MT

theorem qm_fo_1100 {m s : Nat} {F : aq_F} {c : aq_C} {y : Nat} (hO : mo_0 m F y) (hA0 : c (y + 18) 0 = 1) (hB0 : c (y + 19) 0 = 1) : am_E ac_X5_formOf (0, [vR y, vI 1, vU, vU, vU, vU, vU], [], aq_h m s F c) (aq_Z m s F (fun a => a = y + 13) c (fun r _ => r = some (vI 0))) := by
  obtain ⟨hm, hFo, hG5, hG6, hG7, hG8, hG9, hG10, hG11, hG12, hG13, hG14, hG15, hG16, hG17, hG18, hG19, hG20, hG21, hG22, hG23⟩ := hO
  have hmt : mt_ y (c (y + 13) 0) (c (y + 13) 1) (c (y + 13) 2) (c (y + 13) 3) c := ⟨rfl, rfl, rfl, rfl⟩
  refine am_E.go (t2 := (1, [vR y, vI 1, vU, vU, vU, vU, vU], [vI 0], aq_h m s F c)) rfl rfl ?_
  refine am_E.go (t2 := (2, [vR y, vI 1, vI 0, vU, vU, vU, vU], [], aq_h m s F c)) rfl rfl ?_
  refine am_E.go (t2 := (3, [vR y, vI 1, vI 0, vU, vU, vU, vU], [vI 0], aq_h m s F c)) rfl rfl ?_
  refine am_E.go (t2 := (4, [vR y, vI 1, vI 0, vU, vU, vU, vU], [vI 4, vI 0], aq_h m s F c)) rfl rfl ?_
  refine am_E.go (t2 := (7, [vR y, vI 1, vI 0, vU, vU, vU, vU], [], aq_h m s F c)) rfl rfl ?_
  refine am_E.go (t2 := (8, [vR y, vI 1, vI 0, vU, vU, vU, vU], [vR y], aq_h m s F c)) rfl rfl ?_
  refine aq_gf (v := vR (y + 13)) rfl (by omega) hFo (by decide) rfl ?_
  show am_E _ (11, [vR y, vI 1, vI 0, vU, vU, vU, vU], [vR (y + 13)], aq_h m s F c) _
  refine am_E.go (t2 := (12, [vR y, vI 1, vI 0, vU, vU, vU, vU], [vI 0, vR (y + 13)], aq_h m s F c)) rfl rfl ?_
  refine am_E.go (t2 := (13, [vR y, vI 1, vI 0, vU, vU, vU, vU], [vI 0, vI 0, vR (y + 13)], aq_h m s F c)) rfl rfl ?_
  refine aq_as (kd := 1) rfl rfl (by omega) hG13 (by omega) (by omega) rfl rfl ?_
  show am_E _ (14, [vR y, vI 1, vI 0, vU, vU, vU, vU], [], aq_h m s F (aq_u c (y + 13) 0 0)) _
  generalize hdc_1 : aq_u c (y + 13) 0 0 = c_1
  have sc_1 := aq_smu (aq_sm0 (c := c) (S := fun a => a = y + 13)) hdc_1 rfl
  have mtc_1 := mt_0 hmt hdc_1
  refine am_E.go (t2 := (17, [vR y, vI 1, vI 1, vU, vU, vU, vU], [], aq_h m s F c_1)) rfl rfl ?_
  refine am_E.go (t2 := (2, [vR y, vI 1, vI 1, vU, vU, vU, vU], [], aq_h m s F c_1)) rfl rfl ?_
  refine am_E.go (t2 := (3, [vR y, vI 1, vI 1, vU, vU, vU, vU], [vI 1], aq_h m s F c_1)) rfl rfl ?_
  refine am_E.go (t2 := (4, [vR y, vI 1, vI 1, vU, vU, vU, vU], [vI 4, vI 1], aq_h m s F c_1)) rfl rfl ?_
  refine am_E.go (t2 := (7, [vR y, vI 1, vI 1, vU, vU, vU, vU], [], aq_h m s F c_1)) rfl rfl ?_
  refine am_E.go (t2 := (8, [vR y, vI 1, vI 1, vU, vU, vU, vU], [vR y], aq_h m s F c_1)) rfl rfl ?_
  refine aq_gf (v := vR (y + 13)) rfl (by omega) hFo (by decide) rfl ?_
  show am_E _ (11, [vR y, vI 1, vI 1, vU, vU, vU, vU], [vR (y + 13)], aq_h m s F c_1) _
  refine am_E.go (t2 := (12, [vR y, vI 1, vI 1, vU, vU, vU, vU], [vI 1, vR (y + 13)], aq_h m s F c_1)) rfl rfl ?_
  refine am_E.go (t2 := (13, [vR y, vI 1, vI 1, vU, vU, vU, vU], [vI 0, vI 1, vR (y + 13)], aq_h m s F c_1)) rfl rfl ?_
  refine aq_as (kd := 1) rfl rfl (by omega) hG13 (by omega) (by omega) rfl rfl ?_
  show am_E _ (14, [vR y, vI 1, vI 1, vU, vU, vU, vU], [], aq_h m s F (aq_u c_1 (y + 13) 1 0)) _
  generalize hdc_2 : aq_u c_1 (y + 13) 1 0 = c_2
  have sc_2 := aq_smu sc_1 hdc_2 rfl
  have mtc_2 := mt_1 mtc_1 hdc_2
  refine am_E.go (t2 := (17, [vR y, vI 1, vI 2, vU, vU, vU, vU], [], aq_h m s F c_2)) rfl rfl ?_
  refine am_E.go (t2 := (2, [vR y, vI 1, vI 2, vU, vU, vU, vU], [], aq_h m s F c_2)) rfl rfl ?_
  refine am_E.go (t2 := (3, [vR y, vI 1, vI 2, vU, vU, vU, vU], [vI 2], aq_h m s F c_2)) rfl rfl ?_
  refine am_E.go (t2 := (4, [vR y, vI 1, vI 2, vU, vU, vU, vU], [vI 4, vI 2], aq_h m s F c_2)) rfl rfl ?_
  refine am_E.go (t2 := (7, [vR y, vI 1, vI 2, vU, vU, vU, vU], [], aq_h m s F c_2)) rfl rfl ?_
  refine am_E.go (t2 := (8, [vR y, vI 1, vI 2, vU, vU, vU, vU], [vR y], aq_h m s F c_2)) rfl rfl ?_
  refine aq_gf (v := vR (y + 13)) rfl (by omega) hFo (by decide) rfl ?_
  show am_E _ (11, [vR y, vI 1, vI 2, vU, vU, vU, vU], [vR (y + 13)], aq_h m s F c_2) _
  refine am_E.go (t2 := (12, [vR y, vI 1, vI 2, vU, vU, vU, vU], [vI 2, vR (y + 13)], aq_h m s F c_2)) rfl rfl ?_
  refine am_E.go (t2 := (13, [vR y, vI 1, vI 2, vU, vU, vU, vU], [vI 0, vI 2, vR (y + 13)], aq_h m s F c_2)) rfl rfl ?_
  refine aq_as (kd := 1) rfl rfl (by omega) hG13 (by omega) (by omega) rfl rfl ?_
  show am_E _ (14, [vR y, vI 1, vI 2, vU, vU, vU, vU], [], aq_h m s F (aq_u c_2 (y + 13) 2 0)) _
  generalize hdc_3 : aq_u c_2 (y + 13) 2 0 = c_3
  have sc_3 := aq_smu sc_2 hdc_3 rfl
  have mtc_3 := mt_2 mtc_2 hdc_3
  refine am_E.go (t2 := (17, [vR y, vI 1, vI 3, vU, vU, vU, vU], [], aq_h m s F c_3)) rfl rfl ?_
  refine am_E.go (t2 := (2, [vR y, vI 1, vI 3, vU, vU, vU, vU], [], aq_h m s F c_3)) rfl rfl ?_
  refine am_E.go (t2 := (3, [vR y, vI 1, vI 3, vU, vU, vU, vU], [vI 3], aq_h m s F c_3)) rfl rfl ?_
  refine am_E.go (t2 := (4, [vR y, vI 1, vI 3, vU, vU, vU, vU], [vI 4, vI 3], aq_h m s F c_3)) rfl rfl ?_
  refine am_E.go (t2 := (7, [vR y, vI 1, vI 3, vU, vU, vU, vU], [], aq_h m s F c_3)) rfl rfl ?_
  refine am_E.go (t2 := (8, [vR y, vI 1, vI 3, vU, vU, vU, vU], [vR y], aq_h m s F c_3)) rfl rfl ?_
  refine aq_gf (v := vR (y + 13)) rfl (by omega) hFo (by decide) rfl ?_
  show am_E _ (11, [vR y, vI 1, vI 3, vU, vU, vU, vU], [vR (y + 13)], aq_h m s F c_3) _
  refine am_E.go (t2 := (12, [vR y, vI 1, vI 3, vU, vU, vU, vU], [vI 3, vR (y + 13)], aq_h m s F c_3)) rfl rfl ?_
  refine am_E.go (t2 := (13, [vR y, vI 1, vI 3, vU, vU, vU, vU], [vI 0, vI 3, vR (y + 13)], aq_h m s F c_3)) rfl rfl ?_
  refine aq_as (kd := 1) rfl rfl (by omega) hG13 (by omega) (by omega) rfl rfl ?_
  show am_E _ (14, [vR y, vI 1, vI 3, vU, vU, vU, vU], [], aq_h m s F (aq_u c_3 (y + 13) 3 0)) _
  generalize hdc_4 : aq_u c_3 (y + 13) 3 0 = c_4
  have sc_4 := aq_smu sc_3 hdc_4 rfl
  have mtc_4 := mt_3 mtc_3 hdc_4
  refine am_E.go (t2 := (17, [vR y, vI 1, vI 4, vU, vU, vU, vU], [], aq_h m s F c_4)) rfl rfl ?_
  refine am_E.go (t2 := (2, [vR y, vI 1, vI 4, vU, vU, vU, vU], [], aq_h m s F c_4)) rfl rfl ?_
  refine am_E.go (t2 := (3, [vR y, vI 1, vI 4, vU, vU, vU, vU], [vI 4], aq_h m s F c_4)) rfl rfl ?_
  refine am_E.go (t2 := (4, [vR y, vI 1, vI 4, vU, vU, vU, vU], [vI 4, vI 4], aq_h m s F c_4)) rfl rfl ?_
  refine am_E.go (t2 := (20, [vR y, vI 1, vI 4, vU, vU, vU, vU], [], aq_h m s F c_4)) rfl rfl ?_
  refine am_E.go (t2 := (21, [vR y, vI 1, vI 4, vU, vU, vU, vU], [vI 0], aq_h m s F c_4)) rfl rfl ?_
  refine am_E.go (t2 := (22, [vR y, vI 1, vI 0, vU, vU, vU, vU], [], aq_h m s F c_4)) rfl rfl ?_
  refine am_E.go (t2 := (23, [vR y, vI 1, vI 0, vU, vU, vU, vU], [vI 0], aq_h m s F c_4)) rfl rfl ?_
  refine am_E.go (t2 := (24, [vR y, vI 1, vI 0, vU, vU, vU, vU], [vI 1, vI 0], aq_h m s F c_4)) rfl rfl ?_
  refine am_E.go (t2 := (27, [vR y, vI 1, vI 0, vU, vU, vU, vU], [], aq_h m s F c_4)) rfl rfl ?_
  refine am_E.go (t2 := (28, [vR y, vI 1, vI 0, vU, vU, vU, vU], [vR y], aq_h m s F c_4)) rfl rfl ?_
  refine aq_gf (v := vR (y + 18)) rfl (by omega) hFo (by decide) rfl ?_
  show am_E _ (31, [vR y, vI 1, vI 0, vU, vU, vU, vU], [vR (y + 18)], aq_h m s F c_4) _
  refine am_E.go (t2 := (32, [vR y, vI 1, vI 0, vU, vU, vU, vU], [vI 0, vR (y + 18)], aq_h m s F c_4)) rfl rfl ?_
  refine aq_al (ok := fun k => k == 0) (v := vI (c_4 (y + 18) 0)) rfl rfl (by omega) hG18 rfl (by decide) (by decide) rfl ?_
  rw [sc_4 (y + 18) (by omega), hA0]
  show am_E _ (33, [vR y, vI 1, vI 0, vU, vU, vU, vU], [vI 1], aq_h m s F c_4) _
  refine am_E.go (t2 := (34, [vR y, vI 1, vI 0, vU, vU, vU, vU], [vI 1, vI 1], aq_h m s F c_4)) rfl rfl ?_
  refine am_E.go (t2 := (37, [vR y, vI 1, vI 0, vU, vU, vU, vU], [], aq_h m s F c_4)) rfl rfl ?_
  refine am_E.go (t2 := (38, [vR y, vI 1, vI 0, vU, vU, vU, vU], [vI 0], aq_h m s F c_4)) rfl rfl ?_
  refine am_E.go (t2 := (39, [vR y, vI 1, vI 0, vI 0, vU, vU, vU], [], aq_h m s F c_4)) rfl rfl ?_
  refine am_E.go (t2 := (40, [vR y, vI 1, vI 0, vI 0, vU, vU, vU], [vI 1], aq_h m s F c_4)) rfl rfl ?_
  refine am_E.go (t2 := (42, [vR y, vI 1, vI 0, vI 0, vI 1, vU, vU], [], aq_h m s F c_4)) rfl rfl ?_
  refine am_E.go (t2 := (43, [vR y, vI 1, vI 0, vI 0, vI 1, vU, vU], [vI 1], aq_h m s F c_4)) rfl rfl ?_
  refine am_E.go (t2 := (45, [vR y, vI 1, vI 0, vI 0, vI 1, vI 1, vU], [], aq_h m s F c_4)) rfl rfl ?_
  refine am_E.go (t2 := (47, [vR y, vI 1, vI 0, vI 0, vI 1, vI 1, vU], [vI 1], aq_h m s F c_4)) rfl rfl ?_
  refine am_E.go (t2 := (50, [vR y, vI 1, vI 0, vI 0, vI 1, vI 1, vU], [], aq_h m s F c_4)) rfl rfl ?_
  refine am_E.go (t2 := (51, [vR y, vI 1, vI 0, vI 0, vI 1, vI 1, vU], [vR y], aq_h m s F c_4)) rfl rfl ?_
  refine aq_gf (v := vR (y + 13)) rfl (by omega) hFo (by decide) rfl ?_
  show am_E _ (54, [vR y, vI 1, vI 0, vI 0, vI 1, vI 1, vU], [vR (y + 13)], aq_h m s F c_4) _
  refine am_E.go (t2 := (55, [vR y, vI 1, vI 0, vI 0, vI 1, vI 1, vU], [vI 0, vR (y + 13)], aq_h m s F c_4)) rfl rfl ?_
  refine am_E.go (t2 := (56, [vR y, vI 1, vI 0, vI 0, vI 1, vI 1, vU], [vI 1, vI 0, vR (y + 13)], aq_h m s F c_4)) rfl rfl ?_
  refine aq_as (kd := 1) rfl rfl (by omega) hG13 (by omega) (by omega) rfl rfl ?_
  show am_E _ (57, [vR y, vI 1, vI 0, vI 0, vI 1, vI 1, vU], [], aq_h m s F (aq_u c_4 (y + 13) 0 1)) _
  generalize hdc_5 : aq_u c_4 (y + 13) 0 1 = c_5
  have sc_5 := aq_smu sc_4 hdc_5 rfl
  have mtc_5 := mt_0 mtc_4 hdc_5
  refine am_E.go (t2 := (59, [vR y, vI 1, vI 0, vI 0, vI 1, vI 1, vU], [vI 1], aq_h m s F c_5)) rfl rfl ?_
  refine am_E.go (t2 := (62, [vR y, vI 1, vI 0, vI 0, vI 1, vI 1, vU], [], aq_h m s F c_5)) rfl rfl ?_
  refine am_E.go (t2 := (63, [vR y, vI 1, vI 0, vI 0, vI 1, vI 1, vU], [vR y], aq_h m s F c_5)) rfl rfl ?_
  refine aq_gf (v := vR (y + 19)) rfl (by omega) hFo (by decide) rfl ?_
  show am_E _ (66, [vR y, vI 1, vI 0, vI 0, vI 1, vI 1, vU], [vR (y + 19)], aq_h m s F c_5) _
  refine am_E.go (t2 := (67, [vR y, vI 1, vI 0, vI 0, vI 1, vI 1, vU], [vI 0, vR (y + 19)], aq_h m s F c_5)) rfl rfl ?_
  refine aq_al (ok := fun k => k == 0) (v := vI (c_5 (y + 19) 0)) rfl rfl (by omega) hG19 rfl (by decide) (by decide) rfl ?_
  rw [sc_5 (y + 19) (by omega), hB0]
  show am_E _ (68, [vR y, vI 1, vI 0, vI 0, vI 1, vI 1, vU], [vI 1], aq_h m s F c_5) _
  refine am_E.go (t2 := (77, [vR y, vI 1, vI 0, vI 0, vI 1, vI 1, vU], [vI 1], aq_h m s F c_5)) rfl rfl ?_
  refine am_E.go (t2 := (79, [vR y, vI 1, vI 0, vI 0, vI 1, vI 1, vI 1], [], aq_h m s F c_5)) rfl rfl ?_
  refine am_E.go (t2 := (81, [vR y, vI 1, vI 0, vI 0, vI 1, vI 1, vI 1], [vI 1], aq_h m s F c_5)) rfl rfl ?_
  refine am_E.go (t2 := (82, [vR y, vI 1, vI 0, vI 0, vI 1, vI 1, vI 1], [vI 1, vI 1], aq_h m s F c_5)) rfl rfl ?_
  refine am_E.go (t2 := (89, [vR y, vI 1, vI 0, vI 0, vI 1, vI 1, vI 1], [], aq_h m s F c_5)) rfl rfl ?_
  refine am_E.go (t2 := (90, [vR y, vI 1, vI 0, vI 0, vI 1, vI 1, vI 1], [vI 0], aq_h m s F c_5)) rfl rfl ?_
  refine am_E.go (t2 := (92, [vR y, vI 1, vI 0, vI 0, vI 1, vI 0, vI 1], [], aq_h m s F c_5)) rfl rfl ?_
  refine am_E.go (t2 := (94, [vR y, vI 1, vI 0, vI 0, vI 1, vI 0, vI 1], [vI 0], aq_h m s F c_5)) rfl rfl ?_
  refine am_E.go (t2 := (112, [vR y, vI 1, vI 0, vI 0, vI 1, vI 0, vI 1], [], aq_h m s F c_5)) rfl rfl ?_
  refine am_E.go (t2 := (45, [vR y, vI 1, vI 0, vI 0, vI 1, vI 0, vI 1], [], aq_h m s F c_5)) rfl rfl ?_
  refine am_E.go (t2 := (47, [vR y, vI 1, vI 0, vI 0, vI 1, vI 0, vI 1], [vI 0], aq_h m s F c_5)) rfl rfl ?_
  refine am_E.go (t2 := (115, [vR y, vI 1, vI 0, vI 0, vI 1, vI 0, vI 1], [], aq_h m s F c_5)) rfl rfl ?_
  refine am_E.go (t2 := (116, [vR y, vI 1, vI 0, vI 0, vI 1, vI 0, vI 1], [vR y], aq_h m s F c_5)) rfl rfl ?_
  refine aq_gf (v := vR (y + 13)) rfl (by omega) hFo (by decide) rfl ?_
  show am_E _ (119, [vR y, vI 1, vI 0, vI 0, vI 1, vI 0, vI 1], [vR (y + 13)], aq_h m s F c_5) _
  refine am_E.go (t2 := (120, [vR y, vI 1, vI 0, vI 0, vI 1, vI 0, vI 1], [vI 0, vR (y + 13)], aq_h m s F c_5)) rfl rfl ?_
  refine am_E.go (t2 := (121, [vR y, vI 1, vI 0, vI 0, vI 1, vI 0, vI 1], [vI 1, vI 0, vR (y + 13)], aq_h m s F c_5)) rfl rfl ?_
  refine aq_as (kd := 1) rfl rfl (by omega) hG13 (by omega) (by omega) rfl rfl ?_
  show am_E _ (122, [vR y, vI 1, vI 0, vI 0, vI 1, vI 0, vI 1], [], aq_h m s F (aq_u c_5 (y + 13) 0 1)) _
  generalize hdc_6 : aq_u c_5 (y + 13) 0 1 = c_6
  have sc_6 := aq_smu sc_5 hdc_6 rfl
  have mtc_6 := mt_0 mtc_5 hdc_6
  refine am_E.go (t2 := (124, [vR y, vI 1, vI 0, vI 0, vI 1, vI 0, vI 1], [vI 1], aq_h m s F c_6)) rfl rfl ?_
  refine am_E.go (t2 := (130, [vR y, vI 1, vI 0, vI 0, vI 1, vI 0, vI 1], [], aq_h m s F c_6)) rfl rfl ?_
  refine am_E.go (t2 := (133, [vR y, vI 1, vI 1, vI 0, vI 1, vI 0, vI 1], [], aq_h m s F c_6)) rfl rfl ?_
  refine am_E.go (t2 := (22, [vR y, vI 1, vI 1, vI 0, vI 1, vI 0, vI 1], [], aq_h m s F c_6)) rfl rfl ?_
  refine am_E.go (t2 := (23, [vR y, vI 1, vI 1, vI 0, vI 1, vI 0, vI 1], [vI 1], aq_h m s F c_6)) rfl rfl ?_
  refine am_E.go (t2 := (24, [vR y, vI 1, vI 1, vI 0, vI 1, vI 0, vI 1], [vI 1, vI 1], aq_h m s F c_6)) rfl rfl ?_
  refine am_E.go (t2 := (136, [vR y, vI 1, vI 1, vI 0, vI 1, vI 0, vI 1], [], aq_h m s F c_6)) rfl rfl ?_
  refine am_E.go (t2 := (137, [vR y, vI 1, vI 1, vI 0, vI 1, vI 0, vI 1], [vI 0], aq_h m s F c_6)) rfl rfl ?_
  refine am_E.go (t2 := (138, [vR y, vI 1, vI 0, vI 0, vI 1, vI 0, vI 1], [], aq_h m s F c_6)) rfl rfl ?_
  refine am_E.go (t2 := (139, [vR y, vI 1, vI 0, vI 0, vI 1, vI 0, vI 1], [vI 0], aq_h m s F c_6)) rfl rfl ?_
  refine am_E.go (t2 := (140, [vR y, vI 1, vI 0, vI 0, vI 1, vI 0, vI 1], [vI 1, vI 0], aq_h m s F c_6)) rfl rfl ?_
  refine am_E.go (t2 := (143, [vR y, vI 1, vI 0, vI 0, vI 1, vI 0, vI 1], [], aq_h m s F c_6)) rfl rfl ?_
  refine am_E.go (t2 := (144, [vR y, vI 1, vI 0, vI 0, vI 1, vI 0, vI 1], [vR y], aq_h m s F c_6)) rfl rfl ?_
  refine aq_gf (v := vR (y + 13)) rfl (by omega) hFo (by decide) rfl ?_
  show am_E _ (147, [vR y, vI 1, vI 0, vI 0, vI 1, vI 0, vI 1], [vR (y + 13)], aq_h m s F c_6) _
  refine am_E.go (t2 := (148, [vR y, vI 1, vI 0, vI 0, vI 1, vI 0, vI 1], [vI 0, vR (y + 13)], aq_h m s F c_6)) rfl rfl ?_
  refine aq_al (ok := fun k => k == 1) (v := vI (c_6 (y + 13) 0)) rfl rfl (by omega) hG13 rfl (by decide) (by decide) rfl ?_
  rw [mtc_6.1]
  show am_E _ (149, [vR y, vI 1, vI 0, vI 0, vI 1, vI 0, vI 1], [vI 1], aq_h m s F c_6) _
  refine am_E.go (t2 := (165, [vR y, vI 1, vI 0, vI 0, vI 1, vI 0, vI 1], [], aq_h m s F c_6)) rfl rfl ?_
  refine am_E.go (t2 := (168, [vR y, vI 1, vI 1, vI 0, vI 1, vI 0, vI 1], [], aq_h m s F c_6)) rfl rfl ?_
  refine am_E.go (t2 := (138, [vR y, vI 1, vI 1, vI 0, vI 1, vI 0, vI 1], [], aq_h m s F c_6)) rfl rfl ?_
  refine am_E.go (t2 := (139, [vR y, vI 1, vI 1, vI 0, vI 1, vI 0, vI 1], [vI 1], aq_h m s F c_6)) rfl rfl ?_
  refine am_E.go (t2 := (140, [vR y, vI 1, vI 1, vI 0, vI 1, vI 0, vI 1], [vI 1, vI 1], aq_h m s F c_6)) rfl rfl ?_
  refine am_E.go (t2 := (171, [vR y, vI 1, vI 1, vI 0, vI 1, vI 0, vI 1], [], aq_h m s F c_6)) rfl rfl ?_
  refine am_E.go (t2 := (172, [vR y, vI 1, vI 1, vI 0, vI 1, vI 0, vI 1], [vI 0], aq_h m s F c_6)) rfl rfl ?_
  refine am_E.go (t2 := (173, [vR y, vI 1, vI 0, vI 0, vI 1, vI 0, vI 1], [], aq_h m s F c_6)) rfl rfl ?_
  refine am_E.go (t2 := (174, [vR y, vI 1, vI 0, vI 0, vI 1, vI 0, vI 1], [vI 0], aq_h m s F c_6)) rfl rfl ?_
  refine am_E.go (t2 := (175, [vR y, vI 1, vI 0, vI 0, vI 1, vI 0, vI 1], [], aq_h m s F c_6)) rfl rfl ?_
  refine am_E.go (t2 := (176, [vR y, vI 1, vI 0, vI 0, vI 1, vI 0, vI 1], [vI 0], aq_h m s F c_6)) rfl rfl ?_
  refine am_E.go (t2 := (177, [vR y, vI 1, vI 0, vI 0, vI 1, vI 0, vI 1], [vI 1, vI 0], aq_h m s F c_6)) rfl rfl ?_
  refine am_E.go (t2 := (180, [vR y, vI 1, vI 0, vI 0, vI 1, vI 0, vI 1], [], aq_h m s F c_6)) rfl rfl ?_
  refine am_E.go (t2 := (181, [vR y, vI 1, vI 0, vI 0, vI 1, vI 0, vI 1], [vR y], aq_h m s F c_6)) rfl rfl ?_
  refine aq_gf (v := vR (y + 13)) rfl (by omega) hFo (by decide) rfl ?_
  show am_E _ (184, [vR y, vI 1, vI 0, vI 0, vI 1, vI 0, vI 1], [vR (y + 13)], aq_h m s F c_6) _
  refine am_E.go (t2 := (185, [vR y, vI 1, vI 0, vI 0, vI 1, vI 0, vI 1], [vI 0, vR (y + 13)], aq_h m s F c_6)) rfl rfl ?_
  refine aq_al (ok := fun k => k == 1) (v := vI (c_6 (y + 13) 0)) rfl rfl (by omega) hG13 rfl (by decide) (by decide) rfl ?_
  rw [mtc_6.1]
  show am_E _ (186, [vR y, vI 1, vI 0, vI 0, vI 1, vI 0, vI 1], [vI 1], aq_h m s F c_6) _
  refine am_E.go (t2 := (253, [vR y, vI 1, vI 0, vI 0, vI 1, vI 0, vI 1], [], aq_h m s F c_6)) rfl rfl ?_
  refine am_E.go (t2 := (256, [vR y, vI 1, vI 0, vI 1, vI 1, vI 0, vI 1], [], aq_h m s F c_6)) rfl rfl ?_
  refine am_E.go (t2 := (175, [vR y, vI 1, vI 0, vI 1, vI 1, vI 0, vI 1], [], aq_h m s F c_6)) rfl rfl ?_
  refine am_E.go (t2 := (176, [vR y, vI 1, vI 0, vI 1, vI 1, vI 0, vI 1], [vI 1], aq_h m s F c_6)) rfl rfl ?_
  refine am_E.go (t2 := (177, [vR y, vI 1, vI 0, vI 1, vI 1, vI 0, vI 1], [vI 1, vI 1], aq_h m s F c_6)) rfl rfl ?_
  refine am_E.go (t2 := (259, [vR y, vI 1, vI 0, vI 1, vI 1, vI 0, vI 1], [], aq_h m s F c_6)) rfl rfl ?_
  refine am_E.go (t2 := (260, [vR y, vI 1, vI 0, vI 1, vI 1, vI 0, vI 1], [vI 0], aq_h m s F c_6)) rfl rfl ?_
  refine am_E.ret rfl rfl ?_
  exact ⟨_, rfl, sc_6, rfl⟩

theorem qm_fo_2000 {m s : Nat} {F : aq_F} {c : aq_C} {y : Nat} (hO : mo_0 m F y) (hA0 : c (y + 18) 0 = 1) (hA1 : c (y + 18) 1 = 0) (hB0 : c (y + 19) 0 = 1) (hB1 : c (y + 19) 1 = 0) : am_E ac_X5_formOf (0, [vR y, vI 2, vU, vU, vU, vU, vU], [], aq_h m s F c) (aq_Z m s F (fun a => a = y + 13) c (fun r _ => r = some (vI 1))) := by
  obtain ⟨hm, hFo, hG5, hG6, hG7, hG8, hG9, hG10, hG11, hG12, hG13, hG14, hG15, hG16, hG17, hG18, hG19, hG20, hG21, hG22, hG23⟩ := hO
  have hmt : mt_ y (c (y + 13) 0) (c (y + 13) 1) (c (y + 13) 2) (c (y + 13) 3) c := ⟨rfl, rfl, rfl, rfl⟩
  refine am_E.go (t2 := (1, [vR y, vI 2, vU, vU, vU, vU, vU], [vI 0], aq_h m s F c)) rfl rfl ?_
  refine am_E.go (t2 := (2, [vR y, vI 2, vI 0, vU, vU, vU, vU], [], aq_h m s F c)) rfl rfl ?_
  refine am_E.go (t2 := (3, [vR y, vI 2, vI 0, vU, vU, vU, vU], [vI 0], aq_h m s F c)) rfl rfl ?_
  refine am_E.go (t2 := (4, [vR y, vI 2, vI 0, vU, vU, vU, vU], [vI 4, vI 0], aq_h m s F c)) rfl rfl ?_
  refine am_E.go (t2 := (7, [vR y, vI 2, vI 0, vU, vU, vU, vU], [], aq_h m s F c)) rfl rfl ?_
  refine am_E.go (t2 := (8, [vR y, vI 2, vI 0, vU, vU, vU, vU], [vR y], aq_h m s F c)) rfl rfl ?_
  refine aq_gf (v := vR (y + 13)) rfl (by omega) hFo (by decide) rfl ?_
  show am_E _ (11, [vR y, vI 2, vI 0, vU, vU, vU, vU], [vR (y + 13)], aq_h m s F c) _
  refine am_E.go (t2 := (12, [vR y, vI 2, vI 0, vU, vU, vU, vU], [vI 0, vR (y + 13)], aq_h m s F c)) rfl rfl ?_
  refine am_E.go (t2 := (13, [vR y, vI 2, vI 0, vU, vU, vU, vU], [vI 0, vI 0, vR (y + 13)], aq_h m s F c)) rfl rfl ?_
  refine aq_as (kd := 1) rfl rfl (by omega) hG13 (by omega) (by omega) rfl rfl ?_
  show am_E _ (14, [vR y, vI 2, vI 0, vU, vU, vU, vU], [], aq_h m s F (aq_u c (y + 13) 0 0)) _
  generalize hdc_1 : aq_u c (y + 13) 0 0 = c_1
  have sc_1 := aq_smu (aq_sm0 (c := c) (S := fun a => a = y + 13)) hdc_1 rfl
  have mtc_1 := mt_0 hmt hdc_1
  refine am_E.go (t2 := (17, [vR y, vI 2, vI 1, vU, vU, vU, vU], [], aq_h m s F c_1)) rfl rfl ?_
  refine am_E.go (t2 := (2, [vR y, vI 2, vI 1, vU, vU, vU, vU], [], aq_h m s F c_1)) rfl rfl ?_
  refine am_E.go (t2 := (3, [vR y, vI 2, vI 1, vU, vU, vU, vU], [vI 1], aq_h m s F c_1)) rfl rfl ?_
  refine am_E.go (t2 := (4, [vR y, vI 2, vI 1, vU, vU, vU, vU], [vI 4, vI 1], aq_h m s F c_1)) rfl rfl ?_
  refine am_E.go (t2 := (7, [vR y, vI 2, vI 1, vU, vU, vU, vU], [], aq_h m s F c_1)) rfl rfl ?_
  refine am_E.go (t2 := (8, [vR y, vI 2, vI 1, vU, vU, vU, vU], [vR y], aq_h m s F c_1)) rfl rfl ?_
  refine aq_gf (v := vR (y + 13)) rfl (by omega) hFo (by decide) rfl ?_
  show am_E _ (11, [vR y, vI 2, vI 1, vU, vU, vU, vU], [vR (y + 13)], aq_h m s F c_1) _
  refine am_E.go (t2 := (12, [vR y, vI 2, vI 1, vU, vU, vU, vU], [vI 1, vR (y + 13)], aq_h m s F c_1)) rfl rfl ?_
  refine am_E.go (t2 := (13, [vR y, vI 2, vI 1, vU, vU, vU, vU], [vI 0, vI 1, vR (y + 13)], aq_h m s F c_1)) rfl rfl ?_
  refine aq_as (kd := 1) rfl rfl (by omega) hG13 (by omega) (by omega) rfl rfl ?_
  show am_E _ (14, [vR y, vI 2, vI 1, vU, vU, vU, vU], [], aq_h m s F (aq_u c_1 (y + 13) 1 0)) _
  generalize hdc_2 : aq_u c_1 (y + 13) 1 0 = c_2
  have sc_2 := aq_smu sc_1 hdc_2 rfl
  have mtc_2 := mt_1 mtc_1 hdc_2
  refine am_E.go (t2 := (17, [vR y, vI 2, vI 2, vU, vU, vU, vU], [], aq_h m s F c_2)) rfl rfl ?_
  refine am_E.go (t2 := (2, [vR y, vI 2, vI 2, vU, vU, vU, vU], [], aq_h m s F c_2)) rfl rfl ?_
  refine am_E.go (t2 := (3, [vR y, vI 2, vI 2, vU, vU, vU, vU], [vI 2], aq_h m s F c_2)) rfl rfl ?_
  refine am_E.go (t2 := (4, [vR y, vI 2, vI 2, vU, vU, vU, vU], [vI 4, vI 2], aq_h m s F c_2)) rfl rfl ?_
  refine am_E.go (t2 := (7, [vR y, vI 2, vI 2, vU, vU, vU, vU], [], aq_h m s F c_2)) rfl rfl ?_
  refine am_E.go (t2 := (8, [vR y, vI 2, vI 2, vU, vU, vU, vU], [vR y], aq_h m s F c_2)) rfl rfl ?_
  refine aq_gf (v := vR (y + 13)) rfl (by omega) hFo (by decide) rfl ?_
  show am_E _ (11, [vR y, vI 2, vI 2, vU, vU, vU, vU], [vR (y + 13)], aq_h m s F c_2) _
  refine am_E.go (t2 := (12, [vR y, vI 2, vI 2, vU, vU, vU, vU], [vI 2, vR (y + 13)], aq_h m s F c_2)) rfl rfl ?_
  refine am_E.go (t2 := (13, [vR y, vI 2, vI 2, vU, vU, vU, vU], [vI 0, vI 2, vR (y + 13)], aq_h m s F c_2)) rfl rfl ?_
  refine aq_as (kd := 1) rfl rfl (by omega) hG13 (by omega) (by omega) rfl rfl ?_
  show am_E _ (14, [vR y, vI 2, vI 2, vU, vU, vU, vU], [], aq_h m s F (aq_u c_2 (y + 13) 2 0)) _
  generalize hdc_3 : aq_u c_2 (y + 13) 2 0 = c_3
  have sc_3 := aq_smu sc_2 hdc_3 rfl
  have mtc_3 := mt_2 mtc_2 hdc_3
  refine am_E.go (t2 := (17, [vR y, vI 2, vI 3, vU, vU, vU, vU], [], aq_h m s F c_3)) rfl rfl ?_
  refine am_E.go (t2 := (2, [vR y, vI 2, vI 3, vU, vU, vU, vU], [], aq_h m s F c_3)) rfl rfl ?_
  refine am_E.go (t2 := (3, [vR y, vI 2, vI 3, vU, vU, vU, vU], [vI 3], aq_h m s F c_3)) rfl rfl ?_
  refine am_E.go (t2 := (4, [vR y, vI 2, vI 3, vU, vU, vU, vU], [vI 4, vI 3], aq_h m s F c_3)) rfl rfl ?_
  refine am_E.go (t2 := (7, [vR y, vI 2, vI 3, vU, vU, vU, vU], [], aq_h m s F c_3)) rfl rfl ?_
  refine am_E.go (t2 := (8, [vR y, vI 2, vI 3, vU, vU, vU, vU], [vR y], aq_h m s F c_3)) rfl rfl ?_
  refine aq_gf (v := vR (y + 13)) rfl (by omega) hFo (by decide) rfl ?_
  show am_E _ (11, [vR y, vI 2, vI 3, vU, vU, vU, vU], [vR (y + 13)], aq_h m s F c_3) _
  refine am_E.go (t2 := (12, [vR y, vI 2, vI 3, vU, vU, vU, vU], [vI 3, vR (y + 13)], aq_h m s F c_3)) rfl rfl ?_
  refine am_E.go (t2 := (13, [vR y, vI 2, vI 3, vU, vU, vU, vU], [vI 0, vI 3, vR (y + 13)], aq_h m s F c_3)) rfl rfl ?_
  refine aq_as (kd := 1) rfl rfl (by omega) hG13 (by omega) (by omega) rfl rfl ?_
  show am_E _ (14, [vR y, vI 2, vI 3, vU, vU, vU, vU], [], aq_h m s F (aq_u c_3 (y + 13) 3 0)) _
  generalize hdc_4 : aq_u c_3 (y + 13) 3 0 = c_4
  have sc_4 := aq_smu sc_3 hdc_4 rfl
  have mtc_4 := mt_3 mtc_3 hdc_4
  refine am_E.go (t2 := (17, [vR y, vI 2, vI 4, vU, vU, vU, vU], [], aq_h m s F c_4)) rfl rfl ?_
  refine am_E.go (t2 := (2, [vR y, vI 2, vI 4, vU, vU, vU, vU], [], aq_h m s F c_4)) rfl rfl ?_
  refine am_E.go (t2 := (3, [vR y, vI 2, vI 4, vU, vU, vU, vU], [vI 4], aq_h m s F c_4)) rfl rfl ?_
  refine am_E.go (t2 := (4, [vR y, vI 2, vI 4, vU, vU, vU, vU], [vI 4, vI 4], aq_h m s F c_4)) rfl rfl ?_
  refine am_E.go (t2 := (20, [vR y, vI 2, vI 4, vU, vU, vU, vU], [], aq_h m s F c_4)) rfl rfl ?_
  refine am_E.go (t2 := (21, [vR y, vI 2, vI 4, vU, vU, vU, vU], [vI 0], aq_h m s F c_4)) rfl rfl ?_
  refine am_E.go (t2 := (22, [vR y, vI 2, vI 0, vU, vU, vU, vU], [], aq_h m s F c_4)) rfl rfl ?_
  refine am_E.go (t2 := (23, [vR y, vI 2, vI 0, vU, vU, vU, vU], [vI 0], aq_h m s F c_4)) rfl rfl ?_
  refine am_E.go (t2 := (24, [vR y, vI 2, vI 0, vU, vU, vU, vU], [vI 2, vI 0], aq_h m s F c_4)) rfl rfl ?_
  refine am_E.go (t2 := (27, [vR y, vI 2, vI 0, vU, vU, vU, vU], [], aq_h m s F c_4)) rfl rfl ?_
  refine am_E.go (t2 := (28, [vR y, vI 2, vI 0, vU, vU, vU, vU], [vR y], aq_h m s F c_4)) rfl rfl ?_
  refine aq_gf (v := vR (y + 18)) rfl (by omega) hFo (by decide) rfl ?_
  show am_E _ (31, [vR y, vI 2, vI 0, vU, vU, vU, vU], [vR (y + 18)], aq_h m s F c_4) _
  refine am_E.go (t2 := (32, [vR y, vI 2, vI 0, vU, vU, vU, vU], [vI 0, vR (y + 18)], aq_h m s F c_4)) rfl rfl ?_
  refine aq_al (ok := fun k => k == 0) (v := vI (c_4 (y + 18) 0)) rfl rfl (by omega) hG18 rfl (by decide) (by decide) rfl ?_
  rw [sc_4 (y + 18) (by omega), hA0]
  show am_E _ (33, [vR y, vI 2, vI 0, vU, vU, vU, vU], [vI 1], aq_h m s F c_4) _
  refine am_E.go (t2 := (34, [vR y, vI 2, vI 0, vU, vU, vU, vU], [vI 2, vI 1], aq_h m s F c_4)) rfl rfl ?_
  refine am_E.go (t2 := (130, [vR y, vI 2, vI 0, vU, vU, vU, vU], [], aq_h m s F c_4)) rfl rfl ?_
  refine am_E.go (t2 := (133, [vR y, vI 2, vI 1, vU, vU, vU, vU], [], aq_h m s F c_4)) rfl rfl ?_
  refine am_E.go (t2 := (22, [vR y, vI 2, vI 1, vU, vU, vU, vU], [], aq_h m s F c_4)) rfl rfl ?_
  refine am_E.go (t2 := (23, [vR y, vI 2, vI 1, vU, vU, vU, vU], [vI 1], aq_h m s F c_4)) rfl rfl ?_
  refine am_E.go (t2 := (24, [vR y, vI 2, vI 1, vU, vU, vU, vU], [vI 2, vI 1], aq_h m s F c_4)) rfl rfl ?_
  refine am_E.go (t2 := (27, [vR y, vI 2, vI 1, vU, vU, vU, vU], [], aq_h m s F c_4)) rfl rfl ?_
  refine am_E.go (t2 := (28, [vR y, vI 2, vI 1, vU, vU, vU, vU], [vR y], aq_h m s F c_4)) rfl rfl ?_
  refine aq_gf (v := vR (y + 18)) rfl (by omega) hFo (by decide) rfl ?_
  show am_E _ (31, [vR y, vI 2, vI 1, vU, vU, vU, vU], [vR (y + 18)], aq_h m s F c_4) _
  refine am_E.go (t2 := (32, [vR y, vI 2, vI 1, vU, vU, vU, vU], [vI 1, vR (y + 18)], aq_h m s F c_4)) rfl rfl ?_
  refine aq_al (ok := fun k => k == 0) (v := vI (c_4 (y + 18) 1)) rfl rfl (by omega) hG18 rfl (by decide) (by decide) rfl ?_
  rw [sc_4 (y + 18) (by omega), hA1]
  show am_E _ (33, [vR y, vI 2, vI 1, vU, vU, vU, vU], [vI 0], aq_h m s F c_4) _
  refine am_E.go (t2 := (34, [vR y, vI 2, vI 1, vU, vU, vU, vU], [vI 2, vI 0], aq_h m s F c_4)) rfl rfl ?_
  refine am_E.go (t2 := (130, [vR y, vI 2, vI 1, vU, vU, vU, vU], [], aq_h m s F c_4)) rfl rfl ?_
  refine am_E.go (t2 := (133, [vR y, vI 2, vI 2, vU, vU, vU, vU], [], aq_h m s F c_4)) rfl rfl ?_
  refine am_E.go (t2 := (22, [vR y, vI 2, vI 2, vU, vU, vU, vU], [], aq_h m s F c_4)) rfl rfl ?_
  refine am_E.go (t2 := (23, [vR y, vI 2, vI 2, vU, vU, vU, vU], [vI 2], aq_h m s F c_4)) rfl rfl ?_
  refine am_E.go (t2 := (24, [vR y, vI 2, vI 2, vU, vU, vU, vU], [vI 2, vI 2], aq_h m s F c_4)) rfl rfl ?_
  refine am_E.go (t2 := (136, [vR y, vI 2, vI 2, vU, vU, vU, vU], [], aq_h m s F c_4)) rfl rfl ?_
  refine am_E.go (t2 := (137, [vR y, vI 2, vI 2, vU, vU, vU, vU], [vI 0], aq_h m s F c_4)) rfl rfl ?_
  refine am_E.go (t2 := (138, [vR y, vI 2, vI 0, vU, vU, vU, vU], [], aq_h m s F c_4)) rfl rfl ?_
  refine am_E.go (t2 := (139, [vR y, vI 2, vI 0, vU, vU, vU, vU], [vI 0], aq_h m s F c_4)) rfl rfl ?_
  refine am_E.go (t2 := (140, [vR y, vI 2, vI 0, vU, vU, vU, vU], [vI 2, vI 0], aq_h m s F c_4)) rfl rfl ?_
  refine am_E.go (t2 := (143, [vR y, vI 2, vI 0, vU, vU, vU, vU], [], aq_h m s F c_4)) rfl rfl ?_
  refine am_E.go (t2 := (144, [vR y, vI 2, vI 0, vU, vU, vU, vU], [vR y], aq_h m s F c_4)) rfl rfl ?_
  refine aq_gf (v := vR (y + 13)) rfl (by omega) hFo (by decide) rfl ?_
  show am_E _ (147, [vR y, vI 2, vI 0, vU, vU, vU, vU], [vR (y + 13)], aq_h m s F c_4) _
  refine am_E.go (t2 := (148, [vR y, vI 2, vI 0, vU, vU, vU, vU], [vI 0, vR (y + 13)], aq_h m s F c_4)) rfl rfl ?_
  refine aq_al (ok := fun k => k == 1) (v := vI (c_4 (y + 13) 0)) rfl rfl (by omega) hG13 rfl (by decide) (by decide) rfl ?_
  rw [mtc_4.1]
  show am_E _ (149, [vR y, vI 2, vI 0, vU, vU, vU, vU], [vI 0], aq_h m s F c_4) _
  refine am_E.go (t2 := (152, [vR y, vI 2, vI 0, vU, vU, vU, vU], [], aq_h m s F c_4)) rfl rfl ?_
  refine am_E.go (t2 := (153, [vR y, vI 2, vI 0, vU, vU, vU, vU], [vR y], aq_h m s F c_4)) rfl rfl ?_
  refine aq_gf (v := vR (y + 19)) rfl (by omega) hFo (by decide) rfl ?_
  show am_E _ (156, [vR y, vI 2, vI 0, vU, vU, vU, vU], [vR (y + 19)], aq_h m s F c_4) _
  refine am_E.go (t2 := (157, [vR y, vI 2, vI 0, vU, vU, vU, vU], [vI 0, vR (y + 19)], aq_h m s F c_4)) rfl rfl ?_
  refine aq_al (ok := fun k => k == 0) (v := vI (c_4 (y + 19) 0)) rfl rfl (by omega) hG19 rfl (by decide) (by decide) rfl ?_
  rw [sc_4 (y + 19) (by omega), hB0]
  show am_E _ (158, [vR y, vI 2, vI 0, vU, vU, vU, vU], [vI 1], aq_h m s F c_4) _
  refine am_E.go (t2 := (159, [vR y, vI 2, vI 0, vU, vU, vU, vU], [vI 2, vI 1], aq_h m s F c_4)) rfl rfl ?_
  refine am_E.go (t2 := (165, [vR y, vI 2, vI 0, vU, vU, vU, vU], [], aq_h m s F c_4)) rfl rfl ?_
  refine am_E.go (t2 := (168, [vR y, vI 2, vI 1, vU, vU, vU, vU], [], aq_h m s F c_4)) rfl rfl ?_
  refine am_E.go (t2 := (138, [vR y, vI 2, vI 1, vU, vU, vU, vU], [], aq_h m s F c_4)) rfl rfl ?_
  refine am_E.go (t2 := (139, [vR y, vI 2, vI 1, vU, vU, vU, vU], [vI 1], aq_h m s F c_4)) rfl rfl ?_
  refine am_E.go (t2 := (140, [vR y, vI 2, vI 1, vU, vU, vU, vU], [vI 2, vI 1], aq_h m s F c_4)) rfl rfl ?_
  refine am_E.go (t2 := (143, [vR y, vI 2, vI 1, vU, vU, vU, vU], [], aq_h m s F c_4)) rfl rfl ?_
  refine am_E.go (t2 := (144, [vR y, vI 2, vI 1, vU, vU, vU, vU], [vR y], aq_h m s F c_4)) rfl rfl ?_
  refine aq_gf (v := vR (y + 13)) rfl (by omega) hFo (by decide) rfl ?_
  show am_E _ (147, [vR y, vI 2, vI 1, vU, vU, vU, vU], [vR (y + 13)], aq_h m s F c_4) _
  refine am_E.go (t2 := (148, [vR y, vI 2, vI 1, vU, vU, vU, vU], [vI 1, vR (y + 13)], aq_h m s F c_4)) rfl rfl ?_
  refine aq_al (ok := fun k => k == 1) (v := vI (c_4 (y + 13) 1)) rfl rfl (by omega) hG13 rfl (by decide) (by decide) rfl ?_
  rw [mtc_4.2.1]
  show am_E _ (149, [vR y, vI 2, vI 1, vU, vU, vU, vU], [vI 0], aq_h m s F c_4) _
  refine am_E.go (t2 := (152, [vR y, vI 2, vI 1, vU, vU, vU, vU], [], aq_h m s F c_4)) rfl rfl ?_
  refine am_E.go (t2 := (153, [vR y, vI 2, vI 1, vU, vU, vU, vU], [vR y], aq_h m s F c_4)) rfl rfl ?_
  refine aq_gf (v := vR (y + 19)) rfl (by omega) hFo (by decide) rfl ?_
  show am_E _ (156, [vR y, vI 2, vI 1, vU, vU, vU, vU], [vR (y + 19)], aq_h m s F c_4) _
  refine am_E.go (t2 := (157, [vR y, vI 2, vI 1, vU, vU, vU, vU], [vI 1, vR (y + 19)], aq_h m s F c_4)) rfl rfl ?_
  refine aq_al (ok := fun k => k == 0) (v := vI (c_4 (y + 19) 1)) rfl rfl (by omega) hG19 rfl (by decide) (by decide) rfl ?_
  rw [sc_4 (y + 19) (by omega), hB1]
  show am_E _ (158, [vR y, vI 2, vI 1, vU, vU, vU, vU], [vI 0], aq_h m s F c_4) _
  refine am_E.go (t2 := (159, [vR y, vI 2, vI 1, vU, vU, vU, vU], [vI 2, vI 0], aq_h m s F c_4)) rfl rfl ?_
  refine am_E.go (t2 := (165, [vR y, vI 2, vI 1, vU, vU, vU, vU], [], aq_h m s F c_4)) rfl rfl ?_
  refine am_E.go (t2 := (168, [vR y, vI 2, vI 2, vU, vU, vU, vU], [], aq_h m s F c_4)) rfl rfl ?_
  refine am_E.go (t2 := (138, [vR y, vI 2, vI 2, vU, vU, vU, vU], [], aq_h m s F c_4)) rfl rfl ?_
  refine am_E.go (t2 := (139, [vR y, vI 2, vI 2, vU, vU, vU, vU], [vI 2], aq_h m s F c_4)) rfl rfl ?_
  refine am_E.go (t2 := (140, [vR y, vI 2, vI 2, vU, vU, vU, vU], [vI 2, vI 2], aq_h m s F c_4)) rfl rfl ?_
  refine am_E.go (t2 := (171, [vR y, vI 2, vI 2, vU, vU, vU, vU], [], aq_h m s F c_4)) rfl rfl ?_
  refine am_E.go (t2 := (172, [vR y, vI 2, vI 2, vU, vU, vU, vU], [vI 0], aq_h m s F c_4)) rfl rfl ?_
  refine am_E.go (t2 := (173, [vR y, vI 2, vI 0, vU, vU, vU, vU], [], aq_h m s F c_4)) rfl rfl ?_
  refine am_E.go (t2 := (174, [vR y, vI 2, vI 0, vU, vU, vU, vU], [vI 0], aq_h m s F c_4)) rfl rfl ?_
  refine am_E.go (t2 := (175, [vR y, vI 2, vI 0, vI 0, vU, vU, vU], [], aq_h m s F c_4)) rfl rfl ?_
  refine am_E.go (t2 := (176, [vR y, vI 2, vI 0, vI 0, vU, vU, vU], [vI 0], aq_h m s F c_4)) rfl rfl ?_
  refine am_E.go (t2 := (177, [vR y, vI 2, vI 0, vI 0, vU, vU, vU], [vI 2, vI 0], aq_h m s F c_4)) rfl rfl ?_
  refine am_E.go (t2 := (180, [vR y, vI 2, vI 0, vI 0, vU, vU, vU], [], aq_h m s F c_4)) rfl rfl ?_
  refine am_E.go (t2 := (181, [vR y, vI 2, vI 0, vI 0, vU, vU, vU], [vR y], aq_h m s F c_4)) rfl rfl ?_
  refine aq_gf (v := vR (y + 13)) rfl (by omega) hFo (by decide) rfl ?_
  show am_E _ (184, [vR y, vI 2, vI 0, vI 0, vU, vU, vU], [vR (y + 13)], aq_h m s F c_4) _
  refine am_E.go (t2 := (185, [vR y, vI 2, vI 0, vI 0, vU, vU, vU], [vI 0, vR (y + 13)], aq_h m s F c_4)) rfl rfl ?_
  refine aq_al (ok := fun k => k == 1) (v := vI (c_4 (y + 13) 0)) rfl rfl (by omega) hG13 rfl (by decide) (by decide) rfl ?_
  rw [mtc_4.1]
  show am_E _ (186, [vR y, vI 2, vI 0, vI 0, vU, vU, vU], [vI 0], aq_h m s F c_4) _
  refine am_E.go (t2 := (189, [vR y, vI 2, vI 0, vI 0, vU, vU, vU], [], aq_h m s F c_4)) rfl rfl ?_
  refine am_E.go (t2 := (192, [vR y, vI 2, vI 1, vI 0, vU, vU, vU], [], aq_h m s F c_4)) rfl rfl ?_
  refine am_E.go (t2 := (193, [vR y, vI 2, vI 1, vI 0, vU, vU, vU], [vI 0], aq_h m s F c_4)) rfl rfl ?_
  refine am_E.go (t2 := (195, [vR y, vI 2, vI 1, vI 0, vI 0, vU, vU], [], aq_h m s F c_4)) rfl rfl ?_
  refine am_E.go (t2 := (196, [vR y, vI 2, vI 1, vI 0, vI 0, vU, vU], [vI 1], aq_h m s F c_4)) rfl rfl ?_
  refine am_E.go (t2 := (198, [vR y, vI 2, vI 1, vI 0, vI 0, vI 1, vU], [], aq_h m s F c_4)) rfl rfl ?_
  refine am_E.go (t2 := (200, [vR y, vI 2, vI 1, vI 0, vI 0, vI 1, vU], [vI 1], aq_h m s F c_4)) rfl rfl ?_
  refine am_E.go (t2 := (203, [vR y, vI 2, vI 1, vI 0, vI 0, vI 1, vU], [], aq_h m s F c_4)) rfl rfl ?_
  refine am_E.go (t2 := (204, [vR y, vI 2, vI 1, vI 0, vI 0, vI 1, vU], [vR y], aq_h m s F c_4)) rfl rfl ?_
  refine aq_gf (v := vR (y + 13)) rfl (by omega) hFo (by decide) rfl ?_
  show am_E _ (207, [vR y, vI 2, vI 1, vI 0, vI 0, vI 1, vU], [vR (y + 13)], aq_h m s F c_4) _
  refine am_E.go (t2 := (209, [vR y, vI 2, vI 1, vI 0, vI 0, vI 1, vU], [vI 0, vR (y + 13)], aq_h m s F c_4)) rfl rfl ?_
  refine am_E.go (t2 := (210, [vR y, vI 2, vI 1, vI 0, vI 0, vI 1, vU], [vI 1, vI 0, vR (y + 13)], aq_h m s F c_4)) rfl rfl ?_
  refine aq_as (kd := 1) rfl rfl (by omega) hG13 (by omega) (by omega) rfl rfl ?_
  show am_E _ (211, [vR y, vI 2, vI 1, vI 0, vI 0, vI 1, vU], [], aq_h m s F (aq_u c_4 (y + 13) 0 1)) _
  generalize hdc_5 : aq_u c_4 (y + 13) 0 1 = c_5
  have sc_5 := aq_smu sc_4 hdc_5 rfl
  have mtc_5 := mt_0 mtc_4 hdc_5
  refine am_E.go (t2 := (212, [vR y, vI 2, vI 1, vI 0, vI 0, vI 1, vU], [vR y], aq_h m s F c_5)) rfl rfl ?_
  refine aq_gf (v := vR (y + 18)) rfl (by omega) hFo (by decide) rfl ?_
  show am_E _ (215, [vR y, vI 2, vI 1, vI 0, vI 0, vI 1, vU], [vR (y + 18)], aq_h m s F c_5) _
  refine am_E.go (t2 := (217, [vR y, vI 2, vI 1, vI 0, vI 0, vI 1, vU], [vI 0, vR (y + 18)], aq_h m s F c_5)) rfl rfl ?_
  refine aq_al (ok := fun k => k == 0) (v := vI (c_5 (y + 18) 0)) rfl rfl (by omega) hG18 rfl (by decide) (by decide) rfl ?_
  rw [sc_5 (y + 18) (by omega), hA0]
  show am_E _ (218, [vR y, vI 2, vI 1, vI 0, vI 0, vI 1, vU], [vI 1], aq_h m s F c_5) _
  refine am_E.go (t2 := (220, [vR y, vI 2, vI 1, vI 0, vI 1, vI 1, vU], [], aq_h m s F c_5)) rfl rfl ?_
  refine am_E.go (t2 := (221, [vR y, vI 2, vI 1, vI 0, vI 1, vI 1, vU], [vR y], aq_h m s F c_5)) rfl rfl ?_
  refine aq_gf (v := vR (y + 13)) rfl (by omega) hFo (by decide) rfl ?_
  show am_E _ (224, [vR y, vI 2, vI 1, vI 0, vI 1, vI 1, vU], [vR (y + 13)], aq_h m s F c_5) _
  refine am_E.go (t2 := (226, [vR y, vI 2, vI 1, vI 0, vI 1, vI 1, vU], [vI 1, vR (y + 13)], aq_h m s F c_5)) rfl rfl ?_
  refine am_E.go (t2 := (227, [vR y, vI 2, vI 1, vI 0, vI 1, vI 1, vU], [vI 1, vI 1, vR (y + 13)], aq_h m s F c_5)) rfl rfl ?_
  refine aq_as (kd := 1) rfl rfl (by omega) hG13 (by omega) (by omega) rfl rfl ?_
  show am_E _ (228, [vR y, vI 2, vI 1, vI 0, vI 1, vI 1, vU], [], aq_h m s F (aq_u c_5 (y + 13) 1 1)) _
  generalize hdc_6 : aq_u c_5 (y + 13) 1 1 = c_6
  have sc_6 := aq_smu sc_5 hdc_6 rfl
  have mtc_6 := mt_1 mtc_5 hdc_6
  refine am_E.go (t2 := (229, [vR y, vI 2, vI 1, vI 0, vI 1, vI 1, vU], [vR y], aq_h m s F c_6)) rfl rfl ?_
  refine aq_gf (v := vR (y + 19)) rfl (by omega) hFo (by decide) rfl ?_
  show am_E _ (232, [vR y, vI 2, vI 1, vI 0, vI 1, vI 1, vU], [vR (y + 19)], aq_h m s F c_6) _
  refine am_E.go (t2 := (234, [vR y, vI 2, vI 1, vI 0, vI 1, vI 1, vU], [vI 1, vR (y + 19)], aq_h m s F c_6)) rfl rfl ?_
  refine aq_al (ok := fun k => k == 0) (v := vI (c_6 (y + 19) 1)) rfl rfl (by omega) hG19 rfl (by decide) (by decide) rfl ?_
  rw [sc_6 (y + 19) (by omega), hB1]
  show am_E _ (235, [vR y, vI 2, vI 1, vI 0, vI 1, vI 1, vU], [vI 0], aq_h m s F c_6) _
  refine am_E.go (t2 := (237, [vR y, vI 2, vI 1, vI 0, vI 0, vI 1, vU], [], aq_h m s F c_6)) rfl rfl ?_
  refine am_E.go (t2 := (239, [vR y, vI 2, vI 1, vI 0, vI 0, vI 1, vU], [vI 0], aq_h m s F c_6)) rfl rfl ?_
  refine am_E.go (t2 := (240, [vR y, vI 2, vI 1, vI 0, vI 0, vI 1, vU], [vI 0, vI 0], aq_h m s F c_6)) rfl rfl ?_
  refine am_E.go (t2 := (247, [vR y, vI 2, vI 1, vI 0, vI 0, vI 1, vU], [], aq_h m s F c_6)) rfl rfl ?_
  refine am_E.go (t2 := (248, [vR y, vI 2, vI 1, vI 0, vI 0, vI 1, vU], [vI 0], aq_h m s F c_6)) rfl rfl ?_
  refine am_E.go (t2 := (250, [vR y, vI 2, vI 1, vI 0, vI 0, vI 0, vU], [], aq_h m s F c_6)) rfl rfl ?_
  refine am_E.go (t2 := (198, [vR y, vI 2, vI 1, vI 0, vI 0, vI 0, vU], [], aq_h m s F c_6)) rfl rfl ?_
  refine am_E.go (t2 := (200, [vR y, vI 2, vI 1, vI 0, vI 0, vI 0, vU], [vI 0], aq_h m s F c_6)) rfl rfl ?_
  refine am_E.go (t2 := (253, [vR y, vI 2, vI 1, vI 0, vI 0, vI 0, vU], [], aq_h m s F c_6)) rfl rfl ?_
  refine am_E.go (t2 := (256, [vR y, vI 2, vI 1, vI 1, vI 0, vI 0, vU], [], aq_h m s F c_6)) rfl rfl ?_
  refine am_E.go (t2 := (175, [vR y, vI 2, vI 1, vI 1, vI 0, vI 0, vU], [], aq_h m s F c_6)) rfl rfl ?_
  refine am_E.go (t2 := (176, [vR y, vI 2, vI 1, vI 1, vI 0, vI 0, vU], [vI 1], aq_h m s F c_6)) rfl rfl ?_
  refine am_E.go (t2 := (177, [vR y, vI 2, vI 1, vI 1, vI 0, vI 0, vU], [vI 2, vI 1], aq_h m s F c_6)) rfl rfl ?_
  refine am_E.go (t2 := (180, [vR y, vI 2, vI 1, vI 1, vI 0, vI 0, vU], [], aq_h m s F c_6)) rfl rfl ?_
  refine am_E.go (t2 := (181, [vR y, vI 2, vI 1, vI 1, vI 0, vI 0, vU], [vR y], aq_h m s F c_6)) rfl rfl ?_
  refine aq_gf (v := vR (y + 13)) rfl (by omega) hFo (by decide) rfl ?_
  show am_E _ (184, [vR y, vI 2, vI 1, vI 1, vI 0, vI 0, vU], [vR (y + 13)], aq_h m s F c_6) _
  refine am_E.go (t2 := (185, [vR y, vI 2, vI 1, vI 1, vI 0, vI 0, vU], [vI 1, vR (y + 13)], aq_h m s F c_6)) rfl rfl ?_
  refine aq_al (ok := fun k => k == 1) (v := vI (c_6 (y + 13) 1)) rfl rfl (by omega) hG13 rfl (by decide) (by decide) rfl ?_
  rw [mtc_6.2.1]
  show am_E _ (186, [vR y, vI 2, vI 1, vI 1, vI 0, vI 0, vU], [vI 1], aq_h m s F c_6) _
  refine am_E.go (t2 := (253, [vR y, vI 2, vI 1, vI 1, vI 0, vI 0, vU], [], aq_h m s F c_6)) rfl rfl ?_
  refine am_E.go (t2 := (256, [vR y, vI 2, vI 1, vI 2, vI 0, vI 0, vU], [], aq_h m s F c_6)) rfl rfl ?_
  refine am_E.go (t2 := (175, [vR y, vI 2, vI 1, vI 2, vI 0, vI 0, vU], [], aq_h m s F c_6)) rfl rfl ?_
  refine am_E.go (t2 := (176, [vR y, vI 2, vI 1, vI 2, vI 0, vI 0, vU], [vI 2], aq_h m s F c_6)) rfl rfl ?_
  refine am_E.go (t2 := (177, [vR y, vI 2, vI 1, vI 2, vI 0, vI 0, vU], [vI 2, vI 2], aq_h m s F c_6)) rfl rfl ?_
  refine am_E.go (t2 := (259, [vR y, vI 2, vI 1, vI 2, vI 0, vI 0, vU], [], aq_h m s F c_6)) rfl rfl ?_
  refine am_E.go (t2 := (260, [vR y, vI 2, vI 1, vI 2, vI 0, vI 0, vU], [vI 1], aq_h m s F c_6)) rfl rfl ?_
  refine am_E.ret rfl rfl ?_
  exact ⟨_, rfl, sc_6, rfl⟩

theorem qm_fo_2200 {m s : Nat} {F : aq_F} {c : aq_C} {y : Nat} (hO : mo_0 m F y) (hA0 : c (y + 18) 0 = 2) (hA1 : c (y + 18) 1 = 2) (hB0 : c (y + 19) 0 = 2) (hB1 : c (y + 19) 1 = 2) : am_E ac_X5_formOf (0, [vR y, vI 2, vU, vU, vU, vU, vU], [], aq_h m s F c) (aq_Z m s F (fun a => a = y + 13) c (fun r _ => r = some (vI 0))) := by
  obtain ⟨hm, hFo, hG5, hG6, hG7, hG8, hG9, hG10, hG11, hG12, hG13, hG14, hG15, hG16, hG17, hG18, hG19, hG20, hG21, hG22, hG23⟩ := hO
  have hmt : mt_ y (c (y + 13) 0) (c (y + 13) 1) (c (y + 13) 2) (c (y + 13) 3) c := ⟨rfl, rfl, rfl, rfl⟩
  refine am_E.go (t2 := (1, [vR y, vI 2, vU, vU, vU, vU, vU], [vI 0], aq_h m s F c)) rfl rfl ?_
  refine am_E.go (t2 := (2, [vR y, vI 2, vI 0, vU, vU, vU, vU], [], aq_h m s F c)) rfl rfl ?_
  refine am_E.go (t2 := (3, [vR y, vI 2, vI 0, vU, vU, vU, vU], [vI 0], aq_h m s F c)) rfl rfl ?_
  refine am_E.go (t2 := (4, [vR y, vI 2, vI 0, vU, vU, vU, vU], [vI 4, vI 0], aq_h m s F c)) rfl rfl ?_
  refine am_E.go (t2 := (7, [vR y, vI 2, vI 0, vU, vU, vU, vU], [], aq_h m s F c)) rfl rfl ?_
  refine am_E.go (t2 := (8, [vR y, vI 2, vI 0, vU, vU, vU, vU], [vR y], aq_h m s F c)) rfl rfl ?_
  refine aq_gf (v := vR (y + 13)) rfl (by omega) hFo (by decide) rfl ?_
  show am_E _ (11, [vR y, vI 2, vI 0, vU, vU, vU, vU], [vR (y + 13)], aq_h m s F c) _
  refine am_E.go (t2 := (12, [vR y, vI 2, vI 0, vU, vU, vU, vU], [vI 0, vR (y + 13)], aq_h m s F c)) rfl rfl ?_
  refine am_E.go (t2 := (13, [vR y, vI 2, vI 0, vU, vU, vU, vU], [vI 0, vI 0, vR (y + 13)], aq_h m s F c)) rfl rfl ?_
  refine aq_as (kd := 1) rfl rfl (by omega) hG13 (by omega) (by omega) rfl rfl ?_
  show am_E _ (14, [vR y, vI 2, vI 0, vU, vU, vU, vU], [], aq_h m s F (aq_u c (y + 13) 0 0)) _
  generalize hdc_1 : aq_u c (y + 13) 0 0 = c_1
  have sc_1 := aq_smu (aq_sm0 (c := c) (S := fun a => a = y + 13)) hdc_1 rfl
  have mtc_1 := mt_0 hmt hdc_1
  refine am_E.go (t2 := (17, [vR y, vI 2, vI 1, vU, vU, vU, vU], [], aq_h m s F c_1)) rfl rfl ?_
  refine am_E.go (t2 := (2, [vR y, vI 2, vI 1, vU, vU, vU, vU], [], aq_h m s F c_1)) rfl rfl ?_
  refine am_E.go (t2 := (3, [vR y, vI 2, vI 1, vU, vU, vU, vU], [vI 1], aq_h m s F c_1)) rfl rfl ?_
  refine am_E.go (t2 := (4, [vR y, vI 2, vI 1, vU, vU, vU, vU], [vI 4, vI 1], aq_h m s F c_1)) rfl rfl ?_
  refine am_E.go (t2 := (7, [vR y, vI 2, vI 1, vU, vU, vU, vU], [], aq_h m s F c_1)) rfl rfl ?_
  refine am_E.go (t2 := (8, [vR y, vI 2, vI 1, vU, vU, vU, vU], [vR y], aq_h m s F c_1)) rfl rfl ?_
  refine aq_gf (v := vR (y + 13)) rfl (by omega) hFo (by decide) rfl ?_
  show am_E _ (11, [vR y, vI 2, vI 1, vU, vU, vU, vU], [vR (y + 13)], aq_h m s F c_1) _
  refine am_E.go (t2 := (12, [vR y, vI 2, vI 1, vU, vU, vU, vU], [vI 1, vR (y + 13)], aq_h m s F c_1)) rfl rfl ?_
  refine am_E.go (t2 := (13, [vR y, vI 2, vI 1, vU, vU, vU, vU], [vI 0, vI 1, vR (y + 13)], aq_h m s F c_1)) rfl rfl ?_
  refine aq_as (kd := 1) rfl rfl (by omega) hG13 (by omega) (by omega) rfl rfl ?_
  show am_E _ (14, [vR y, vI 2, vI 1, vU, vU, vU, vU], [], aq_h m s F (aq_u c_1 (y + 13) 1 0)) _
  generalize hdc_2 : aq_u c_1 (y + 13) 1 0 = c_2
  have sc_2 := aq_smu sc_1 hdc_2 rfl
  have mtc_2 := mt_1 mtc_1 hdc_2
  refine am_E.go (t2 := (17, [vR y, vI 2, vI 2, vU, vU, vU, vU], [], aq_h m s F c_2)) rfl rfl ?_
  refine am_E.go (t2 := (2, [vR y, vI 2, vI 2, vU, vU, vU, vU], [], aq_h m s F c_2)) rfl rfl ?_
  refine am_E.go (t2 := (3, [vR y, vI 2, vI 2, vU, vU, vU, vU], [vI 2], aq_h m s F c_2)) rfl rfl ?_
  refine am_E.go (t2 := (4, [vR y, vI 2, vI 2, vU, vU, vU, vU], [vI 4, vI 2], aq_h m s F c_2)) rfl rfl ?_
  refine am_E.go (t2 := (7, [vR y, vI 2, vI 2, vU, vU, vU, vU], [], aq_h m s F c_2)) rfl rfl ?_
  refine am_E.go (t2 := (8, [vR y, vI 2, vI 2, vU, vU, vU, vU], [vR y], aq_h m s F c_2)) rfl rfl ?_
  refine aq_gf (v := vR (y + 13)) rfl (by omega) hFo (by decide) rfl ?_
  show am_E _ (11, [vR y, vI 2, vI 2, vU, vU, vU, vU], [vR (y + 13)], aq_h m s F c_2) _
  refine am_E.go (t2 := (12, [vR y, vI 2, vI 2, vU, vU, vU, vU], [vI 2, vR (y + 13)], aq_h m s F c_2)) rfl rfl ?_
  refine am_E.go (t2 := (13, [vR y, vI 2, vI 2, vU, vU, vU, vU], [vI 0, vI 2, vR (y + 13)], aq_h m s F c_2)) rfl rfl ?_
  refine aq_as (kd := 1) rfl rfl (by omega) hG13 (by omega) (by omega) rfl rfl ?_
  show am_E _ (14, [vR y, vI 2, vI 2, vU, vU, vU, vU], [], aq_h m s F (aq_u c_2 (y + 13) 2 0)) _
  generalize hdc_3 : aq_u c_2 (y + 13) 2 0 = c_3
  have sc_3 := aq_smu sc_2 hdc_3 rfl
  have mtc_3 := mt_2 mtc_2 hdc_3
  refine am_E.go (t2 := (17, [vR y, vI 2, vI 3, vU, vU, vU, vU], [], aq_h m s F c_3)) rfl rfl ?_
  refine am_E.go (t2 := (2, [vR y, vI 2, vI 3, vU, vU, vU, vU], [], aq_h m s F c_3)) rfl rfl ?_
  refine am_E.go (t2 := (3, [vR y, vI 2, vI 3, vU, vU, vU, vU], [vI 3], aq_h m s F c_3)) rfl rfl ?_
  refine am_E.go (t2 := (4, [vR y, vI 2, vI 3, vU, vU, vU, vU], [vI 4, vI 3], aq_h m s F c_3)) rfl rfl ?_
  refine am_E.go (t2 := (7, [vR y, vI 2, vI 3, vU, vU, vU, vU], [], aq_h m s F c_3)) rfl rfl ?_
  refine am_E.go (t2 := (8, [vR y, vI 2, vI 3, vU, vU, vU, vU], [vR y], aq_h m s F c_3)) rfl rfl ?_
  refine aq_gf (v := vR (y + 13)) rfl (by omega) hFo (by decide) rfl ?_
  show am_E _ (11, [vR y, vI 2, vI 3, vU, vU, vU, vU], [vR (y + 13)], aq_h m s F c_3) _
  refine am_E.go (t2 := (12, [vR y, vI 2, vI 3, vU, vU, vU, vU], [vI 3, vR (y + 13)], aq_h m s F c_3)) rfl rfl ?_
  refine am_E.go (t2 := (13, [vR y, vI 2, vI 3, vU, vU, vU, vU], [vI 0, vI 3, vR (y + 13)], aq_h m s F c_3)) rfl rfl ?_
  refine aq_as (kd := 1) rfl rfl (by omega) hG13 (by omega) (by omega) rfl rfl ?_
  show am_E _ (14, [vR y, vI 2, vI 3, vU, vU, vU, vU], [], aq_h m s F (aq_u c_3 (y + 13) 3 0)) _
  generalize hdc_4 : aq_u c_3 (y + 13) 3 0 = c_4
  have sc_4 := aq_smu sc_3 hdc_4 rfl
  have mtc_4 := mt_3 mtc_3 hdc_4
  refine am_E.go (t2 := (17, [vR y, vI 2, vI 4, vU, vU, vU, vU], [], aq_h m s F c_4)) rfl rfl ?_
  refine am_E.go (t2 := (2, [vR y, vI 2, vI 4, vU, vU, vU, vU], [], aq_h m s F c_4)) rfl rfl ?_
  refine am_E.go (t2 := (3, [vR y, vI 2, vI 4, vU, vU, vU, vU], [vI 4], aq_h m s F c_4)) rfl rfl ?_
  refine am_E.go (t2 := (4, [vR y, vI 2, vI 4, vU, vU, vU, vU], [vI 4, vI 4], aq_h m s F c_4)) rfl rfl ?_
  refine am_E.go (t2 := (20, [vR y, vI 2, vI 4, vU, vU, vU, vU], [], aq_h m s F c_4)) rfl rfl ?_
  refine am_E.go (t2 := (21, [vR y, vI 2, vI 4, vU, vU, vU, vU], [vI 0], aq_h m s F c_4)) rfl rfl ?_
  refine am_E.go (t2 := (22, [vR y, vI 2, vI 0, vU, vU, vU, vU], [], aq_h m s F c_4)) rfl rfl ?_
  refine am_E.go (t2 := (23, [vR y, vI 2, vI 0, vU, vU, vU, vU], [vI 0], aq_h m s F c_4)) rfl rfl ?_
  refine am_E.go (t2 := (24, [vR y, vI 2, vI 0, vU, vU, vU, vU], [vI 2, vI 0], aq_h m s F c_4)) rfl rfl ?_
  refine am_E.go (t2 := (27, [vR y, vI 2, vI 0, vU, vU, vU, vU], [], aq_h m s F c_4)) rfl rfl ?_
  refine am_E.go (t2 := (28, [vR y, vI 2, vI 0, vU, vU, vU, vU], [vR y], aq_h m s F c_4)) rfl rfl ?_
  refine aq_gf (v := vR (y + 18)) rfl (by omega) hFo (by decide) rfl ?_
  show am_E _ (31, [vR y, vI 2, vI 0, vU, vU, vU, vU], [vR (y + 18)], aq_h m s F c_4) _
  refine am_E.go (t2 := (32, [vR y, vI 2, vI 0, vU, vU, vU, vU], [vI 0, vR (y + 18)], aq_h m s F c_4)) rfl rfl ?_
  refine aq_al (ok := fun k => k == 0) (v := vI (c_4 (y + 18) 0)) rfl rfl (by omega) hG18 rfl (by decide) (by decide) rfl ?_
  rw [sc_4 (y + 18) (by omega), hA0]
  show am_E _ (33, [vR y, vI 2, vI 0, vU, vU, vU, vU], [vI 2], aq_h m s F c_4) _
  refine am_E.go (t2 := (34, [vR y, vI 2, vI 0, vU, vU, vU, vU], [vI 2, vI 2], aq_h m s F c_4)) rfl rfl ?_
  refine am_E.go (t2 := (37, [vR y, vI 2, vI 0, vU, vU, vU, vU], [], aq_h m s F c_4)) rfl rfl ?_
  refine am_E.go (t2 := (38, [vR y, vI 2, vI 0, vU, vU, vU, vU], [vI 0], aq_h m s F c_4)) rfl rfl ?_
  refine am_E.go (t2 := (39, [vR y, vI 2, vI 0, vI 0, vU, vU, vU], [], aq_h m s F c_4)) rfl rfl ?_
  refine am_E.go (t2 := (40, [vR y, vI 2, vI 0, vI 0, vU, vU, vU], [vI 1], aq_h m s F c_4)) rfl rfl ?_
  refine am_E.go (t2 := (42, [vR y, vI 2, vI 0, vI 0, vI 1, vU, vU], [], aq_h m s F c_4)) rfl rfl ?_
  refine am_E.go (t2 := (43, [vR y, vI 2, vI 0, vI 0, vI 1, vU, vU], [vI 1], aq_h m s F c_4)) rfl rfl ?_
  refine am_E.go (t2 := (45, [vR y, vI 2, vI 0, vI 0, vI 1, vI 1, vU], [], aq_h m s F c_4)) rfl rfl ?_
  refine am_E.go (t2 := (47, [vR y, vI 2, vI 0, vI 0, vI 1, vI 1, vU], [vI 1], aq_h m s F c_4)) rfl rfl ?_
  refine am_E.go (t2 := (50, [vR y, vI 2, vI 0, vI 0, vI 1, vI 1, vU], [], aq_h m s F c_4)) rfl rfl ?_
  refine am_E.go (t2 := (51, [vR y, vI 2, vI 0, vI 0, vI 1, vI 1, vU], [vR y], aq_h m s F c_4)) rfl rfl ?_
  refine aq_gf (v := vR (y + 13)) rfl (by omega) hFo (by decide) rfl ?_
  show am_E _ (54, [vR y, vI 2, vI 0, vI 0, vI 1, vI 1, vU], [vR (y + 13)], aq_h m s F c_4) _
  refine am_E.go (t2 := (55, [vR y, vI 2, vI 0, vI 0, vI 1, vI 1, vU], [vI 0, vR (y + 13)], aq_h m s F c_4)) rfl rfl ?_
  refine am_E.go (t2 := (56, [vR y, vI 2, vI 0, vI 0, vI 1, vI 1, vU], [vI 1, vI 0, vR (y + 13)], aq_h m s F c_4)) rfl rfl ?_
  refine aq_as (kd := 1) rfl rfl (by omega) hG13 (by omega) (by omega) rfl rfl ?_
  show am_E _ (57, [vR y, vI 2, vI 0, vI 0, vI 1, vI 1, vU], [], aq_h m s F (aq_u c_4 (y + 13) 0 1)) _
  generalize hdc_5 : aq_u c_4 (y + 13) 0 1 = c_5
  have sc_5 := aq_smu sc_4 hdc_5 rfl
  have mtc_5 := mt_0 mtc_4 hdc_5
  refine am_E.go (t2 := (59, [vR y, vI 2, vI 0, vI 0, vI 1, vI 1, vU], [vI 1], aq_h m s F c_5)) rfl rfl ?_
  refine am_E.go (t2 := (62, [vR y, vI 2, vI 0, vI 0, vI 1, vI 1, vU], [], aq_h m s F c_5)) rfl rfl ?_
  refine am_E.go (t2 := (63, [vR y, vI 2, vI 0, vI 0, vI 1, vI 1, vU], [vR y], aq_h m s F c_5)) rfl rfl ?_
  refine aq_gf (v := vR (y + 19)) rfl (by omega) hFo (by decide) rfl ?_
  show am_E _ (66, [vR y, vI 2, vI 0, vI 0, vI 1, vI 1, vU], [vR (y + 19)], aq_h m s F c_5) _
  refine am_E.go (t2 := (67, [vR y, vI 2, vI 0, vI 0, vI 1, vI 1, vU], [vI 0, vR (y + 19)], aq_h m s F c_5)) rfl rfl ?_
  refine aq_al (ok := fun k => k == 0) (v := vI (c_5 (y + 19) 0)) rfl rfl (by omega) hG19 rfl (by decide) (by decide) rfl ?_
  rw [sc_5 (y + 19) (by omega), hB0]
  show am_E _ (68, [vR y, vI 2, vI 0, vI 0, vI 1, vI 1, vU], [vI 2], aq_h m s F c_5) _
  refine am_E.go (t2 := (77, [vR y, vI 2, vI 0, vI 0, vI 1, vI 1, vU], [vI 2], aq_h m s F c_5)) rfl rfl ?_
  refine am_E.go (t2 := (79, [vR y, vI 2, vI 0, vI 0, vI 1, vI 1, vI 2], [], aq_h m s F c_5)) rfl rfl ?_
  refine am_E.go (t2 := (81, [vR y, vI 2, vI 0, vI 0, vI 1, vI 1, vI 2], [vI 2], aq_h m s F c_5)) rfl rfl ?_
  refine am_E.go (t2 := (82, [vR y, vI 2, vI 0, vI 0, vI 1, vI 1, vI 2], [vI 2, vI 2], aq_h m s F c_5)) rfl rfl ?_
  refine am_E.go (t2 := (89, [vR y, vI 2, vI 0, vI 0, vI 1, vI 1, vI 2], [], aq_h m s F c_5)) rfl rfl ?_
  refine am_E.go (t2 := (90, [vR y, vI 2, vI 0, vI 0, vI 1, vI 1, vI 2], [vI 0], aq_h m s F c_5)) rfl rfl ?_
  refine am_E.go (t2 := (92, [vR y, vI 2, vI 0, vI 0, vI 1, vI 0, vI 2], [], aq_h m s F c_5)) rfl rfl ?_
  refine am_E.go (t2 := (94, [vR y, vI 2, vI 0, vI 0, vI 1, vI 0, vI 2], [vI 0], aq_h m s F c_5)) rfl rfl ?_
  refine am_E.go (t2 := (112, [vR y, vI 2, vI 0, vI 0, vI 1, vI 0, vI 2], [], aq_h m s F c_5)) rfl rfl ?_
  refine am_E.go (t2 := (45, [vR y, vI 2, vI 0, vI 0, vI 1, vI 0, vI 2], [], aq_h m s F c_5)) rfl rfl ?_
  refine am_E.go (t2 := (47, [vR y, vI 2, vI 0, vI 0, vI 1, vI 0, vI 2], [vI 0], aq_h m s F c_5)) rfl rfl ?_
  refine am_E.go (t2 := (115, [vR y, vI 2, vI 0, vI 0, vI 1, vI 0, vI 2], [], aq_h m s F c_5)) rfl rfl ?_
  refine am_E.go (t2 := (116, [vR y, vI 2, vI 0, vI 0, vI 1, vI 0, vI 2], [vR y], aq_h m s F c_5)) rfl rfl ?_
  refine aq_gf (v := vR (y + 13)) rfl (by omega) hFo (by decide) rfl ?_
  show am_E _ (119, [vR y, vI 2, vI 0, vI 0, vI 1, vI 0, vI 2], [vR (y + 13)], aq_h m s F c_5) _
  refine am_E.go (t2 := (120, [vR y, vI 2, vI 0, vI 0, vI 1, vI 0, vI 2], [vI 0, vR (y + 13)], aq_h m s F c_5)) rfl rfl ?_
  refine am_E.go (t2 := (121, [vR y, vI 2, vI 0, vI 0, vI 1, vI 0, vI 2], [vI 1, vI 0, vR (y + 13)], aq_h m s F c_5)) rfl rfl ?_
  refine aq_as (kd := 1) rfl rfl (by omega) hG13 (by omega) (by omega) rfl rfl ?_
  show am_E _ (122, [vR y, vI 2, vI 0, vI 0, vI 1, vI 0, vI 2], [], aq_h m s F (aq_u c_5 (y + 13) 0 1)) _
  generalize hdc_6 : aq_u c_5 (y + 13) 0 1 = c_6
  have sc_6 := aq_smu sc_5 hdc_6 rfl
  have mtc_6 := mt_0 mtc_5 hdc_6
  refine am_E.go (t2 := (124, [vR y, vI 2, vI 0, vI 0, vI 1, vI 0, vI 2], [vI 1], aq_h m s F c_6)) rfl rfl ?_
  refine am_E.go (t2 := (130, [vR y, vI 2, vI 0, vI 0, vI 1, vI 0, vI 2], [], aq_h m s F c_6)) rfl rfl ?_
  refine am_E.go (t2 := (133, [vR y, vI 2, vI 1, vI 0, vI 1, vI 0, vI 2], [], aq_h m s F c_6)) rfl rfl ?_
  refine am_E.go (t2 := (22, [vR y, vI 2, vI 1, vI 0, vI 1, vI 0, vI 2], [], aq_h m s F c_6)) rfl rfl ?_
  refine am_E.go (t2 := (23, [vR y, vI 2, vI 1, vI 0, vI 1, vI 0, vI 2], [vI 1], aq_h m s F c_6)) rfl rfl ?_
  refine am_E.go (t2 := (24, [vR y, vI 2, vI 1, vI 0, vI 1, vI 0, vI 2], [vI 2, vI 1], aq_h m s F c_6)) rfl rfl ?_
  refine am_E.go (t2 := (27, [vR y, vI 2, vI 1, vI 0, vI 1, vI 0, vI 2], [], aq_h m s F c_6)) rfl rfl ?_
  refine am_E.go (t2 := (28, [vR y, vI 2, vI 1, vI 0, vI 1, vI 0, vI 2], [vR y], aq_h m s F c_6)) rfl rfl ?_
  refine aq_gf (v := vR (y + 18)) rfl (by omega) hFo (by decide) rfl ?_
  show am_E _ (31, [vR y, vI 2, vI 1, vI 0, vI 1, vI 0, vI 2], [vR (y + 18)], aq_h m s F c_6) _
  refine am_E.go (t2 := (32, [vR y, vI 2, vI 1, vI 0, vI 1, vI 0, vI 2], [vI 1, vR (y + 18)], aq_h m s F c_6)) rfl rfl ?_
  refine aq_al (ok := fun k => k == 0) (v := vI (c_6 (y + 18) 1)) rfl rfl (by omega) hG18 rfl (by decide) (by decide) rfl ?_
  rw [sc_6 (y + 18) (by omega), hA1]
  show am_E _ (33, [vR y, vI 2, vI 1, vI 0, vI 1, vI 0, vI 2], [vI 2], aq_h m s F c_6) _
  refine am_E.go (t2 := (34, [vR y, vI 2, vI 1, vI 0, vI 1, vI 0, vI 2], [vI 2, vI 2], aq_h m s F c_6)) rfl rfl ?_
  refine am_E.go (t2 := (37, [vR y, vI 2, vI 1, vI 0, vI 1, vI 0, vI 2], [], aq_h m s F c_6)) rfl rfl ?_
  refine am_E.go (t2 := (38, [vR y, vI 2, vI 1, vI 0, vI 1, vI 0, vI 2], [vI 1], aq_h m s F c_6)) rfl rfl ?_
  refine am_E.go (t2 := (39, [vR y, vI 2, vI 1, vI 1, vI 1, vI 0, vI 2], [], aq_h m s F c_6)) rfl rfl ?_
  refine am_E.go (t2 := (40, [vR y, vI 2, vI 1, vI 1, vI 1, vI 0, vI 2], [vI 1], aq_h m s F c_6)) rfl rfl ?_
  refine am_E.go (t2 := (42, [vR y, vI 2, vI 1, vI 1, vI 1, vI 0, vI 2], [], aq_h m s F c_6)) rfl rfl ?_
  refine am_E.go (t2 := (43, [vR y, vI 2, vI 1, vI 1, vI 1, vI 0, vI 2], [vI 1], aq_h m s F c_6)) rfl rfl ?_
  refine am_E.go (t2 := (45, [vR y, vI 2, vI 1, vI 1, vI 1, vI 1, vI 2], [], aq_h m s F c_6)) rfl rfl ?_
  refine am_E.go (t2 := (47, [vR y, vI 2, vI 1, vI 1, vI 1, vI 1, vI 2], [vI 1], aq_h m s F c_6)) rfl rfl ?_
  refine am_E.go (t2 := (50, [vR y, vI 2, vI 1, vI 1, vI 1, vI 1, vI 2], [], aq_h m s F c_6)) rfl rfl ?_
  refine am_E.go (t2 := (51, [vR y, vI 2, vI 1, vI 1, vI 1, vI 1, vI 2], [vR y], aq_h m s F c_6)) rfl rfl ?_
  refine aq_gf (v := vR (y + 13)) rfl (by omega) hFo (by decide) rfl ?_
  show am_E _ (54, [vR y, vI 2, vI 1, vI 1, vI 1, vI 1, vI 2], [vR (y + 13)], aq_h m s F c_6) _
  refine am_E.go (t2 := (55, [vR y, vI 2, vI 1, vI 1, vI 1, vI 1, vI 2], [vI 1, vR (y + 13)], aq_h m s F c_6)) rfl rfl ?_
  refine am_E.go (t2 := (56, [vR y, vI 2, vI 1, vI 1, vI 1, vI 1, vI 2], [vI 1, vI 1, vR (y + 13)], aq_h m s F c_6)) rfl rfl ?_
  refine aq_as (kd := 1) rfl rfl (by omega) hG13 (by omega) (by omega) rfl rfl ?_
  show am_E _ (57, [vR y, vI 2, vI 1, vI 1, vI 1, vI 1, vI 2], [], aq_h m s F (aq_u c_6 (y + 13) 1 1)) _
  generalize hdc_7 : aq_u c_6 (y + 13) 1 1 = c_7
  have sc_7 := aq_smu sc_6 hdc_7 rfl
  have mtc_7 := mt_1 mtc_6 hdc_7
  refine am_E.go (t2 := (59, [vR y, vI 2, vI 1, vI 1, vI 1, vI 1, vI 2], [vI 1], aq_h m s F c_7)) rfl rfl ?_
  refine am_E.go (t2 := (62, [vR y, vI 2, vI 1, vI 1, vI 1, vI 1, vI 2], [], aq_h m s F c_7)) rfl rfl ?_
  refine am_E.go (t2 := (63, [vR y, vI 2, vI 1, vI 1, vI 1, vI 1, vI 2], [vR y], aq_h m s F c_7)) rfl rfl ?_
  refine aq_gf (v := vR (y + 19)) rfl (by omega) hFo (by decide) rfl ?_
  show am_E _ (66, [vR y, vI 2, vI 1, vI 1, vI 1, vI 1, vI 2], [vR (y + 19)], aq_h m s F c_7) _
  refine am_E.go (t2 := (67, [vR y, vI 2, vI 1, vI 1, vI 1, vI 1, vI 2], [vI 1, vR (y + 19)], aq_h m s F c_7)) rfl rfl ?_
  refine aq_al (ok := fun k => k == 0) (v := vI (c_7 (y + 19) 1)) rfl rfl (by omega) hG19 rfl (by decide) (by decide) rfl ?_
  rw [sc_7 (y + 19) (by omega), hB1]
  show am_E _ (68, [vR y, vI 2, vI 1, vI 1, vI 1, vI 1, vI 2], [vI 2], aq_h m s F c_7) _
  refine am_E.go (t2 := (77, [vR y, vI 2, vI 1, vI 1, vI 1, vI 1, vI 2], [vI 2], aq_h m s F c_7)) rfl rfl ?_
  refine am_E.go (t2 := (79, [vR y, vI 2, vI 1, vI 1, vI 1, vI 1, vI 2], [], aq_h m s F c_7)) rfl rfl ?_
  refine am_E.go (t2 := (81, [vR y, vI 2, vI 1, vI 1, vI 1, vI 1, vI 2], [vI 2], aq_h m s F c_7)) rfl rfl ?_
  refine am_E.go (t2 := (82, [vR y, vI 2, vI 1, vI 1, vI 1, vI 1, vI 2], [vI 2, vI 2], aq_h m s F c_7)) rfl rfl ?_
  refine am_E.go (t2 := (89, [vR y, vI 2, vI 1, vI 1, vI 1, vI 1, vI 2], [], aq_h m s F c_7)) rfl rfl ?_
  refine am_E.go (t2 := (90, [vR y, vI 2, vI 1, vI 1, vI 1, vI 1, vI 2], [vI 0], aq_h m s F c_7)) rfl rfl ?_
  refine am_E.go (t2 := (92, [vR y, vI 2, vI 1, vI 1, vI 1, vI 0, vI 2], [], aq_h m s F c_7)) rfl rfl ?_
  refine am_E.go (t2 := (94, [vR y, vI 2, vI 1, vI 1, vI 1, vI 0, vI 2], [vI 0], aq_h m s F c_7)) rfl rfl ?_
  refine am_E.go (t2 := (112, [vR y, vI 2, vI 1, vI 1, vI 1, vI 0, vI 2], [], aq_h m s F c_7)) rfl rfl ?_
  refine am_E.go (t2 := (45, [vR y, vI 2, vI 1, vI 1, vI 1, vI 0, vI 2], [], aq_h m s F c_7)) rfl rfl ?_
  refine am_E.go (t2 := (47, [vR y, vI 2, vI 1, vI 1, vI 1, vI 0, vI 2], [vI 0], aq_h m s F c_7)) rfl rfl ?_
  refine am_E.go (t2 := (115, [vR y, vI 2, vI 1, vI 1, vI 1, vI 0, vI 2], [], aq_h m s F c_7)) rfl rfl ?_
  refine am_E.go (t2 := (116, [vR y, vI 2, vI 1, vI 1, vI 1, vI 0, vI 2], [vR y], aq_h m s F c_7)) rfl rfl ?_
  refine aq_gf (v := vR (y + 13)) rfl (by omega) hFo (by decide) rfl ?_
  show am_E _ (119, [vR y, vI 2, vI 1, vI 1, vI 1, vI 0, vI 2], [vR (y + 13)], aq_h m s F c_7) _
  refine am_E.go (t2 := (120, [vR y, vI 2, vI 1, vI 1, vI 1, vI 0, vI 2], [vI 1, vR (y + 13)], aq_h m s F c_7)) rfl rfl ?_
  refine am_E.go (t2 := (121, [vR y, vI 2, vI 1, vI 1, vI 1, vI 0, vI 2], [vI 1, vI 1, vR (y + 13)], aq_h m s F c_7)) rfl rfl ?_
  refine aq_as (kd := 1) rfl rfl (by omega) hG13 (by omega) (by omega) rfl rfl ?_
  show am_E _ (122, [vR y, vI 2, vI 1, vI 1, vI 1, vI 0, vI 2], [], aq_h m s F (aq_u c_7 (y + 13) 1 1)) _
  generalize hdc_8 : aq_u c_7 (y + 13) 1 1 = c_8
  have sc_8 := aq_smu sc_7 hdc_8 rfl
  have mtc_8 := mt_1 mtc_7 hdc_8
  refine am_E.go (t2 := (124, [vR y, vI 2, vI 1, vI 1, vI 1, vI 0, vI 2], [vI 1], aq_h m s F c_8)) rfl rfl ?_
  refine am_E.go (t2 := (130, [vR y, vI 2, vI 1, vI 1, vI 1, vI 0, vI 2], [], aq_h m s F c_8)) rfl rfl ?_
  refine am_E.go (t2 := (133, [vR y, vI 2, vI 2, vI 1, vI 1, vI 0, vI 2], [], aq_h m s F c_8)) rfl rfl ?_
  refine am_E.go (t2 := (22, [vR y, vI 2, vI 2, vI 1, vI 1, vI 0, vI 2], [], aq_h m s F c_8)) rfl rfl ?_
  refine am_E.go (t2 := (23, [vR y, vI 2, vI 2, vI 1, vI 1, vI 0, vI 2], [vI 2], aq_h m s F c_8)) rfl rfl ?_
  refine am_E.go (t2 := (24, [vR y, vI 2, vI 2, vI 1, vI 1, vI 0, vI 2], [vI 2, vI 2], aq_h m s F c_8)) rfl rfl ?_
  refine am_E.go (t2 := (136, [vR y, vI 2, vI 2, vI 1, vI 1, vI 0, vI 2], [], aq_h m s F c_8)) rfl rfl ?_
  refine am_E.go (t2 := (137, [vR y, vI 2, vI 2, vI 1, vI 1, vI 0, vI 2], [vI 0], aq_h m s F c_8)) rfl rfl ?_
  refine am_E.go (t2 := (138, [vR y, vI 2, vI 0, vI 1, vI 1, vI 0, vI 2], [], aq_h m s F c_8)) rfl rfl ?_
  refine am_E.go (t2 := (139, [vR y, vI 2, vI 0, vI 1, vI 1, vI 0, vI 2], [vI 0], aq_h m s F c_8)) rfl rfl ?_
  refine am_E.go (t2 := (140, [vR y, vI 2, vI 0, vI 1, vI 1, vI 0, vI 2], [vI 2, vI 0], aq_h m s F c_8)) rfl rfl ?_
  refine am_E.go (t2 := (143, [vR y, vI 2, vI 0, vI 1, vI 1, vI 0, vI 2], [], aq_h m s F c_8)) rfl rfl ?_
  refine am_E.go (t2 := (144, [vR y, vI 2, vI 0, vI 1, vI 1, vI 0, vI 2], [vR y], aq_h m s F c_8)) rfl rfl ?_
  refine aq_gf (v := vR (y + 13)) rfl (by omega) hFo (by decide) rfl ?_
  show am_E _ (147, [vR y, vI 2, vI 0, vI 1, vI 1, vI 0, vI 2], [vR (y + 13)], aq_h m s F c_8) _
  refine am_E.go (t2 := (148, [vR y, vI 2, vI 0, vI 1, vI 1, vI 0, vI 2], [vI 0, vR (y + 13)], aq_h m s F c_8)) rfl rfl ?_
  refine aq_al (ok := fun k => k == 1) (v := vI (c_8 (y + 13) 0)) rfl rfl (by omega) hG13 rfl (by decide) (by decide) rfl ?_
  rw [mtc_8.1]
  show am_E _ (149, [vR y, vI 2, vI 0, vI 1, vI 1, vI 0, vI 2], [vI 1], aq_h m s F c_8) _
  refine am_E.go (t2 := (165, [vR y, vI 2, vI 0, vI 1, vI 1, vI 0, vI 2], [], aq_h m s F c_8)) rfl rfl ?_
  refine am_E.go (t2 := (168, [vR y, vI 2, vI 1, vI 1, vI 1, vI 0, vI 2], [], aq_h m s F c_8)) rfl rfl ?_
  refine am_E.go (t2 := (138, [vR y, vI 2, vI 1, vI 1, vI 1, vI 0, vI 2], [], aq_h m s F c_8)) rfl rfl ?_
  refine am_E.go (t2 := (139, [vR y, vI 2, vI 1, vI 1, vI 1, vI 0, vI 2], [vI 1], aq_h m s F c_8)) rfl rfl ?_
  refine am_E.go (t2 := (140, [vR y, vI 2, vI 1, vI 1, vI 1, vI 0, vI 2], [vI 2, vI 1], aq_h m s F c_8)) rfl rfl ?_
  refine am_E.go (t2 := (143, [vR y, vI 2, vI 1, vI 1, vI 1, vI 0, vI 2], [], aq_h m s F c_8)) rfl rfl ?_
  refine am_E.go (t2 := (144, [vR y, vI 2, vI 1, vI 1, vI 1, vI 0, vI 2], [vR y], aq_h m s F c_8)) rfl rfl ?_
  refine aq_gf (v := vR (y + 13)) rfl (by omega) hFo (by decide) rfl ?_
  show am_E _ (147, [vR y, vI 2, vI 1, vI 1, vI 1, vI 0, vI 2], [vR (y + 13)], aq_h m s F c_8) _
  refine am_E.go (t2 := (148, [vR y, vI 2, vI 1, vI 1, vI 1, vI 0, vI 2], [vI 1, vR (y + 13)], aq_h m s F c_8)) rfl rfl ?_
  refine aq_al (ok := fun k => k == 1) (v := vI (c_8 (y + 13) 1)) rfl rfl (by omega) hG13 rfl (by decide) (by decide) rfl ?_
  rw [mtc_8.2.1]
  show am_E _ (149, [vR y, vI 2, vI 1, vI 1, vI 1, vI 0, vI 2], [vI 1], aq_h m s F c_8) _
  refine am_E.go (t2 := (165, [vR y, vI 2, vI 1, vI 1, vI 1, vI 0, vI 2], [], aq_h m s F c_8)) rfl rfl ?_
  refine am_E.go (t2 := (168, [vR y, vI 2, vI 2, vI 1, vI 1, vI 0, vI 2], [], aq_h m s F c_8)) rfl rfl ?_
  refine am_E.go (t2 := (138, [vR y, vI 2, vI 2, vI 1, vI 1, vI 0, vI 2], [], aq_h m s F c_8)) rfl rfl ?_
  refine am_E.go (t2 := (139, [vR y, vI 2, vI 2, vI 1, vI 1, vI 0, vI 2], [vI 2], aq_h m s F c_8)) rfl rfl ?_
  refine am_E.go (t2 := (140, [vR y, vI 2, vI 2, vI 1, vI 1, vI 0, vI 2], [vI 2, vI 2], aq_h m s F c_8)) rfl rfl ?_
  refine am_E.go (t2 := (171, [vR y, vI 2, vI 2, vI 1, vI 1, vI 0, vI 2], [], aq_h m s F c_8)) rfl rfl ?_
  refine am_E.go (t2 := (172, [vR y, vI 2, vI 2, vI 1, vI 1, vI 0, vI 2], [vI 0], aq_h m s F c_8)) rfl rfl ?_
  refine am_E.go (t2 := (173, [vR y, vI 2, vI 0, vI 1, vI 1, vI 0, vI 2], [], aq_h m s F c_8)) rfl rfl ?_
  refine am_E.go (t2 := (174, [vR y, vI 2, vI 0, vI 1, vI 1, vI 0, vI 2], [vI 0], aq_h m s F c_8)) rfl rfl ?_
  refine am_E.go (t2 := (175, [vR y, vI 2, vI 0, vI 0, vI 1, vI 0, vI 2], [], aq_h m s F c_8)) rfl rfl ?_
  refine am_E.go (t2 := (176, [vR y, vI 2, vI 0, vI 0, vI 1, vI 0, vI 2], [vI 0], aq_h m s F c_8)) rfl rfl ?_
  refine am_E.go (t2 := (177, [vR y, vI 2, vI 0, vI 0, vI 1, vI 0, vI 2], [vI 2, vI 0], aq_h m s F c_8)) rfl rfl ?_
  refine am_E.go (t2 := (180, [vR y, vI 2, vI 0, vI 0, vI 1, vI 0, vI 2], [], aq_h m s F c_8)) rfl rfl ?_
  refine am_E.go (t2 := (181, [vR y, vI 2, vI 0, vI 0, vI 1, vI 0, vI 2], [vR y], aq_h m s F c_8)) rfl rfl ?_
  refine aq_gf (v := vR (y + 13)) rfl (by omega) hFo (by decide) rfl ?_
  show am_E _ (184, [vR y, vI 2, vI 0, vI 0, vI 1, vI 0, vI 2], [vR (y + 13)], aq_h m s F c_8) _
  refine am_E.go (t2 := (185, [vR y, vI 2, vI 0, vI 0, vI 1, vI 0, vI 2], [vI 0, vR (y + 13)], aq_h m s F c_8)) rfl rfl ?_
  refine aq_al (ok := fun k => k == 1) (v := vI (c_8 (y + 13) 0)) rfl rfl (by omega) hG13 rfl (by decide) (by decide) rfl ?_
  rw [mtc_8.1]
  show am_E _ (186, [vR y, vI 2, vI 0, vI 0, vI 1, vI 0, vI 2], [vI 1], aq_h m s F c_8) _
  refine am_E.go (t2 := (253, [vR y, vI 2, vI 0, vI 0, vI 1, vI 0, vI 2], [], aq_h m s F c_8)) rfl rfl ?_
  refine am_E.go (t2 := (256, [vR y, vI 2, vI 0, vI 1, vI 1, vI 0, vI 2], [], aq_h m s F c_8)) rfl rfl ?_
  refine am_E.go (t2 := (175, [vR y, vI 2, vI 0, vI 1, vI 1, vI 0, vI 2], [], aq_h m s F c_8)) rfl rfl ?_
  refine am_E.go (t2 := (176, [vR y, vI 2, vI 0, vI 1, vI 1, vI 0, vI 2], [vI 1], aq_h m s F c_8)) rfl rfl ?_
  refine am_E.go (t2 := (177, [vR y, vI 2, vI 0, vI 1, vI 1, vI 0, vI 2], [vI 2, vI 1], aq_h m s F c_8)) rfl rfl ?_
  refine am_E.go (t2 := (180, [vR y, vI 2, vI 0, vI 1, vI 1, vI 0, vI 2], [], aq_h m s F c_8)) rfl rfl ?_
  refine am_E.go (t2 := (181, [vR y, vI 2, vI 0, vI 1, vI 1, vI 0, vI 2], [vR y], aq_h m s F c_8)) rfl rfl ?_
  refine aq_gf (v := vR (y + 13)) rfl (by omega) hFo (by decide) rfl ?_
  show am_E _ (184, [vR y, vI 2, vI 0, vI 1, vI 1, vI 0, vI 2], [vR (y + 13)], aq_h m s F c_8) _
  refine am_E.go (t2 := (185, [vR y, vI 2, vI 0, vI 1, vI 1, vI 0, vI 2], [vI 1, vR (y + 13)], aq_h m s F c_8)) rfl rfl ?_
  refine aq_al (ok := fun k => k == 1) (v := vI (c_8 (y + 13) 1)) rfl rfl (by omega) hG13 rfl (by decide) (by decide) rfl ?_
  rw [mtc_8.2.1]
  show am_E _ (186, [vR y, vI 2, vI 0, vI 1, vI 1, vI 0, vI 2], [vI 1], aq_h m s F c_8) _
  refine am_E.go (t2 := (253, [vR y, vI 2, vI 0, vI 1, vI 1, vI 0, vI 2], [], aq_h m s F c_8)) rfl rfl ?_
  refine am_E.go (t2 := (256, [vR y, vI 2, vI 0, vI 2, vI 1, vI 0, vI 2], [], aq_h m s F c_8)) rfl rfl ?_
  refine am_E.go (t2 := (175, [vR y, vI 2, vI 0, vI 2, vI 1, vI 0, vI 2], [], aq_h m s F c_8)) rfl rfl ?_
  refine am_E.go (t2 := (176, [vR y, vI 2, vI 0, vI 2, vI 1, vI 0, vI 2], [vI 2], aq_h m s F c_8)) rfl rfl ?_
  refine am_E.go (t2 := (177, [vR y, vI 2, vI 0, vI 2, vI 1, vI 0, vI 2], [vI 2, vI 2], aq_h m s F c_8)) rfl rfl ?_
  refine am_E.go (t2 := (259, [vR y, vI 2, vI 0, vI 2, vI 1, vI 0, vI 2], [], aq_h m s F c_8)) rfl rfl ?_
  refine am_E.go (t2 := (260, [vR y, vI 2, vI 0, vI 2, vI 1, vI 0, vI 2], [vI 0], aq_h m s F c_8)) rfl rfl ?_
  refine am_E.ret rfl rfl ?_
  exact ⟨_, rfl, sc_8, rfl⟩

theorem qm_fo_3100 {m s : Nat} {F : aq_F} {c : aq_C} {y : Nat} (hO : mo_0 m F y) (hA0 : c (y + 18) 0 = 1) (hA1 : c (y + 18) 1 = 0) (hA2 : c (y + 18) 2 = 3) (hB0 : c (y + 19) 0 = 1) (hB1 : c (y + 19) 1 = 0) (hB2 : c (y + 19) 2 = 3) : am_E ac_X5_formOf (0, [vR y, vI 3, vU, vU, vU, vU, vU], [], aq_h m s F c) (aq_Z m s F (fun a => a = y + 13) c (fun r _ => r = some (vI 1))) := by
  obtain ⟨hm, hFo, hG5, hG6, hG7, hG8, hG9, hG10, hG11, hG12, hG13, hG14, hG15, hG16, hG17, hG18, hG19, hG20, hG21, hG22, hG23⟩ := hO
  have hmt : mt_ y (c (y + 13) 0) (c (y + 13) 1) (c (y + 13) 2) (c (y + 13) 3) c := ⟨rfl, rfl, rfl, rfl⟩
  refine am_E.go (t2 := (1, [vR y, vI 3, vU, vU, vU, vU, vU], [vI 0], aq_h m s F c)) rfl rfl ?_
  refine am_E.go (t2 := (2, [vR y, vI 3, vI 0, vU, vU, vU, vU], [], aq_h m s F c)) rfl rfl ?_
  refine am_E.go (t2 := (3, [vR y, vI 3, vI 0, vU, vU, vU, vU], [vI 0], aq_h m s F c)) rfl rfl ?_
  refine am_E.go (t2 := (4, [vR y, vI 3, vI 0, vU, vU, vU, vU], [vI 4, vI 0], aq_h m s F c)) rfl rfl ?_
  refine am_E.go (t2 := (7, [vR y, vI 3, vI 0, vU, vU, vU, vU], [], aq_h m s F c)) rfl rfl ?_
  refine am_E.go (t2 := (8, [vR y, vI 3, vI 0, vU, vU, vU, vU], [vR y], aq_h m s F c)) rfl rfl ?_
  refine aq_gf (v := vR (y + 13)) rfl (by omega) hFo (by decide) rfl ?_
  show am_E _ (11, [vR y, vI 3, vI 0, vU, vU, vU, vU], [vR (y + 13)], aq_h m s F c) _
  refine am_E.go (t2 := (12, [vR y, vI 3, vI 0, vU, vU, vU, vU], [vI 0, vR (y + 13)], aq_h m s F c)) rfl rfl ?_
  refine am_E.go (t2 := (13, [vR y, vI 3, vI 0, vU, vU, vU, vU], [vI 0, vI 0, vR (y + 13)], aq_h m s F c)) rfl rfl ?_
  refine aq_as (kd := 1) rfl rfl (by omega) hG13 (by omega) (by omega) rfl rfl ?_
  show am_E _ (14, [vR y, vI 3, vI 0, vU, vU, vU, vU], [], aq_h m s F (aq_u c (y + 13) 0 0)) _
  generalize hdc_1 : aq_u c (y + 13) 0 0 = c_1
  have sc_1 := aq_smu (aq_sm0 (c := c) (S := fun a => a = y + 13)) hdc_1 rfl
  have mtc_1 := mt_0 hmt hdc_1
  refine am_E.go (t2 := (17, [vR y, vI 3, vI 1, vU, vU, vU, vU], [], aq_h m s F c_1)) rfl rfl ?_
  refine am_E.go (t2 := (2, [vR y, vI 3, vI 1, vU, vU, vU, vU], [], aq_h m s F c_1)) rfl rfl ?_
  refine am_E.go (t2 := (3, [vR y, vI 3, vI 1, vU, vU, vU, vU], [vI 1], aq_h m s F c_1)) rfl rfl ?_
  refine am_E.go (t2 := (4, [vR y, vI 3, vI 1, vU, vU, vU, vU], [vI 4, vI 1], aq_h m s F c_1)) rfl rfl ?_
  refine am_E.go (t2 := (7, [vR y, vI 3, vI 1, vU, vU, vU, vU], [], aq_h m s F c_1)) rfl rfl ?_
  refine am_E.go (t2 := (8, [vR y, vI 3, vI 1, vU, vU, vU, vU], [vR y], aq_h m s F c_1)) rfl rfl ?_
  refine aq_gf (v := vR (y + 13)) rfl (by omega) hFo (by decide) rfl ?_
  show am_E _ (11, [vR y, vI 3, vI 1, vU, vU, vU, vU], [vR (y + 13)], aq_h m s F c_1) _
  refine am_E.go (t2 := (12, [vR y, vI 3, vI 1, vU, vU, vU, vU], [vI 1, vR (y + 13)], aq_h m s F c_1)) rfl rfl ?_
  refine am_E.go (t2 := (13, [vR y, vI 3, vI 1, vU, vU, vU, vU], [vI 0, vI 1, vR (y + 13)], aq_h m s F c_1)) rfl rfl ?_
  refine aq_as (kd := 1) rfl rfl (by omega) hG13 (by omega) (by omega) rfl rfl ?_
  show am_E _ (14, [vR y, vI 3, vI 1, vU, vU, vU, vU], [], aq_h m s F (aq_u c_1 (y + 13) 1 0)) _
  generalize hdc_2 : aq_u c_1 (y + 13) 1 0 = c_2
  have sc_2 := aq_smu sc_1 hdc_2 rfl
  have mtc_2 := mt_1 mtc_1 hdc_2
  refine am_E.go (t2 := (17, [vR y, vI 3, vI 2, vU, vU, vU, vU], [], aq_h m s F c_2)) rfl rfl ?_
  refine am_E.go (t2 := (2, [vR y, vI 3, vI 2, vU, vU, vU, vU], [], aq_h m s F c_2)) rfl rfl ?_
  refine am_E.go (t2 := (3, [vR y, vI 3, vI 2, vU, vU, vU, vU], [vI 2], aq_h m s F c_2)) rfl rfl ?_
  refine am_E.go (t2 := (4, [vR y, vI 3, vI 2, vU, vU, vU, vU], [vI 4, vI 2], aq_h m s F c_2)) rfl rfl ?_
  refine am_E.go (t2 := (7, [vR y, vI 3, vI 2, vU, vU, vU, vU], [], aq_h m s F c_2)) rfl rfl ?_
  refine am_E.go (t2 := (8, [vR y, vI 3, vI 2, vU, vU, vU, vU], [vR y], aq_h m s F c_2)) rfl rfl ?_
  refine aq_gf (v := vR (y + 13)) rfl (by omega) hFo (by decide) rfl ?_
  show am_E _ (11, [vR y, vI 3, vI 2, vU, vU, vU, vU], [vR (y + 13)], aq_h m s F c_2) _
  refine am_E.go (t2 := (12, [vR y, vI 3, vI 2, vU, vU, vU, vU], [vI 2, vR (y + 13)], aq_h m s F c_2)) rfl rfl ?_
  refine am_E.go (t2 := (13, [vR y, vI 3, vI 2, vU, vU, vU, vU], [vI 0, vI 2, vR (y + 13)], aq_h m s F c_2)) rfl rfl ?_
  refine aq_as (kd := 1) rfl rfl (by omega) hG13 (by omega) (by omega) rfl rfl ?_
  show am_E _ (14, [vR y, vI 3, vI 2, vU, vU, vU, vU], [], aq_h m s F (aq_u c_2 (y + 13) 2 0)) _
  generalize hdc_3 : aq_u c_2 (y + 13) 2 0 = c_3
  have sc_3 := aq_smu sc_2 hdc_3 rfl
  have mtc_3 := mt_2 mtc_2 hdc_3
  refine am_E.go (t2 := (17, [vR y, vI 3, vI 3, vU, vU, vU, vU], [], aq_h m s F c_3)) rfl rfl ?_
  refine am_E.go (t2 := (2, [vR y, vI 3, vI 3, vU, vU, vU, vU], [], aq_h m s F c_3)) rfl rfl ?_
  refine am_E.go (t2 := (3, [vR y, vI 3, vI 3, vU, vU, vU, vU], [vI 3], aq_h m s F c_3)) rfl rfl ?_
  refine am_E.go (t2 := (4, [vR y, vI 3, vI 3, vU, vU, vU, vU], [vI 4, vI 3], aq_h m s F c_3)) rfl rfl ?_
  refine am_E.go (t2 := (7, [vR y, vI 3, vI 3, vU, vU, vU, vU], [], aq_h m s F c_3)) rfl rfl ?_
  refine am_E.go (t2 := (8, [vR y, vI 3, vI 3, vU, vU, vU, vU], [vR y], aq_h m s F c_3)) rfl rfl ?_
  refine aq_gf (v := vR (y + 13)) rfl (by omega) hFo (by decide) rfl ?_
  show am_E _ (11, [vR y, vI 3, vI 3, vU, vU, vU, vU], [vR (y + 13)], aq_h m s F c_3) _
  refine am_E.go (t2 := (12, [vR y, vI 3, vI 3, vU, vU, vU, vU], [vI 3, vR (y + 13)], aq_h m s F c_3)) rfl rfl ?_
  refine am_E.go (t2 := (13, [vR y, vI 3, vI 3, vU, vU, vU, vU], [vI 0, vI 3, vR (y + 13)], aq_h m s F c_3)) rfl rfl ?_
  refine aq_as (kd := 1) rfl rfl (by omega) hG13 (by omega) (by omega) rfl rfl ?_
  show am_E _ (14, [vR y, vI 3, vI 3, vU, vU, vU, vU], [], aq_h m s F (aq_u c_3 (y + 13) 3 0)) _
  generalize hdc_4 : aq_u c_3 (y + 13) 3 0 = c_4
  have sc_4 := aq_smu sc_3 hdc_4 rfl
  have mtc_4 := mt_3 mtc_3 hdc_4
  refine am_E.go (t2 := (17, [vR y, vI 3, vI 4, vU, vU, vU, vU], [], aq_h m s F c_4)) rfl rfl ?_
  refine am_E.go (t2 := (2, [vR y, vI 3, vI 4, vU, vU, vU, vU], [], aq_h m s F c_4)) rfl rfl ?_
  refine am_E.go (t2 := (3, [vR y, vI 3, vI 4, vU, vU, vU, vU], [vI 4], aq_h m s F c_4)) rfl rfl ?_
  refine am_E.go (t2 := (4, [vR y, vI 3, vI 4, vU, vU, vU, vU], [vI 4, vI 4], aq_h m s F c_4)) rfl rfl ?_
  refine am_E.go (t2 := (20, [vR y, vI 3, vI 4, vU, vU, vU, vU], [], aq_h m s F c_4)) rfl rfl ?_
  refine am_E.go (t2 := (21, [vR y, vI 3, vI 4, vU, vU, vU, vU], [vI 0], aq_h m s F c_4)) rfl rfl ?_
  refine am_E.go (t2 := (22, [vR y, vI 3, vI 0, vU, vU, vU, vU], [], aq_h m s F c_4)) rfl rfl ?_
  refine am_E.go (t2 := (23, [vR y, vI 3, vI 0, vU, vU, vU, vU], [vI 0], aq_h m s F c_4)) rfl rfl ?_
  refine am_E.go (t2 := (24, [vR y, vI 3, vI 0, vU, vU, vU, vU], [vI 3, vI 0], aq_h m s F c_4)) rfl rfl ?_
  refine am_E.go (t2 := (27, [vR y, vI 3, vI 0, vU, vU, vU, vU], [], aq_h m s F c_4)) rfl rfl ?_
  refine am_E.go (t2 := (28, [vR y, vI 3, vI 0, vU, vU, vU, vU], [vR y], aq_h m s F c_4)) rfl rfl ?_
  refine aq_gf (v := vR (y + 18)) rfl (by omega) hFo (by decide) rfl ?_
  show am_E _ (31, [vR y, vI 3, vI 0, vU, vU, vU, vU], [vR (y + 18)], aq_h m s F c_4) _
  refine am_E.go (t2 := (32, [vR y, vI 3, vI 0, vU, vU, vU, vU], [vI 0, vR (y + 18)], aq_h m s F c_4)) rfl rfl ?_
  refine aq_al (ok := fun k => k == 0) (v := vI (c_4 (y + 18) 0)) rfl rfl (by omega) hG18 rfl (by decide) (by decide) rfl ?_
  rw [sc_4 (y + 18) (by omega), hA0]
  show am_E _ (33, [vR y, vI 3, vI 0, vU, vU, vU, vU], [vI 1], aq_h m s F c_4) _
  refine am_E.go (t2 := (34, [vR y, vI 3, vI 0, vU, vU, vU, vU], [vI 3, vI 1], aq_h m s F c_4)) rfl rfl ?_
  refine am_E.go (t2 := (130, [vR y, vI 3, vI 0, vU, vU, vU, vU], [], aq_h m s F c_4)) rfl rfl ?_
  refine am_E.go (t2 := (133, [vR y, vI 3, vI 1, vU, vU, vU, vU], [], aq_h m s F c_4)) rfl rfl ?_
  refine am_E.go (t2 := (22, [vR y, vI 3, vI 1, vU, vU, vU, vU], [], aq_h m s F c_4)) rfl rfl ?_
  refine am_E.go (t2 := (23, [vR y, vI 3, vI 1, vU, vU, vU, vU], [vI 1], aq_h m s F c_4)) rfl rfl ?_
  refine am_E.go (t2 := (24, [vR y, vI 3, vI 1, vU, vU, vU, vU], [vI 3, vI 1], aq_h m s F c_4)) rfl rfl ?_
  refine am_E.go (t2 := (27, [vR y, vI 3, vI 1, vU, vU, vU, vU], [], aq_h m s F c_4)) rfl rfl ?_
  refine am_E.go (t2 := (28, [vR y, vI 3, vI 1, vU, vU, vU, vU], [vR y], aq_h m s F c_4)) rfl rfl ?_
  refine aq_gf (v := vR (y + 18)) rfl (by omega) hFo (by decide) rfl ?_
  show am_E _ (31, [vR y, vI 3, vI 1, vU, vU, vU, vU], [vR (y + 18)], aq_h m s F c_4) _
  refine am_E.go (t2 := (32, [vR y, vI 3, vI 1, vU, vU, vU, vU], [vI 1, vR (y + 18)], aq_h m s F c_4)) rfl rfl ?_
  refine aq_al (ok := fun k => k == 0) (v := vI (c_4 (y + 18) 1)) rfl rfl (by omega) hG18 rfl (by decide) (by decide) rfl ?_
  rw [sc_4 (y + 18) (by omega), hA1]
  show am_E _ (33, [vR y, vI 3, vI 1, vU, vU, vU, vU], [vI 0], aq_h m s F c_4) _
  refine am_E.go (t2 := (34, [vR y, vI 3, vI 1, vU, vU, vU, vU], [vI 3, vI 0], aq_h m s F c_4)) rfl rfl ?_
  refine am_E.go (t2 := (130, [vR y, vI 3, vI 1, vU, vU, vU, vU], [], aq_h m s F c_4)) rfl rfl ?_
  refine am_E.go (t2 := (133, [vR y, vI 3, vI 2, vU, vU, vU, vU], [], aq_h m s F c_4)) rfl rfl ?_
  refine am_E.go (t2 := (22, [vR y, vI 3, vI 2, vU, vU, vU, vU], [], aq_h m s F c_4)) rfl rfl ?_
  refine am_E.go (t2 := (23, [vR y, vI 3, vI 2, vU, vU, vU, vU], [vI 2], aq_h m s F c_4)) rfl rfl ?_
  refine am_E.go (t2 := (24, [vR y, vI 3, vI 2, vU, vU, vU, vU], [vI 3, vI 2], aq_h m s F c_4)) rfl rfl ?_
  refine am_E.go (t2 := (27, [vR y, vI 3, vI 2, vU, vU, vU, vU], [], aq_h m s F c_4)) rfl rfl ?_
  refine am_E.go (t2 := (28, [vR y, vI 3, vI 2, vU, vU, vU, vU], [vR y], aq_h m s F c_4)) rfl rfl ?_
  refine aq_gf (v := vR (y + 18)) rfl (by omega) hFo (by decide) rfl ?_
  show am_E _ (31, [vR y, vI 3, vI 2, vU, vU, vU, vU], [vR (y + 18)], aq_h m s F c_4) _
  refine am_E.go (t2 := (32, [vR y, vI 3, vI 2, vU, vU, vU, vU], [vI 2, vR (y + 18)], aq_h m s F c_4)) rfl rfl ?_
  refine aq_al (ok := fun k => k == 0) (v := vI (c_4 (y + 18) 2)) rfl rfl (by omega) hG18 rfl (by decide) (by decide) rfl ?_
  rw [sc_4 (y + 18) (by omega), hA2]
  show am_E _ (33, [vR y, vI 3, vI 2, vU, vU, vU, vU], [vI 3], aq_h m s F c_4) _
  refine am_E.go (t2 := (34, [vR y, vI 3, vI 2, vU, vU, vU, vU], [vI 3, vI 3], aq_h m s F c_4)) rfl rfl ?_
  refine am_E.go (t2 := (37, [vR y, vI 3, vI 2, vU, vU, vU, vU], [], aq_h m s F c_4)) rfl rfl ?_
  refine am_E.go (t2 := (38, [vR y, vI 3, vI 2, vU, vU, vU, vU], [vI 2], aq_h m s F c_4)) rfl rfl ?_
  refine am_E.go (t2 := (39, [vR y, vI 3, vI 2, vI 2, vU, vU, vU], [], aq_h m s F c_4)) rfl rfl ?_
  refine am_E.go (t2 := (40, [vR y, vI 3, vI 2, vI 2, vU, vU, vU], [vI 1], aq_h m s F c_4)) rfl rfl ?_
  refine am_E.go (t2 := (42, [vR y, vI 3, vI 2, vI 2, vI 1, vU, vU], [], aq_h m s F c_4)) rfl rfl ?_
  refine am_E.go (t2 := (43, [vR y, vI 3, vI 2, vI 2, vI 1, vU, vU], [vI 1], aq_h m s F c_4)) rfl rfl ?_
  refine am_E.go (t2 := (45, [vR y, vI 3, vI 2, vI 2, vI 1, vI 1, vU], [], aq_h m s F c_4)) rfl rfl ?_
  refine am_E.go (t2 := (47, [vR y, vI 3, vI 2, vI 2, vI 1, vI 1, vU], [vI 1], aq_h m s F c_4)) rfl rfl ?_
  refine am_E.go (t2 := (50, [vR y, vI 3, vI 2, vI 2, vI 1, vI 1, vU], [], aq_h m s F c_4)) rfl rfl ?_
  refine am_E.go (t2 := (51, [vR y, vI 3, vI 2, vI 2, vI 1, vI 1, vU], [vR y], aq_h m s F c_4)) rfl rfl ?_
  refine aq_gf (v := vR (y + 13)) rfl (by omega) hFo (by decide) rfl ?_
  show am_E _ (54, [vR y, vI 3, vI 2, vI 2, vI 1, vI 1, vU], [vR (y + 13)], aq_h m s F c_4) _
  refine am_E.go (t2 := (55, [vR y, vI 3, vI 2, vI 2, vI 1, vI 1, vU], [vI 2, vR (y + 13)], aq_h m s F c_4)) rfl rfl ?_
  refine am_E.go (t2 := (56, [vR y, vI 3, vI 2, vI 2, vI 1, vI 1, vU], [vI 1, vI 2, vR (y + 13)], aq_h m s F c_4)) rfl rfl ?_
  refine aq_as (kd := 1) rfl rfl (by omega) hG13 (by omega) (by omega) rfl rfl ?_
  show am_E _ (57, [vR y, vI 3, vI 2, vI 2, vI 1, vI 1, vU], [], aq_h m s F (aq_u c_4 (y + 13) 2 1)) _
  generalize hdc_5 : aq_u c_4 (y + 13) 2 1 = c_5
  have sc_5 := aq_smu sc_4 hdc_5 rfl
  have mtc_5 := mt_2 mtc_4 hdc_5
  refine am_E.go (t2 := (59, [vR y, vI 3, vI 2, vI 2, vI 1, vI 1, vU], [vI 1], aq_h m s F c_5)) rfl rfl ?_
  refine am_E.go (t2 := (62, [vR y, vI 3, vI 2, vI 2, vI 1, vI 1, vU], [], aq_h m s F c_5)) rfl rfl ?_
  refine am_E.go (t2 := (63, [vR y, vI 3, vI 2, vI 2, vI 1, vI 1, vU], [vR y], aq_h m s F c_5)) rfl rfl ?_
  refine aq_gf (v := vR (y + 19)) rfl (by omega) hFo (by decide) rfl ?_
  show am_E _ (66, [vR y, vI 3, vI 2, vI 2, vI 1, vI 1, vU], [vR (y + 19)], aq_h m s F c_5) _
  refine am_E.go (t2 := (67, [vR y, vI 3, vI 2, vI 2, vI 1, vI 1, vU], [vI 2, vR (y + 19)], aq_h m s F c_5)) rfl rfl ?_
  refine aq_al (ok := fun k => k == 0) (v := vI (c_5 (y + 19) 2)) rfl rfl (by omega) hG19 rfl (by decide) (by decide) rfl ?_
  rw [sc_5 (y + 19) (by omega), hB2]
  show am_E _ (68, [vR y, vI 3, vI 2, vI 2, vI 1, vI 1, vU], [vI 3], aq_h m s F c_5) _
  refine am_E.go (t2 := (77, [vR y, vI 3, vI 2, vI 2, vI 1, vI 1, vU], [vI 3], aq_h m s F c_5)) rfl rfl ?_
  refine am_E.go (t2 := (79, [vR y, vI 3, vI 2, vI 2, vI 1, vI 1, vI 3], [], aq_h m s F c_5)) rfl rfl ?_
  refine am_E.go (t2 := (81, [vR y, vI 3, vI 2, vI 2, vI 1, vI 1, vI 3], [vI 3], aq_h m s F c_5)) rfl rfl ?_
  refine am_E.go (t2 := (82, [vR y, vI 3, vI 2, vI 2, vI 1, vI 1, vI 3], [vI 3, vI 3], aq_h m s F c_5)) rfl rfl ?_
  refine am_E.go (t2 := (89, [vR y, vI 3, vI 2, vI 2, vI 1, vI 1, vI 3], [], aq_h m s F c_5)) rfl rfl ?_
  refine am_E.go (t2 := (90, [vR y, vI 3, vI 2, vI 2, vI 1, vI 1, vI 3], [vI 0], aq_h m s F c_5)) rfl rfl ?_
  refine am_E.go (t2 := (92, [vR y, vI 3, vI 2, vI 2, vI 1, vI 0, vI 3], [], aq_h m s F c_5)) rfl rfl ?_
  refine am_E.go (t2 := (94, [vR y, vI 3, vI 2, vI 2, vI 1, vI 0, vI 3], [vI 0], aq_h m s F c_5)) rfl rfl ?_
  refine am_E.go (t2 := (112, [vR y, vI 3, vI 2, vI 2, vI 1, vI 0, vI 3], [], aq_h m s F c_5)) rfl rfl ?_
  refine am_E.go (t2 := (45, [vR y, vI 3, vI 2, vI 2, vI 1, vI 0, vI 3], [], aq_h m s F c_5)) rfl rfl ?_
  refine am_E.go (t2 := (47, [vR y, vI 3, vI 2, vI 2, vI 1, vI 0, vI 3], [vI 0], aq_h m s F c_5)) rfl rfl ?_
  refine am_E.go (t2 := (115, [vR y, vI 3, vI 2, vI 2, vI 1, vI 0, vI 3], [], aq_h m s F c_5)) rfl rfl ?_
  refine am_E.go (t2 := (116, [vR y, vI 3, vI 2, vI 2, vI 1, vI 0, vI 3], [vR y], aq_h m s F c_5)) rfl rfl ?_
  refine aq_gf (v := vR (y + 13)) rfl (by omega) hFo (by decide) rfl ?_
  show am_E _ (119, [vR y, vI 3, vI 2, vI 2, vI 1, vI 0, vI 3], [vR (y + 13)], aq_h m s F c_5) _
  refine am_E.go (t2 := (120, [vR y, vI 3, vI 2, vI 2, vI 1, vI 0, vI 3], [vI 2, vR (y + 13)], aq_h m s F c_5)) rfl rfl ?_
  refine am_E.go (t2 := (121, [vR y, vI 3, vI 2, vI 2, vI 1, vI 0, vI 3], [vI 1, vI 2, vR (y + 13)], aq_h m s F c_5)) rfl rfl ?_
  refine aq_as (kd := 1) rfl rfl (by omega) hG13 (by omega) (by omega) rfl rfl ?_
  show am_E _ (122, [vR y, vI 3, vI 2, vI 2, vI 1, vI 0, vI 3], [], aq_h m s F (aq_u c_5 (y + 13) 2 1)) _
  generalize hdc_6 : aq_u c_5 (y + 13) 2 1 = c_6
  have sc_6 := aq_smu sc_5 hdc_6 rfl
  have mtc_6 := mt_2 mtc_5 hdc_6
  refine am_E.go (t2 := (124, [vR y, vI 3, vI 2, vI 2, vI 1, vI 0, vI 3], [vI 1], aq_h m s F c_6)) rfl rfl ?_
  refine am_E.go (t2 := (130, [vR y, vI 3, vI 2, vI 2, vI 1, vI 0, vI 3], [], aq_h m s F c_6)) rfl rfl ?_
  refine am_E.go (t2 := (133, [vR y, vI 3, vI 3, vI 2, vI 1, vI 0, vI 3], [], aq_h m s F c_6)) rfl rfl ?_
  refine am_E.go (t2 := (22, [vR y, vI 3, vI 3, vI 2, vI 1, vI 0, vI 3], [], aq_h m s F c_6)) rfl rfl ?_
  refine am_E.go (t2 := (23, [vR y, vI 3, vI 3, vI 2, vI 1, vI 0, vI 3], [vI 3], aq_h m s F c_6)) rfl rfl ?_
  refine am_E.go (t2 := (24, [vR y, vI 3, vI 3, vI 2, vI 1, vI 0, vI 3], [vI 3, vI 3], aq_h m s F c_6)) rfl rfl ?_
  refine am_E.go (t2 := (136, [vR y, vI 3, vI 3, vI 2, vI 1, vI 0, vI 3], [], aq_h m s F c_6)) rfl rfl ?_
  refine am_E.go (t2 := (137, [vR y, vI 3, vI 3, vI 2, vI 1, vI 0, vI 3], [vI 0], aq_h m s F c_6)) rfl rfl ?_
  refine am_E.go (t2 := (138, [vR y, vI 3, vI 0, vI 2, vI 1, vI 0, vI 3], [], aq_h m s F c_6)) rfl rfl ?_
  refine am_E.go (t2 := (139, [vR y, vI 3, vI 0, vI 2, vI 1, vI 0, vI 3], [vI 0], aq_h m s F c_6)) rfl rfl ?_
  refine am_E.go (t2 := (140, [vR y, vI 3, vI 0, vI 2, vI 1, vI 0, vI 3], [vI 3, vI 0], aq_h m s F c_6)) rfl rfl ?_
  refine am_E.go (t2 := (143, [vR y, vI 3, vI 0, vI 2, vI 1, vI 0, vI 3], [], aq_h m s F c_6)) rfl rfl ?_
  refine am_E.go (t2 := (144, [vR y, vI 3, vI 0, vI 2, vI 1, vI 0, vI 3], [vR y], aq_h m s F c_6)) rfl rfl ?_
  refine aq_gf (v := vR (y + 13)) rfl (by omega) hFo (by decide) rfl ?_
  show am_E _ (147, [vR y, vI 3, vI 0, vI 2, vI 1, vI 0, vI 3], [vR (y + 13)], aq_h m s F c_6) _
  refine am_E.go (t2 := (148, [vR y, vI 3, vI 0, vI 2, vI 1, vI 0, vI 3], [vI 0, vR (y + 13)], aq_h m s F c_6)) rfl rfl ?_
  refine aq_al (ok := fun k => k == 1) (v := vI (c_6 (y + 13) 0)) rfl rfl (by omega) hG13 rfl (by decide) (by decide) rfl ?_
  rw [mtc_6.1]
  show am_E _ (149, [vR y, vI 3, vI 0, vI 2, vI 1, vI 0, vI 3], [vI 0], aq_h m s F c_6) _
  refine am_E.go (t2 := (152, [vR y, vI 3, vI 0, vI 2, vI 1, vI 0, vI 3], [], aq_h m s F c_6)) rfl rfl ?_
  refine am_E.go (t2 := (153, [vR y, vI 3, vI 0, vI 2, vI 1, vI 0, vI 3], [vR y], aq_h m s F c_6)) rfl rfl ?_
  refine aq_gf (v := vR (y + 19)) rfl (by omega) hFo (by decide) rfl ?_
  show am_E _ (156, [vR y, vI 3, vI 0, vI 2, vI 1, vI 0, vI 3], [vR (y + 19)], aq_h m s F c_6) _
  refine am_E.go (t2 := (157, [vR y, vI 3, vI 0, vI 2, vI 1, vI 0, vI 3], [vI 0, vR (y + 19)], aq_h m s F c_6)) rfl rfl ?_
  refine aq_al (ok := fun k => k == 0) (v := vI (c_6 (y + 19) 0)) rfl rfl (by omega) hG19 rfl (by decide) (by decide) rfl ?_
  rw [sc_6 (y + 19) (by omega), hB0]
  show am_E _ (158, [vR y, vI 3, vI 0, vI 2, vI 1, vI 0, vI 3], [vI 1], aq_h m s F c_6) _
  refine am_E.go (t2 := (159, [vR y, vI 3, vI 0, vI 2, vI 1, vI 0, vI 3], [vI 3, vI 1], aq_h m s F c_6)) rfl rfl ?_
  refine am_E.go (t2 := (165, [vR y, vI 3, vI 0, vI 2, vI 1, vI 0, vI 3], [], aq_h m s F c_6)) rfl rfl ?_
  refine am_E.go (t2 := (168, [vR y, vI 3, vI 1, vI 2, vI 1, vI 0, vI 3], [], aq_h m s F c_6)) rfl rfl ?_
  refine am_E.go (t2 := (138, [vR y, vI 3, vI 1, vI 2, vI 1, vI 0, vI 3], [], aq_h m s F c_6)) rfl rfl ?_
  refine am_E.go (t2 := (139, [vR y, vI 3, vI 1, vI 2, vI 1, vI 0, vI 3], [vI 1], aq_h m s F c_6)) rfl rfl ?_
  refine am_E.go (t2 := (140, [vR y, vI 3, vI 1, vI 2, vI 1, vI 0, vI 3], [vI 3, vI 1], aq_h m s F c_6)) rfl rfl ?_
  refine am_E.go (t2 := (143, [vR y, vI 3, vI 1, vI 2, vI 1, vI 0, vI 3], [], aq_h m s F c_6)) rfl rfl ?_
  refine am_E.go (t2 := (144, [vR y, vI 3, vI 1, vI 2, vI 1, vI 0, vI 3], [vR y], aq_h m s F c_6)) rfl rfl ?_
  refine aq_gf (v := vR (y + 13)) rfl (by omega) hFo (by decide) rfl ?_
  show am_E _ (147, [vR y, vI 3, vI 1, vI 2, vI 1, vI 0, vI 3], [vR (y + 13)], aq_h m s F c_6) _
  refine am_E.go (t2 := (148, [vR y, vI 3, vI 1, vI 2, vI 1, vI 0, vI 3], [vI 1, vR (y + 13)], aq_h m s F c_6)) rfl rfl ?_
  refine aq_al (ok := fun k => k == 1) (v := vI (c_6 (y + 13) 1)) rfl rfl (by omega) hG13 rfl (by decide) (by decide) rfl ?_
  rw [mtc_6.2.1]
  show am_E _ (149, [vR y, vI 3, vI 1, vI 2, vI 1, vI 0, vI 3], [vI 0], aq_h m s F c_6) _
  refine am_E.go (t2 := (152, [vR y, vI 3, vI 1, vI 2, vI 1, vI 0, vI 3], [], aq_h m s F c_6)) rfl rfl ?_
  refine am_E.go (t2 := (153, [vR y, vI 3, vI 1, vI 2, vI 1, vI 0, vI 3], [vR y], aq_h m s F c_6)) rfl rfl ?_
  refine aq_gf (v := vR (y + 19)) rfl (by omega) hFo (by decide) rfl ?_
  show am_E _ (156, [vR y, vI 3, vI 1, vI 2, vI 1, vI 0, vI 3], [vR (y + 19)], aq_h m s F c_6) _
  refine am_E.go (t2 := (157, [vR y, vI 3, vI 1, vI 2, vI 1, vI 0, vI 3], [vI 1, vR (y + 19)], aq_h m s F c_6)) rfl rfl ?_
  refine aq_al (ok := fun k => k == 0) (v := vI (c_6 (y + 19) 1)) rfl rfl (by omega) hG19 rfl (by decide) (by decide) rfl ?_
  rw [sc_6 (y + 19) (by omega), hB1]
  show am_E _ (158, [vR y, vI 3, vI 1, vI 2, vI 1, vI 0, vI 3], [vI 0], aq_h m s F c_6) _
  refine am_E.go (t2 := (159, [vR y, vI 3, vI 1, vI 2, vI 1, vI 0, vI 3], [vI 3, vI 0], aq_h m s F c_6)) rfl rfl ?_
  refine am_E.go (t2 := (165, [vR y, vI 3, vI 1, vI 2, vI 1, vI 0, vI 3], [], aq_h m s F c_6)) rfl rfl ?_
  refine am_E.go (t2 := (168, [vR y, vI 3, vI 2, vI 2, vI 1, vI 0, vI 3], [], aq_h m s F c_6)) rfl rfl ?_
  refine am_E.go (t2 := (138, [vR y, vI 3, vI 2, vI 2, vI 1, vI 0, vI 3], [], aq_h m s F c_6)) rfl rfl ?_
  refine am_E.go (t2 := (139, [vR y, vI 3, vI 2, vI 2, vI 1, vI 0, vI 3], [vI 2], aq_h m s F c_6)) rfl rfl ?_
  refine am_E.go (t2 := (140, [vR y, vI 3, vI 2, vI 2, vI 1, vI 0, vI 3], [vI 3, vI 2], aq_h m s F c_6)) rfl rfl ?_
  refine am_E.go (t2 := (143, [vR y, vI 3, vI 2, vI 2, vI 1, vI 0, vI 3], [], aq_h m s F c_6)) rfl rfl ?_
  refine am_E.go (t2 := (144, [vR y, vI 3, vI 2, vI 2, vI 1, vI 0, vI 3], [vR y], aq_h m s F c_6)) rfl rfl ?_
  refine aq_gf (v := vR (y + 13)) rfl (by omega) hFo (by decide) rfl ?_
  show am_E _ (147, [vR y, vI 3, vI 2, vI 2, vI 1, vI 0, vI 3], [vR (y + 13)], aq_h m s F c_6) _
  refine am_E.go (t2 := (148, [vR y, vI 3, vI 2, vI 2, vI 1, vI 0, vI 3], [vI 2, vR (y + 13)], aq_h m s F c_6)) rfl rfl ?_
  refine aq_al (ok := fun k => k == 1) (v := vI (c_6 (y + 13) 2)) rfl rfl (by omega) hG13 rfl (by decide) (by decide) rfl ?_
  rw [mtc_6.2.2.1]
  show am_E _ (149, [vR y, vI 3, vI 2, vI 2, vI 1, vI 0, vI 3], [vI 1], aq_h m s F c_6) _
  refine am_E.go (t2 := (165, [vR y, vI 3, vI 2, vI 2, vI 1, vI 0, vI 3], [], aq_h m s F c_6)) rfl rfl ?_
  refine am_E.go (t2 := (168, [vR y, vI 3, vI 3, vI 2, vI 1, vI 0, vI 3], [], aq_h m s F c_6)) rfl rfl ?_
  refine am_E.go (t2 := (138, [vR y, vI 3, vI 3, vI 2, vI 1, vI 0, vI 3], [], aq_h m s F c_6)) rfl rfl ?_
  refine am_E.go (t2 := (139, [vR y, vI 3, vI 3, vI 2, vI 1, vI 0, vI 3], [vI 3], aq_h m s F c_6)) rfl rfl ?_
  refine am_E.go (t2 := (140, [vR y, vI 3, vI 3, vI 2, vI 1, vI 0, vI 3], [vI 3, vI 3], aq_h m s F c_6)) rfl rfl ?_
  refine am_E.go (t2 := (171, [vR y, vI 3, vI 3, vI 2, vI 1, vI 0, vI 3], [], aq_h m s F c_6)) rfl rfl ?_
  refine am_E.go (t2 := (172, [vR y, vI 3, vI 3, vI 2, vI 1, vI 0, vI 3], [vI 0], aq_h m s F c_6)) rfl rfl ?_
  refine am_E.go (t2 := (173, [vR y, vI 3, vI 0, vI 2, vI 1, vI 0, vI 3], [], aq_h m s F c_6)) rfl rfl ?_
  refine am_E.go (t2 := (174, [vR y, vI 3, vI 0, vI 2, vI 1, vI 0, vI 3], [vI 0], aq_h m s F c_6)) rfl rfl ?_
  refine am_E.go (t2 := (175, [vR y, vI 3, vI 0, vI 0, vI 1, vI 0, vI 3], [], aq_h m s F c_6)) rfl rfl ?_
  refine am_E.go (t2 := (176, [vR y, vI 3, vI 0, vI 0, vI 1, vI 0, vI 3], [vI 0], aq_h m s F c_6)) rfl rfl ?_
  refine am_E.go (t2 := (177, [vR y, vI 3, vI 0, vI 0, vI 1, vI 0, vI 3], [vI 3, vI 0], aq_h m s F c_6)) rfl rfl ?_
  refine am_E.go (t2 := (180, [vR y, vI 3, vI 0, vI 0, vI 1, vI 0, vI 3], [], aq_h m s F c_6)) rfl rfl ?_
  refine am_E.go (t2 := (181, [vR y, vI 3, vI 0, vI 0, vI 1, vI 0, vI 3], [vR y], aq_h m s F c_6)) rfl rfl ?_
  refine aq_gf (v := vR (y + 13)) rfl (by omega) hFo (by decide) rfl ?_
  show am_E _ (184, [vR y, vI 3, vI 0, vI 0, vI 1, vI 0, vI 3], [vR (y + 13)], aq_h m s F c_6) _
  refine am_E.go (t2 := (185, [vR y, vI 3, vI 0, vI 0, vI 1, vI 0, vI 3], [vI 0, vR (y + 13)], aq_h m s F c_6)) rfl rfl ?_
  refine aq_al (ok := fun k => k == 1) (v := vI (c_6 (y + 13) 0)) rfl rfl (by omega) hG13 rfl (by decide) (by decide) rfl ?_
  rw [mtc_6.1]
  show am_E _ (186, [vR y, vI 3, vI 0, vI 0, vI 1, vI 0, vI 3], [vI 0], aq_h m s F c_6) _
  refine am_E.go (t2 := (189, [vR y, vI 3, vI 0, vI 0, vI 1, vI 0, vI 3], [], aq_h m s F c_6)) rfl rfl ?_
  refine am_E.go (t2 := (192, [vR y, vI 3, vI 1, vI 0, vI 1, vI 0, vI 3], [], aq_h m s F c_6)) rfl rfl ?_
  refine am_E.go (t2 := (193, [vR y, vI 3, vI 1, vI 0, vI 1, vI 0, vI 3], [vI 0], aq_h m s F c_6)) rfl rfl ?_
  refine am_E.go (t2 := (195, [vR y, vI 3, vI 1, vI 0, vI 0, vI 0, vI 3], [], aq_h m s F c_6)) rfl rfl ?_
  refine am_E.go (t2 := (196, [vR y, vI 3, vI 1, vI 0, vI 0, vI 0, vI 3], [vI 1], aq_h m s F c_6)) rfl rfl ?_
  refine am_E.go (t2 := (198, [vR y, vI 3, vI 1, vI 0, vI 0, vI 1, vI 3], [], aq_h m s F c_6)) rfl rfl ?_
  refine am_E.go (t2 := (200, [vR y, vI 3, vI 1, vI 0, vI 0, vI 1, vI 3], [vI 1], aq_h m s F c_6)) rfl rfl ?_
  refine am_E.go (t2 := (203, [vR y, vI 3, vI 1, vI 0, vI 0, vI 1, vI 3], [], aq_h m s F c_6)) rfl rfl ?_
  refine am_E.go (t2 := (204, [vR y, vI 3, vI 1, vI 0, vI 0, vI 1, vI 3], [vR y], aq_h m s F c_6)) rfl rfl ?_
  refine aq_gf (v := vR (y + 13)) rfl (by omega) hFo (by decide) rfl ?_
  show am_E _ (207, [vR y, vI 3, vI 1, vI 0, vI 0, vI 1, vI 3], [vR (y + 13)], aq_h m s F c_6) _
  refine am_E.go (t2 := (209, [vR y, vI 3, vI 1, vI 0, vI 0, vI 1, vI 3], [vI 0, vR (y + 13)], aq_h m s F c_6)) rfl rfl ?_
  refine am_E.go (t2 := (210, [vR y, vI 3, vI 1, vI 0, vI 0, vI 1, vI 3], [vI 1, vI 0, vR (y + 13)], aq_h m s F c_6)) rfl rfl ?_
  refine aq_as (kd := 1) rfl rfl (by omega) hG13 (by omega) (by omega) rfl rfl ?_
  show am_E _ (211, [vR y, vI 3, vI 1, vI 0, vI 0, vI 1, vI 3], [], aq_h m s F (aq_u c_6 (y + 13) 0 1)) _
  generalize hdc_7 : aq_u c_6 (y + 13) 0 1 = c_7
  have sc_7 := aq_smu sc_6 hdc_7 rfl
  have mtc_7 := mt_0 mtc_6 hdc_7
  refine am_E.go (t2 := (212, [vR y, vI 3, vI 1, vI 0, vI 0, vI 1, vI 3], [vR y], aq_h m s F c_7)) rfl rfl ?_
  refine aq_gf (v := vR (y + 18)) rfl (by omega) hFo (by decide) rfl ?_
  show am_E _ (215, [vR y, vI 3, vI 1, vI 0, vI 0, vI 1, vI 3], [vR (y + 18)], aq_h m s F c_7) _
  refine am_E.go (t2 := (217, [vR y, vI 3, vI 1, vI 0, vI 0, vI 1, vI 3], [vI 0, vR (y + 18)], aq_h m s F c_7)) rfl rfl ?_
  refine aq_al (ok := fun k => k == 0) (v := vI (c_7 (y + 18) 0)) rfl rfl (by omega) hG18 rfl (by decide) (by decide) rfl ?_
  rw [sc_7 (y + 18) (by omega), hA0]
  show am_E _ (218, [vR y, vI 3, vI 1, vI 0, vI 0, vI 1, vI 3], [vI 1], aq_h m s F c_7) _
  refine am_E.go (t2 := (220, [vR y, vI 3, vI 1, vI 0, vI 1, vI 1, vI 3], [], aq_h m s F c_7)) rfl rfl ?_
  refine am_E.go (t2 := (221, [vR y, vI 3, vI 1, vI 0, vI 1, vI 1, vI 3], [vR y], aq_h m s F c_7)) rfl rfl ?_
  refine aq_gf (v := vR (y + 13)) rfl (by omega) hFo (by decide) rfl ?_
  show am_E _ (224, [vR y, vI 3, vI 1, vI 0, vI 1, vI 1, vI 3], [vR (y + 13)], aq_h m s F c_7) _
  refine am_E.go (t2 := (226, [vR y, vI 3, vI 1, vI 0, vI 1, vI 1, vI 3], [vI 1, vR (y + 13)], aq_h m s F c_7)) rfl rfl ?_
  refine am_E.go (t2 := (227, [vR y, vI 3, vI 1, vI 0, vI 1, vI 1, vI 3], [vI 1, vI 1, vR (y + 13)], aq_h m s F c_7)) rfl rfl ?_
  refine aq_as (kd := 1) rfl rfl (by omega) hG13 (by omega) (by omega) rfl rfl ?_
  show am_E _ (228, [vR y, vI 3, vI 1, vI 0, vI 1, vI 1, vI 3], [], aq_h m s F (aq_u c_7 (y + 13) 1 1)) _
  generalize hdc_8 : aq_u c_7 (y + 13) 1 1 = c_8
  have sc_8 := aq_smu sc_7 hdc_8 rfl
  have mtc_8 := mt_1 mtc_7 hdc_8
  refine am_E.go (t2 := (229, [vR y, vI 3, vI 1, vI 0, vI 1, vI 1, vI 3], [vR y], aq_h m s F c_8)) rfl rfl ?_
  refine aq_gf (v := vR (y + 19)) rfl (by omega) hFo (by decide) rfl ?_
  show am_E _ (232, [vR y, vI 3, vI 1, vI 0, vI 1, vI 1, vI 3], [vR (y + 19)], aq_h m s F c_8) _
  refine am_E.go (t2 := (234, [vR y, vI 3, vI 1, vI 0, vI 1, vI 1, vI 3], [vI 1, vR (y + 19)], aq_h m s F c_8)) rfl rfl ?_
  refine aq_al (ok := fun k => k == 0) (v := vI (c_8 (y + 19) 1)) rfl rfl (by omega) hG19 rfl (by decide) (by decide) rfl ?_
  rw [sc_8 (y + 19) (by omega), hB1]
  show am_E _ (235, [vR y, vI 3, vI 1, vI 0, vI 1, vI 1, vI 3], [vI 0], aq_h m s F c_8) _
  refine am_E.go (t2 := (237, [vR y, vI 3, vI 1, vI 0, vI 0, vI 1, vI 3], [], aq_h m s F c_8)) rfl rfl ?_
  refine am_E.go (t2 := (239, [vR y, vI 3, vI 1, vI 0, vI 0, vI 1, vI 3], [vI 0], aq_h m s F c_8)) rfl rfl ?_
  refine am_E.go (t2 := (240, [vR y, vI 3, vI 1, vI 0, vI 0, vI 1, vI 3], [vI 0, vI 0], aq_h m s F c_8)) rfl rfl ?_
  refine am_E.go (t2 := (247, [vR y, vI 3, vI 1, vI 0, vI 0, vI 1, vI 3], [], aq_h m s F c_8)) rfl rfl ?_
  refine am_E.go (t2 := (248, [vR y, vI 3, vI 1, vI 0, vI 0, vI 1, vI 3], [vI 0], aq_h m s F c_8)) rfl rfl ?_
  refine am_E.go (t2 := (250, [vR y, vI 3, vI 1, vI 0, vI 0, vI 0, vI 3], [], aq_h m s F c_8)) rfl rfl ?_
  refine am_E.go (t2 := (198, [vR y, vI 3, vI 1, vI 0, vI 0, vI 0, vI 3], [], aq_h m s F c_8)) rfl rfl ?_
  refine am_E.go (t2 := (200, [vR y, vI 3, vI 1, vI 0, vI 0, vI 0, vI 3], [vI 0], aq_h m s F c_8)) rfl rfl ?_
  refine am_E.go (t2 := (253, [vR y, vI 3, vI 1, vI 0, vI 0, vI 0, vI 3], [], aq_h m s F c_8)) rfl rfl ?_
  refine am_E.go (t2 := (256, [vR y, vI 3, vI 1, vI 1, vI 0, vI 0, vI 3], [], aq_h m s F c_8)) rfl rfl ?_
  refine am_E.go (t2 := (175, [vR y, vI 3, vI 1, vI 1, vI 0, vI 0, vI 3], [], aq_h m s F c_8)) rfl rfl ?_
  refine am_E.go (t2 := (176, [vR y, vI 3, vI 1, vI 1, vI 0, vI 0, vI 3], [vI 1], aq_h m s F c_8)) rfl rfl ?_
  refine am_E.go (t2 := (177, [vR y, vI 3, vI 1, vI 1, vI 0, vI 0, vI 3], [vI 3, vI 1], aq_h m s F c_8)) rfl rfl ?_
  refine am_E.go (t2 := (180, [vR y, vI 3, vI 1, vI 1, vI 0, vI 0, vI 3], [], aq_h m s F c_8)) rfl rfl ?_
  refine am_E.go (t2 := (181, [vR y, vI 3, vI 1, vI 1, vI 0, vI 0, vI 3], [vR y], aq_h m s F c_8)) rfl rfl ?_
  refine aq_gf (v := vR (y + 13)) rfl (by omega) hFo (by decide) rfl ?_
  show am_E _ (184, [vR y, vI 3, vI 1, vI 1, vI 0, vI 0, vI 3], [vR (y + 13)], aq_h m s F c_8) _
  refine am_E.go (t2 := (185, [vR y, vI 3, vI 1, vI 1, vI 0, vI 0, vI 3], [vI 1, vR (y + 13)], aq_h m s F c_8)) rfl rfl ?_
  refine aq_al (ok := fun k => k == 1) (v := vI (c_8 (y + 13) 1)) rfl rfl (by omega) hG13 rfl (by decide) (by decide) rfl ?_
  rw [mtc_8.2.1]
  show am_E _ (186, [vR y, vI 3, vI 1, vI 1, vI 0, vI 0, vI 3], [vI 1], aq_h m s F c_8) _
  refine am_E.go (t2 := (253, [vR y, vI 3, vI 1, vI 1, vI 0, vI 0, vI 3], [], aq_h m s F c_8)) rfl rfl ?_
  refine am_E.go (t2 := (256, [vR y, vI 3, vI 1, vI 2, vI 0, vI 0, vI 3], [], aq_h m s F c_8)) rfl rfl ?_
  refine am_E.go (t2 := (175, [vR y, vI 3, vI 1, vI 2, vI 0, vI 0, vI 3], [], aq_h m s F c_8)) rfl rfl ?_
  refine am_E.go (t2 := (176, [vR y, vI 3, vI 1, vI 2, vI 0, vI 0, vI 3], [vI 2], aq_h m s F c_8)) rfl rfl ?_
  refine am_E.go (t2 := (177, [vR y, vI 3, vI 1, vI 2, vI 0, vI 0, vI 3], [vI 3, vI 2], aq_h m s F c_8)) rfl rfl ?_
  refine am_E.go (t2 := (180, [vR y, vI 3, vI 1, vI 2, vI 0, vI 0, vI 3], [], aq_h m s F c_8)) rfl rfl ?_
  refine am_E.go (t2 := (181, [vR y, vI 3, vI 1, vI 2, vI 0, vI 0, vI 3], [vR y], aq_h m s F c_8)) rfl rfl ?_
  refine aq_gf (v := vR (y + 13)) rfl (by omega) hFo (by decide) rfl ?_
  show am_E _ (184, [vR y, vI 3, vI 1, vI 2, vI 0, vI 0, vI 3], [vR (y + 13)], aq_h m s F c_8) _
  refine am_E.go (t2 := (185, [vR y, vI 3, vI 1, vI 2, vI 0, vI 0, vI 3], [vI 2, vR (y + 13)], aq_h m s F c_8)) rfl rfl ?_
  refine aq_al (ok := fun k => k == 1) (v := vI (c_8 (y + 13) 2)) rfl rfl (by omega) hG13 rfl (by decide) (by decide) rfl ?_
  rw [mtc_8.2.2.1]
  show am_E _ (186, [vR y, vI 3, vI 1, vI 2, vI 0, vI 0, vI 3], [vI 1], aq_h m s F c_8) _
  refine am_E.go (t2 := (253, [vR y, vI 3, vI 1, vI 2, vI 0, vI 0, vI 3], [], aq_h m s F c_8)) rfl rfl ?_
  refine am_E.go (t2 := (256, [vR y, vI 3, vI 1, vI 3, vI 0, vI 0, vI 3], [], aq_h m s F c_8)) rfl rfl ?_
  refine am_E.go (t2 := (175, [vR y, vI 3, vI 1, vI 3, vI 0, vI 0, vI 3], [], aq_h m s F c_8)) rfl rfl ?_
  refine am_E.go (t2 := (176, [vR y, vI 3, vI 1, vI 3, vI 0, vI 0, vI 3], [vI 3], aq_h m s F c_8)) rfl rfl ?_
  refine am_E.go (t2 := (177, [vR y, vI 3, vI 1, vI 3, vI 0, vI 0, vI 3], [vI 3, vI 3], aq_h m s F c_8)) rfl rfl ?_
  refine am_E.go (t2 := (259, [vR y, vI 3, vI 1, vI 3, vI 0, vI 0, vI 3], [], aq_h m s F c_8)) rfl rfl ?_
  refine am_E.go (t2 := (260, [vR y, vI 3, vI 1, vI 3, vI 0, vI 0, vI 3], [vI 1], aq_h m s F c_8)) rfl rfl ?_
  refine am_E.ret rfl rfl ?_
  exact ⟨_, rfl, sc_8, rfl⟩

theorem qm_fo_3101 {m s : Nat} {F : aq_F} {c : aq_C} {y : Nat} (hO : mo_0 m F y) (hA0 : c (y + 18) 0 = 1) (hA1 : c (y + 18) 1 = 0) (hA2 : c (y + 18) 2 = 3) (hB0 : c (y + 19) 0 = 3) (hB1 : c (y + 19) 1 = 2) (hB2 : c (y + 19) 2 = 1) : am_E ac_X5_formOf (0, [vR y, vI 3, vU, vU, vU, vU, vU], [], aq_h m s F c) (aq_Z m s F (fun a => a = y + 13) c (fun r _ => r = some (vI 0))) := by
  obtain ⟨hm, hFo, hG5, hG6, hG7, hG8, hG9, hG10, hG11, hG12, hG13, hG14, hG15, hG16, hG17, hG18, hG19, hG20, hG21, hG22, hG23⟩ := hO
  have hmt : mt_ y (c (y + 13) 0) (c (y + 13) 1) (c (y + 13) 2) (c (y + 13) 3) c := ⟨rfl, rfl, rfl, rfl⟩
  refine am_E.go (t2 := (1, [vR y, vI 3, vU, vU, vU, vU, vU], [vI 0], aq_h m s F c)) rfl rfl ?_
  refine am_E.go (t2 := (2, [vR y, vI 3, vI 0, vU, vU, vU, vU], [], aq_h m s F c)) rfl rfl ?_
  refine am_E.go (t2 := (3, [vR y, vI 3, vI 0, vU, vU, vU, vU], [vI 0], aq_h m s F c)) rfl rfl ?_
  refine am_E.go (t2 := (4, [vR y, vI 3, vI 0, vU, vU, vU, vU], [vI 4, vI 0], aq_h m s F c)) rfl rfl ?_
  refine am_E.go (t2 := (7, [vR y, vI 3, vI 0, vU, vU, vU, vU], [], aq_h m s F c)) rfl rfl ?_
  refine am_E.go (t2 := (8, [vR y, vI 3, vI 0, vU, vU, vU, vU], [vR y], aq_h m s F c)) rfl rfl ?_
  refine aq_gf (v := vR (y + 13)) rfl (by omega) hFo (by decide) rfl ?_
  show am_E _ (11, [vR y, vI 3, vI 0, vU, vU, vU, vU], [vR (y + 13)], aq_h m s F c) _
  refine am_E.go (t2 := (12, [vR y, vI 3, vI 0, vU, vU, vU, vU], [vI 0, vR (y + 13)], aq_h m s F c)) rfl rfl ?_
  refine am_E.go (t2 := (13, [vR y, vI 3, vI 0, vU, vU, vU, vU], [vI 0, vI 0, vR (y + 13)], aq_h m s F c)) rfl rfl ?_
  refine aq_as (kd := 1) rfl rfl (by omega) hG13 (by omega) (by omega) rfl rfl ?_
  show am_E _ (14, [vR y, vI 3, vI 0, vU, vU, vU, vU], [], aq_h m s F (aq_u c (y + 13) 0 0)) _
  generalize hdc_1 : aq_u c (y + 13) 0 0 = c_1
  have sc_1 := aq_smu (aq_sm0 (c := c) (S := fun a => a = y + 13)) hdc_1 rfl
  have mtc_1 := mt_0 hmt hdc_1
  refine am_E.go (t2 := (17, [vR y, vI 3, vI 1, vU, vU, vU, vU], [], aq_h m s F c_1)) rfl rfl ?_
  refine am_E.go (t2 := (2, [vR y, vI 3, vI 1, vU, vU, vU, vU], [], aq_h m s F c_1)) rfl rfl ?_
  refine am_E.go (t2 := (3, [vR y, vI 3, vI 1, vU, vU, vU, vU], [vI 1], aq_h m s F c_1)) rfl rfl ?_
  refine am_E.go (t2 := (4, [vR y, vI 3, vI 1, vU, vU, vU, vU], [vI 4, vI 1], aq_h m s F c_1)) rfl rfl ?_
  refine am_E.go (t2 := (7, [vR y, vI 3, vI 1, vU, vU, vU, vU], [], aq_h m s F c_1)) rfl rfl ?_
  refine am_E.go (t2 := (8, [vR y, vI 3, vI 1, vU, vU, vU, vU], [vR y], aq_h m s F c_1)) rfl rfl ?_
  refine aq_gf (v := vR (y + 13)) rfl (by omega) hFo (by decide) rfl ?_
  show am_E _ (11, [vR y, vI 3, vI 1, vU, vU, vU, vU], [vR (y + 13)], aq_h m s F c_1) _
  refine am_E.go (t2 := (12, [vR y, vI 3, vI 1, vU, vU, vU, vU], [vI 1, vR (y + 13)], aq_h m s F c_1)) rfl rfl ?_
  refine am_E.go (t2 := (13, [vR y, vI 3, vI 1, vU, vU, vU, vU], [vI 0, vI 1, vR (y + 13)], aq_h m s F c_1)) rfl rfl ?_
  refine aq_as (kd := 1) rfl rfl (by omega) hG13 (by omega) (by omega) rfl rfl ?_
  show am_E _ (14, [vR y, vI 3, vI 1, vU, vU, vU, vU], [], aq_h m s F (aq_u c_1 (y + 13) 1 0)) _
  generalize hdc_2 : aq_u c_1 (y + 13) 1 0 = c_2
  have sc_2 := aq_smu sc_1 hdc_2 rfl
  have mtc_2 := mt_1 mtc_1 hdc_2
  refine am_E.go (t2 := (17, [vR y, vI 3, vI 2, vU, vU, vU, vU], [], aq_h m s F c_2)) rfl rfl ?_
  refine am_E.go (t2 := (2, [vR y, vI 3, vI 2, vU, vU, vU, vU], [], aq_h m s F c_2)) rfl rfl ?_
  refine am_E.go (t2 := (3, [vR y, vI 3, vI 2, vU, vU, vU, vU], [vI 2], aq_h m s F c_2)) rfl rfl ?_
  refine am_E.go (t2 := (4, [vR y, vI 3, vI 2, vU, vU, vU, vU], [vI 4, vI 2], aq_h m s F c_2)) rfl rfl ?_
  refine am_E.go (t2 := (7, [vR y, vI 3, vI 2, vU, vU, vU, vU], [], aq_h m s F c_2)) rfl rfl ?_
  refine am_E.go (t2 := (8, [vR y, vI 3, vI 2, vU, vU, vU, vU], [vR y], aq_h m s F c_2)) rfl rfl ?_
  refine aq_gf (v := vR (y + 13)) rfl (by omega) hFo (by decide) rfl ?_
  show am_E _ (11, [vR y, vI 3, vI 2, vU, vU, vU, vU], [vR (y + 13)], aq_h m s F c_2) _
  refine am_E.go (t2 := (12, [vR y, vI 3, vI 2, vU, vU, vU, vU], [vI 2, vR (y + 13)], aq_h m s F c_2)) rfl rfl ?_
  refine am_E.go (t2 := (13, [vR y, vI 3, vI 2, vU, vU, vU, vU], [vI 0, vI 2, vR (y + 13)], aq_h m s F c_2)) rfl rfl ?_
  refine aq_as (kd := 1) rfl rfl (by omega) hG13 (by omega) (by omega) rfl rfl ?_
  show am_E _ (14, [vR y, vI 3, vI 2, vU, vU, vU, vU], [], aq_h m s F (aq_u c_2 (y + 13) 2 0)) _
  generalize hdc_3 : aq_u c_2 (y + 13) 2 0 = c_3
  have sc_3 := aq_smu sc_2 hdc_3 rfl
  have mtc_3 := mt_2 mtc_2 hdc_3
  refine am_E.go (t2 := (17, [vR y, vI 3, vI 3, vU, vU, vU, vU], [], aq_h m s F c_3)) rfl rfl ?_
  refine am_E.go (t2 := (2, [vR y, vI 3, vI 3, vU, vU, vU, vU], [], aq_h m s F c_3)) rfl rfl ?_
  refine am_E.go (t2 := (3, [vR y, vI 3, vI 3, vU, vU, vU, vU], [vI 3], aq_h m s F c_3)) rfl rfl ?_
  refine am_E.go (t2 := (4, [vR y, vI 3, vI 3, vU, vU, vU, vU], [vI 4, vI 3], aq_h m s F c_3)) rfl rfl ?_
  refine am_E.go (t2 := (7, [vR y, vI 3, vI 3, vU, vU, vU, vU], [], aq_h m s F c_3)) rfl rfl ?_
  refine am_E.go (t2 := (8, [vR y, vI 3, vI 3, vU, vU, vU, vU], [vR y], aq_h m s F c_3)) rfl rfl ?_
  refine aq_gf (v := vR (y + 13)) rfl (by omega) hFo (by decide) rfl ?_
  show am_E _ (11, [vR y, vI 3, vI 3, vU, vU, vU, vU], [vR (y + 13)], aq_h m s F c_3) _
  refine am_E.go (t2 := (12, [vR y, vI 3, vI 3, vU, vU, vU, vU], [vI 3, vR (y + 13)], aq_h m s F c_3)) rfl rfl ?_
  refine am_E.go (t2 := (13, [vR y, vI 3, vI 3, vU, vU, vU, vU], [vI 0, vI 3, vR (y + 13)], aq_h m s F c_3)) rfl rfl ?_
  refine aq_as (kd := 1) rfl rfl (by omega) hG13 (by omega) (by omega) rfl rfl ?_
  show am_E _ (14, [vR y, vI 3, vI 3, vU, vU, vU, vU], [], aq_h m s F (aq_u c_3 (y + 13) 3 0)) _
  generalize hdc_4 : aq_u c_3 (y + 13) 3 0 = c_4
  have sc_4 := aq_smu sc_3 hdc_4 rfl
  have mtc_4 := mt_3 mtc_3 hdc_4
  refine am_E.go (t2 := (17, [vR y, vI 3, vI 4, vU, vU, vU, vU], [], aq_h m s F c_4)) rfl rfl ?_
  refine am_E.go (t2 := (2, [vR y, vI 3, vI 4, vU, vU, vU, vU], [], aq_h m s F c_4)) rfl rfl ?_
  refine am_E.go (t2 := (3, [vR y, vI 3, vI 4, vU, vU, vU, vU], [vI 4], aq_h m s F c_4)) rfl rfl ?_
  refine am_E.go (t2 := (4, [vR y, vI 3, vI 4, vU, vU, vU, vU], [vI 4, vI 4], aq_h m s F c_4)) rfl rfl ?_
  refine am_E.go (t2 := (20, [vR y, vI 3, vI 4, vU, vU, vU, vU], [], aq_h m s F c_4)) rfl rfl ?_
  refine am_E.go (t2 := (21, [vR y, vI 3, vI 4, vU, vU, vU, vU], [vI 0], aq_h m s F c_4)) rfl rfl ?_
  refine am_E.go (t2 := (22, [vR y, vI 3, vI 0, vU, vU, vU, vU], [], aq_h m s F c_4)) rfl rfl ?_
  refine am_E.go (t2 := (23, [vR y, vI 3, vI 0, vU, vU, vU, vU], [vI 0], aq_h m s F c_4)) rfl rfl ?_
  refine am_E.go (t2 := (24, [vR y, vI 3, vI 0, vU, vU, vU, vU], [vI 3, vI 0], aq_h m s F c_4)) rfl rfl ?_
  refine am_E.go (t2 := (27, [vR y, vI 3, vI 0, vU, vU, vU, vU], [], aq_h m s F c_4)) rfl rfl ?_
  refine am_E.go (t2 := (28, [vR y, vI 3, vI 0, vU, vU, vU, vU], [vR y], aq_h m s F c_4)) rfl rfl ?_
  refine aq_gf (v := vR (y + 18)) rfl (by omega) hFo (by decide) rfl ?_
  show am_E _ (31, [vR y, vI 3, vI 0, vU, vU, vU, vU], [vR (y + 18)], aq_h m s F c_4) _
  refine am_E.go (t2 := (32, [vR y, vI 3, vI 0, vU, vU, vU, vU], [vI 0, vR (y + 18)], aq_h m s F c_4)) rfl rfl ?_
  refine aq_al (ok := fun k => k == 0) (v := vI (c_4 (y + 18) 0)) rfl rfl (by omega) hG18 rfl (by decide) (by decide) rfl ?_
  rw [sc_4 (y + 18) (by omega), hA0]
  show am_E _ (33, [vR y, vI 3, vI 0, vU, vU, vU, vU], [vI 1], aq_h m s F c_4) _
  refine am_E.go (t2 := (34, [vR y, vI 3, vI 0, vU, vU, vU, vU], [vI 3, vI 1], aq_h m s F c_4)) rfl rfl ?_
  refine am_E.go (t2 := (130, [vR y, vI 3, vI 0, vU, vU, vU, vU], [], aq_h m s F c_4)) rfl rfl ?_
  refine am_E.go (t2 := (133, [vR y, vI 3, vI 1, vU, vU, vU, vU], [], aq_h m s F c_4)) rfl rfl ?_
  refine am_E.go (t2 := (22, [vR y, vI 3, vI 1, vU, vU, vU, vU], [], aq_h m s F c_4)) rfl rfl ?_
  refine am_E.go (t2 := (23, [vR y, vI 3, vI 1, vU, vU, vU, vU], [vI 1], aq_h m s F c_4)) rfl rfl ?_
  refine am_E.go (t2 := (24, [vR y, vI 3, vI 1, vU, vU, vU, vU], [vI 3, vI 1], aq_h m s F c_4)) rfl rfl ?_
  refine am_E.go (t2 := (27, [vR y, vI 3, vI 1, vU, vU, vU, vU], [], aq_h m s F c_4)) rfl rfl ?_
  refine am_E.go (t2 := (28, [vR y, vI 3, vI 1, vU, vU, vU, vU], [vR y], aq_h m s F c_4)) rfl rfl ?_
  refine aq_gf (v := vR (y + 18)) rfl (by omega) hFo (by decide) rfl ?_
  show am_E _ (31, [vR y, vI 3, vI 1, vU, vU, vU, vU], [vR (y + 18)], aq_h m s F c_4) _
  refine am_E.go (t2 := (32, [vR y, vI 3, vI 1, vU, vU, vU, vU], [vI 1, vR (y + 18)], aq_h m s F c_4)) rfl rfl ?_
  refine aq_al (ok := fun k => k == 0) (v := vI (c_4 (y + 18) 1)) rfl rfl (by omega) hG18 rfl (by decide) (by decide) rfl ?_
  rw [sc_4 (y + 18) (by omega), hA1]
  show am_E _ (33, [vR y, vI 3, vI 1, vU, vU, vU, vU], [vI 0], aq_h m s F c_4) _
  refine am_E.go (t2 := (34, [vR y, vI 3, vI 1, vU, vU, vU, vU], [vI 3, vI 0], aq_h m s F c_4)) rfl rfl ?_
  refine am_E.go (t2 := (130, [vR y, vI 3, vI 1, vU, vU, vU, vU], [], aq_h m s F c_4)) rfl rfl ?_
  refine am_E.go (t2 := (133, [vR y, vI 3, vI 2, vU, vU, vU, vU], [], aq_h m s F c_4)) rfl rfl ?_
  refine am_E.go (t2 := (22, [vR y, vI 3, vI 2, vU, vU, vU, vU], [], aq_h m s F c_4)) rfl rfl ?_
  refine am_E.go (t2 := (23, [vR y, vI 3, vI 2, vU, vU, vU, vU], [vI 2], aq_h m s F c_4)) rfl rfl ?_
  refine am_E.go (t2 := (24, [vR y, vI 3, vI 2, vU, vU, vU, vU], [vI 3, vI 2], aq_h m s F c_4)) rfl rfl ?_
  refine am_E.go (t2 := (27, [vR y, vI 3, vI 2, vU, vU, vU, vU], [], aq_h m s F c_4)) rfl rfl ?_
  refine am_E.go (t2 := (28, [vR y, vI 3, vI 2, vU, vU, vU, vU], [vR y], aq_h m s F c_4)) rfl rfl ?_
  refine aq_gf (v := vR (y + 18)) rfl (by omega) hFo (by decide) rfl ?_
  show am_E _ (31, [vR y, vI 3, vI 2, vU, vU, vU, vU], [vR (y + 18)], aq_h m s F c_4) _
  refine am_E.go (t2 := (32, [vR y, vI 3, vI 2, vU, vU, vU, vU], [vI 2, vR (y + 18)], aq_h m s F c_4)) rfl rfl ?_
  refine aq_al (ok := fun k => k == 0) (v := vI (c_4 (y + 18) 2)) rfl rfl (by omega) hG18 rfl (by decide) (by decide) rfl ?_
  rw [sc_4 (y + 18) (by omega), hA2]
  show am_E _ (33, [vR y, vI 3, vI 2, vU, vU, vU, vU], [vI 3], aq_h m s F c_4) _
  refine am_E.go (t2 := (34, [vR y, vI 3, vI 2, vU, vU, vU, vU], [vI 3, vI 3], aq_h m s F c_4)) rfl rfl ?_
  refine am_E.go (t2 := (37, [vR y, vI 3, vI 2, vU, vU, vU, vU], [], aq_h m s F c_4)) rfl rfl ?_
  refine am_E.go (t2 := (38, [vR y, vI 3, vI 2, vU, vU, vU, vU], [vI 2], aq_h m s F c_4)) rfl rfl ?_
  refine am_E.go (t2 := (39, [vR y, vI 3, vI 2, vI 2, vU, vU, vU], [], aq_h m s F c_4)) rfl rfl ?_
  refine am_E.go (t2 := (40, [vR y, vI 3, vI 2, vI 2, vU, vU, vU], [vI 1], aq_h m s F c_4)) rfl rfl ?_
  refine am_E.go (t2 := (42, [vR y, vI 3, vI 2, vI 2, vI 1, vU, vU], [], aq_h m s F c_4)) rfl rfl ?_
  refine am_E.go (t2 := (43, [vR y, vI 3, vI 2, vI 2, vI 1, vU, vU], [vI 1], aq_h m s F c_4)) rfl rfl ?_
  refine am_E.go (t2 := (45, [vR y, vI 3, vI 2, vI 2, vI 1, vI 1, vU], [], aq_h m s F c_4)) rfl rfl ?_
  refine am_E.go (t2 := (47, [vR y, vI 3, vI 2, vI 2, vI 1, vI 1, vU], [vI 1], aq_h m s F c_4)) rfl rfl ?_
  refine am_E.go (t2 := (50, [vR y, vI 3, vI 2, vI 2, vI 1, vI 1, vU], [], aq_h m s F c_4)) rfl rfl ?_
  refine am_E.go (t2 := (51, [vR y, vI 3, vI 2, vI 2, vI 1, vI 1, vU], [vR y], aq_h m s F c_4)) rfl rfl ?_
  refine aq_gf (v := vR (y + 13)) rfl (by omega) hFo (by decide) rfl ?_
  show am_E _ (54, [vR y, vI 3, vI 2, vI 2, vI 1, vI 1, vU], [vR (y + 13)], aq_h m s F c_4) _
  refine am_E.go (t2 := (55, [vR y, vI 3, vI 2, vI 2, vI 1, vI 1, vU], [vI 2, vR (y + 13)], aq_h m s F c_4)) rfl rfl ?_
  refine am_E.go (t2 := (56, [vR y, vI 3, vI 2, vI 2, vI 1, vI 1, vU], [vI 1, vI 2, vR (y + 13)], aq_h m s F c_4)) rfl rfl ?_
  refine aq_as (kd := 1) rfl rfl (by omega) hG13 (by omega) (by omega) rfl rfl ?_
  show am_E _ (57, [vR y, vI 3, vI 2, vI 2, vI 1, vI 1, vU], [], aq_h m s F (aq_u c_4 (y + 13) 2 1)) _
  generalize hdc_5 : aq_u c_4 (y + 13) 2 1 = c_5
  have sc_5 := aq_smu sc_4 hdc_5 rfl
  have mtc_5 := mt_2 mtc_4 hdc_5
  refine am_E.go (t2 := (59, [vR y, vI 3, vI 2, vI 2, vI 1, vI 1, vU], [vI 1], aq_h m s F c_5)) rfl rfl ?_
  refine am_E.go (t2 := (62, [vR y, vI 3, vI 2, vI 2, vI 1, vI 1, vU], [], aq_h m s F c_5)) rfl rfl ?_
  refine am_E.go (t2 := (63, [vR y, vI 3, vI 2, vI 2, vI 1, vI 1, vU], [vR y], aq_h m s F c_5)) rfl rfl ?_
  refine aq_gf (v := vR (y + 19)) rfl (by omega) hFo (by decide) rfl ?_
  show am_E _ (66, [vR y, vI 3, vI 2, vI 2, vI 1, vI 1, vU], [vR (y + 19)], aq_h m s F c_5) _
  refine am_E.go (t2 := (67, [vR y, vI 3, vI 2, vI 2, vI 1, vI 1, vU], [vI 2, vR (y + 19)], aq_h m s F c_5)) rfl rfl ?_
  refine aq_al (ok := fun k => k == 0) (v := vI (c_5 (y + 19) 2)) rfl rfl (by omega) hG19 rfl (by decide) (by decide) rfl ?_
  rw [sc_5 (y + 19) (by omega), hB2]
  show am_E _ (68, [vR y, vI 3, vI 2, vI 2, vI 1, vI 1, vU], [vI 1], aq_h m s F c_5) _
  refine am_E.go (t2 := (77, [vR y, vI 3, vI 2, vI 2, vI 1, vI 1, vU], [vI 1], aq_h m s F c_5)) rfl rfl ?_
  refine am_E.go (t2 := (79, [vR y, vI 3, vI 2, vI 2, vI 1, vI 1, vI 1], [], aq_h m s F c_5)) rfl rfl ?_
  refine am_E.go (t2 := (81, [vR y, vI 3, vI 2, vI 2, vI 1, vI 1, vI 1], [vI 1], aq_h m s F c_5)) rfl rfl ?_
  refine am_E.go (t2 := (82, [vR y, vI 3, vI 2, vI 2, vI 1, vI 1, vI 1], [vI 3, vI 1], aq_h m s F c_5)) rfl rfl ?_
  refine am_E.go (t2 := (85, [vR y, vI 3, vI 2, vI 2, vI 1, vI 1, vI 1], [], aq_h m s F c_5)) rfl rfl ?_
  refine am_E.go (t2 := (86, [vR y, vI 3, vI 2, vI 2, vI 1, vI 1, vI 1], [vI 1], aq_h m s F c_5)) rfl rfl ?_
  refine am_E.go (t2 := (90, [vR y, vI 3, vI 2, vI 2, vI 1, vI 1, vI 1], [vI 1], aq_h m s F c_5)) rfl rfl ?_
  refine am_E.go (t2 := (92, [vR y, vI 3, vI 2, vI 2, vI 1, vI 1, vI 1], [], aq_h m s F c_5)) rfl rfl ?_
  refine am_E.go (t2 := (94, [vR y, vI 3, vI 2, vI 2, vI 1, vI 1, vI 1], [vI 1], aq_h m s F c_5)) rfl rfl ?_
  refine am_E.go (t2 := (97, [vR y, vI 3, vI 2, vI 2, vI 1, vI 1, vI 1], [], aq_h m s F c_5)) rfl rfl ?_
  refine am_E.go (t2 := (99, [vR y, vI 3, vI 2, vI 2, vI 1, vI 1, vI 1], [vI 1], aq_h m s F c_5)) rfl rfl ?_
  refine am_E.go (t2 := (100, [vR y, vI 3, vI 2, vI 1, vI 1, vI 1, vI 1], [], aq_h m s F c_5)) rfl rfl ?_
  refine am_E.go (t2 := (102, [vR y, vI 3, vI 2, vI 1, vI 1, vI 1, vI 1], [vI 1], aq_h m s F c_5)) rfl rfl ?_
  refine am_E.go (t2 := (109, [vR y, vI 3, vI 2, vI 1, vI 1, vI 1, vI 1], [], aq_h m s F c_5)) rfl rfl ?_
  refine am_E.go (t2 := (110, [vR y, vI 3, vI 2, vI 1, vI 1, vI 1, vI 1], [vI 0], aq_h m s F c_5)) rfl rfl ?_
  refine am_E.go (t2 := (112, [vR y, vI 3, vI 2, vI 1, vI 0, vI 1, vI 1], [], aq_h m s F c_5)) rfl rfl ?_
  refine am_E.go (t2 := (45, [vR y, vI 3, vI 2, vI 1, vI 0, vI 1, vI 1], [], aq_h m s F c_5)) rfl rfl ?_
  refine am_E.go (t2 := (47, [vR y, vI 3, vI 2, vI 1, vI 0, vI 1, vI 1], [vI 1], aq_h m s F c_5)) rfl rfl ?_
  refine am_E.go (t2 := (50, [vR y, vI 3, vI 2, vI 1, vI 0, vI 1, vI 1], [], aq_h m s F c_5)) rfl rfl ?_
  refine am_E.go (t2 := (51, [vR y, vI 3, vI 2, vI 1, vI 0, vI 1, vI 1], [vR y], aq_h m s F c_5)) rfl rfl ?_
  refine aq_gf (v := vR (y + 13)) rfl (by omega) hFo (by decide) rfl ?_
  show am_E _ (54, [vR y, vI 3, vI 2, vI 1, vI 0, vI 1, vI 1], [vR (y + 13)], aq_h m s F c_5) _
  refine am_E.go (t2 := (55, [vR y, vI 3, vI 2, vI 1, vI 0, vI 1, vI 1], [vI 1, vR (y + 13)], aq_h m s F c_5)) rfl rfl ?_
  refine am_E.go (t2 := (56, [vR y, vI 3, vI 2, vI 1, vI 0, vI 1, vI 1], [vI 1, vI 1, vR (y + 13)], aq_h m s F c_5)) rfl rfl ?_
  refine aq_as (kd := 1) rfl rfl (by omega) hG13 (by omega) (by omega) rfl rfl ?_
  show am_E _ (57, [vR y, vI 3, vI 2, vI 1, vI 0, vI 1, vI 1], [], aq_h m s F (aq_u c_5 (y + 13) 1 1)) _
  generalize hdc_6 : aq_u c_5 (y + 13) 1 1 = c_6
  have sc_6 := aq_smu sc_5 hdc_6 rfl
  have mtc_6 := mt_1 mtc_5 hdc_6
  refine am_E.go (t2 := (59, [vR y, vI 3, vI 2, vI 1, vI 0, vI 1, vI 1], [vI 0], aq_h m s F c_6)) rfl rfl ?_
  refine am_E.go (t2 := (71, [vR y, vI 3, vI 2, vI 1, vI 0, vI 1, vI 1], [], aq_h m s F c_6)) rfl rfl ?_
  refine am_E.go (t2 := (72, [vR y, vI 3, vI 2, vI 1, vI 0, vI 1, vI 1], [vR y], aq_h m s F c_6)) rfl rfl ?_
  refine aq_gf (v := vR (y + 18)) rfl (by omega) hFo (by decide) rfl ?_
  show am_E _ (75, [vR y, vI 3, vI 2, vI 1, vI 0, vI 1, vI 1], [vR (y + 18)], aq_h m s F c_6) _
  refine am_E.go (t2 := (76, [vR y, vI 3, vI 2, vI 1, vI 0, vI 1, vI 1], [vI 1, vR (y + 18)], aq_h m s F c_6)) rfl rfl ?_
  refine aq_al (ok := fun k => k == 0) (v := vI (c_6 (y + 18) 1)) rfl rfl (by omega) hG18 rfl (by decide) (by decide) rfl ?_
  rw [sc_6 (y + 18) (by omega), hA1]
  show am_E _ (77, [vR y, vI 3, vI 2, vI 1, vI 0, vI 1, vI 1], [vI 0], aq_h m s F c_6) _
  refine am_E.go (t2 := (79, [vR y, vI 3, vI 2, vI 1, vI 0, vI 1, vI 0], [], aq_h m s F c_6)) rfl rfl ?_
  refine am_E.go (t2 := (81, [vR y, vI 3, vI 2, vI 1, vI 0, vI 1, vI 0], [vI 0], aq_h m s F c_6)) rfl rfl ?_
  refine am_E.go (t2 := (82, [vR y, vI 3, vI 2, vI 1, vI 0, vI 1, vI 0], [vI 3, vI 0], aq_h m s F c_6)) rfl rfl ?_
  refine am_E.go (t2 := (85, [vR y, vI 3, vI 2, vI 1, vI 0, vI 1, vI 0], [], aq_h m s F c_6)) rfl rfl ?_
  refine am_E.go (t2 := (86, [vR y, vI 3, vI 2, vI 1, vI 0, vI 1, vI 0], [vI 1], aq_h m s F c_6)) rfl rfl ?_
  refine am_E.go (t2 := (90, [vR y, vI 3, vI 2, vI 1, vI 0, vI 1, vI 0], [vI 1], aq_h m s F c_6)) rfl rfl ?_
  refine am_E.go (t2 := (92, [vR y, vI 3, vI 2, vI 1, vI 0, vI 1, vI 0], [], aq_h m s F c_6)) rfl rfl ?_
  refine am_E.go (t2 := (94, [vR y, vI 3, vI 2, vI 1, vI 0, vI 1, vI 0], [vI 1], aq_h m s F c_6)) rfl rfl ?_
  refine am_E.go (t2 := (97, [vR y, vI 3, vI 2, vI 1, vI 0, vI 1, vI 0], [], aq_h m s F c_6)) rfl rfl ?_
  refine am_E.go (t2 := (99, [vR y, vI 3, vI 2, vI 1, vI 0, vI 1, vI 0], [vI 0], aq_h m s F c_6)) rfl rfl ?_
  refine am_E.go (t2 := (100, [vR y, vI 3, vI 2, vI 0, vI 0, vI 1, vI 0], [], aq_h m s F c_6)) rfl rfl ?_
  refine am_E.go (t2 := (102, [vR y, vI 3, vI 2, vI 0, vI 0, vI 1, vI 0], [vI 0], aq_h m s F c_6)) rfl rfl ?_
  refine am_E.go (t2 := (105, [vR y, vI 3, vI 2, vI 0, vI 0, vI 1, vI 0], [], aq_h m s F c_6)) rfl rfl ?_
  refine am_E.go (t2 := (106, [vR y, vI 3, vI 2, vI 0, vI 0, vI 1, vI 0], [vI 1], aq_h m s F c_6)) rfl rfl ?_
  refine am_E.go (t2 := (110, [vR y, vI 3, vI 2, vI 0, vI 0, vI 1, vI 0], [vI 1], aq_h m s F c_6)) rfl rfl ?_
  refine am_E.go (t2 := (112, [vR y, vI 3, vI 2, vI 0, vI 1, vI 1, vI 0], [], aq_h m s F c_6)) rfl rfl ?_
  refine am_E.go (t2 := (45, [vR y, vI 3, vI 2, vI 0, vI 1, vI 1, vI 0], [], aq_h m s F c_6)) rfl rfl ?_
  refine am_E.go (t2 := (47, [vR y, vI 3, vI 2, vI 0, vI 1, vI 1, vI 0], [vI 1], aq_h m s F c_6)) rfl rfl ?_
  refine am_E.go (t2 := (50, [vR y, vI 3, vI 2, vI 0, vI 1, vI 1, vI 0], [], aq_h m s F c_6)) rfl rfl ?_
  refine am_E.go (t2 := (51, [vR y, vI 3, vI 2, vI 0, vI 1, vI 1, vI 0], [vR y], aq_h m s F c_6)) rfl rfl ?_
  refine aq_gf (v := vR (y + 13)) rfl (by omega) hFo (by decide) rfl ?_
  show am_E _ (54, [vR y, vI 3, vI 2, vI 0, vI 1, vI 1, vI 0], [vR (y + 13)], aq_h m s F c_6) _
  refine am_E.go (t2 := (55, [vR y, vI 3, vI 2, vI 0, vI 1, vI 1, vI 0], [vI 0, vR (y + 13)], aq_h m s F c_6)) rfl rfl ?_
  refine am_E.go (t2 := (56, [vR y, vI 3, vI 2, vI 0, vI 1, vI 1, vI 0], [vI 1, vI 0, vR (y + 13)], aq_h m s F c_6)) rfl rfl ?_
  refine aq_as (kd := 1) rfl rfl (by omega) hG13 (by omega) (by omega) rfl rfl ?_
  show am_E _ (57, [vR y, vI 3, vI 2, vI 0, vI 1, vI 1, vI 0], [], aq_h m s F (aq_u c_6 (y + 13) 0 1)) _
  generalize hdc_7 : aq_u c_6 (y + 13) 0 1 = c_7
  have sc_7 := aq_smu sc_6 hdc_7 rfl
  have mtc_7 := mt_0 mtc_6 hdc_7
  refine am_E.go (t2 := (59, [vR y, vI 3, vI 2, vI 0, vI 1, vI 1, vI 0], [vI 1], aq_h m s F c_7)) rfl rfl ?_
  refine am_E.go (t2 := (62, [vR y, vI 3, vI 2, vI 0, vI 1, vI 1, vI 0], [], aq_h m s F c_7)) rfl rfl ?_
  refine am_E.go (t2 := (63, [vR y, vI 3, vI 2, vI 0, vI 1, vI 1, vI 0], [vR y], aq_h m s F c_7)) rfl rfl ?_
  refine aq_gf (v := vR (y + 19)) rfl (by omega) hFo (by decide) rfl ?_
  show am_E _ (66, [vR y, vI 3, vI 2, vI 0, vI 1, vI 1, vI 0], [vR (y + 19)], aq_h m s F c_7) _
  refine am_E.go (t2 := (67, [vR y, vI 3, vI 2, vI 0, vI 1, vI 1, vI 0], [vI 0, vR (y + 19)], aq_h m s F c_7)) rfl rfl ?_
  refine aq_al (ok := fun k => k == 0) (v := vI (c_7 (y + 19) 0)) rfl rfl (by omega) hG19 rfl (by decide) (by decide) rfl ?_
  rw [sc_7 (y + 19) (by omega), hB0]
  show am_E _ (68, [vR y, vI 3, vI 2, vI 0, vI 1, vI 1, vI 0], [vI 3], aq_h m s F c_7) _
  refine am_E.go (t2 := (77, [vR y, vI 3, vI 2, vI 0, vI 1, vI 1, vI 0], [vI 3], aq_h m s F c_7)) rfl rfl ?_
  refine am_E.go (t2 := (79, [vR y, vI 3, vI 2, vI 0, vI 1, vI 1, vI 3], [], aq_h m s F c_7)) rfl rfl ?_
  refine am_E.go (t2 := (81, [vR y, vI 3, vI 2, vI 0, vI 1, vI 1, vI 3], [vI 3], aq_h m s F c_7)) rfl rfl ?_
  refine am_E.go (t2 := (82, [vR y, vI 3, vI 2, vI 0, vI 1, vI 1, vI 3], [vI 3, vI 3], aq_h m s F c_7)) rfl rfl ?_
  refine am_E.go (t2 := (89, [vR y, vI 3, vI 2, vI 0, vI 1, vI 1, vI 3], [], aq_h m s F c_7)) rfl rfl ?_
  refine am_E.go (t2 := (90, [vR y, vI 3, vI 2, vI 0, vI 1, vI 1, vI 3], [vI 0], aq_h m s F c_7)) rfl rfl ?_
  refine am_E.go (t2 := (92, [vR y, vI 3, vI 2, vI 0, vI 1, vI 0, vI 3], [], aq_h m s F c_7)) rfl rfl ?_
  refine am_E.go (t2 := (94, [vR y, vI 3, vI 2, vI 0, vI 1, vI 0, vI 3], [vI 0], aq_h m s F c_7)) rfl rfl ?_
  refine am_E.go (t2 := (112, [vR y, vI 3, vI 2, vI 0, vI 1, vI 0, vI 3], [], aq_h m s F c_7)) rfl rfl ?_
  refine am_E.go (t2 := (45, [vR y, vI 3, vI 2, vI 0, vI 1, vI 0, vI 3], [], aq_h m s F c_7)) rfl rfl ?_
  refine am_E.go (t2 := (47, [vR y, vI 3, vI 2, vI 0, vI 1, vI 0, vI 3], [vI 0], aq_h m s F c_7)) rfl rfl ?_
  refine am_E.go (t2 := (115, [vR y, vI 3, vI 2, vI 0, vI 1, vI 0, vI 3], [], aq_h m s F c_7)) rfl rfl ?_
  refine am_E.go (t2 := (116, [vR y, vI 3, vI 2, vI 0, vI 1, vI 0, vI 3], [vR y], aq_h m s F c_7)) rfl rfl ?_
  refine aq_gf (v := vR (y + 13)) rfl (by omega) hFo (by decide) rfl ?_
  show am_E _ (119, [vR y, vI 3, vI 2, vI 0, vI 1, vI 0, vI 3], [vR (y + 13)], aq_h m s F c_7) _
  refine am_E.go (t2 := (120, [vR y, vI 3, vI 2, vI 0, vI 1, vI 0, vI 3], [vI 0, vR (y + 13)], aq_h m s F c_7)) rfl rfl ?_
  refine am_E.go (t2 := (121, [vR y, vI 3, vI 2, vI 0, vI 1, vI 0, vI 3], [vI 1, vI 0, vR (y + 13)], aq_h m s F c_7)) rfl rfl ?_
  refine aq_as (kd := 1) rfl rfl (by omega) hG13 (by omega) (by omega) rfl rfl ?_
  show am_E _ (122, [vR y, vI 3, vI 2, vI 0, vI 1, vI 0, vI 3], [], aq_h m s F (aq_u c_7 (y + 13) 0 1)) _
  generalize hdc_8 : aq_u c_7 (y + 13) 0 1 = c_8
  have sc_8 := aq_smu sc_7 hdc_8 rfl
  have mtc_8 := mt_0 mtc_7 hdc_8
  refine am_E.go (t2 := (124, [vR y, vI 3, vI 2, vI 0, vI 1, vI 0, vI 3], [vI 1], aq_h m s F c_8)) rfl rfl ?_
  refine am_E.go (t2 := (130, [vR y, vI 3, vI 2, vI 0, vI 1, vI 0, vI 3], [], aq_h m s F c_8)) rfl rfl ?_
  refine am_E.go (t2 := (133, [vR y, vI 3, vI 3, vI 0, vI 1, vI 0, vI 3], [], aq_h m s F c_8)) rfl rfl ?_
  refine am_E.go (t2 := (22, [vR y, vI 3, vI 3, vI 0, vI 1, vI 0, vI 3], [], aq_h m s F c_8)) rfl rfl ?_
  refine am_E.go (t2 := (23, [vR y, vI 3, vI 3, vI 0, vI 1, vI 0, vI 3], [vI 3], aq_h m s F c_8)) rfl rfl ?_
  refine am_E.go (t2 := (24, [vR y, vI 3, vI 3, vI 0, vI 1, vI 0, vI 3], [vI 3, vI 3], aq_h m s F c_8)) rfl rfl ?_
  refine am_E.go (t2 := (136, [vR y, vI 3, vI 3, vI 0, vI 1, vI 0, vI 3], [], aq_h m s F c_8)) rfl rfl ?_
  refine am_E.go (t2 := (137, [vR y, vI 3, vI 3, vI 0, vI 1, vI 0, vI 3], [vI 0], aq_h m s F c_8)) rfl rfl ?_
  refine am_E.go (t2 := (138, [vR y, vI 3, vI 0, vI 0, vI 1, vI 0, vI 3], [], aq_h m s F c_8)) rfl rfl ?_
  refine am_E.go (t2 := (139, [vR y, vI 3, vI 0, vI 0, vI 1, vI 0, vI 3], [vI 0], aq_h m s F c_8)) rfl rfl ?_
  refine am_E.go (t2 := (140, [vR y, vI 3, vI 0, vI 0, vI 1, vI 0, vI 3], [vI 3, vI 0], aq_h m s F c_8)) rfl rfl ?_
  refine am_E.go (t2 := (143, [vR y, vI 3, vI 0, vI 0, vI 1, vI 0, vI 3], [], aq_h m s F c_8)) rfl rfl ?_
  refine am_E.go (t2 := (144, [vR y, vI 3, vI 0, vI 0, vI 1, vI 0, vI 3], [vR y], aq_h m s F c_8)) rfl rfl ?_
  refine aq_gf (v := vR (y + 13)) rfl (by omega) hFo (by decide) rfl ?_
  show am_E _ (147, [vR y, vI 3, vI 0, vI 0, vI 1, vI 0, vI 3], [vR (y + 13)], aq_h m s F c_8) _
  refine am_E.go (t2 := (148, [vR y, vI 3, vI 0, vI 0, vI 1, vI 0, vI 3], [vI 0, vR (y + 13)], aq_h m s F c_8)) rfl rfl ?_
  refine aq_al (ok := fun k => k == 1) (v := vI (c_8 (y + 13) 0)) rfl rfl (by omega) hG13 rfl (by decide) (by decide) rfl ?_
  rw [mtc_8.1]
  show am_E _ (149, [vR y, vI 3, vI 0, vI 0, vI 1, vI 0, vI 3], [vI 1], aq_h m s F c_8) _
  refine am_E.go (t2 := (165, [vR y, vI 3, vI 0, vI 0, vI 1, vI 0, vI 3], [], aq_h m s F c_8)) rfl rfl ?_
  refine am_E.go (t2 := (168, [vR y, vI 3, vI 1, vI 0, vI 1, vI 0, vI 3], [], aq_h m s F c_8)) rfl rfl ?_
  refine am_E.go (t2 := (138, [vR y, vI 3, vI 1, vI 0, vI 1, vI 0, vI 3], [], aq_h m s F c_8)) rfl rfl ?_
  refine am_E.go (t2 := (139, [vR y, vI 3, vI 1, vI 0, vI 1, vI 0, vI 3], [vI 1], aq_h m s F c_8)) rfl rfl ?_
  refine am_E.go (t2 := (140, [vR y, vI 3, vI 1, vI 0, vI 1, vI 0, vI 3], [vI 3, vI 1], aq_h m s F c_8)) rfl rfl ?_
  refine am_E.go (t2 := (143, [vR y, vI 3, vI 1, vI 0, vI 1, vI 0, vI 3], [], aq_h m s F c_8)) rfl rfl ?_
  refine am_E.go (t2 := (144, [vR y, vI 3, vI 1, vI 0, vI 1, vI 0, vI 3], [vR y], aq_h m s F c_8)) rfl rfl ?_
  refine aq_gf (v := vR (y + 13)) rfl (by omega) hFo (by decide) rfl ?_
  show am_E _ (147, [vR y, vI 3, vI 1, vI 0, vI 1, vI 0, vI 3], [vR (y + 13)], aq_h m s F c_8) _
  refine am_E.go (t2 := (148, [vR y, vI 3, vI 1, vI 0, vI 1, vI 0, vI 3], [vI 1, vR (y + 13)], aq_h m s F c_8)) rfl rfl ?_
  refine aq_al (ok := fun k => k == 1) (v := vI (c_8 (y + 13) 1)) rfl rfl (by omega) hG13 rfl (by decide) (by decide) rfl ?_
  rw [mtc_8.2.1]
  show am_E _ (149, [vR y, vI 3, vI 1, vI 0, vI 1, vI 0, vI 3], [vI 1], aq_h m s F c_8) _
  refine am_E.go (t2 := (165, [vR y, vI 3, vI 1, vI 0, vI 1, vI 0, vI 3], [], aq_h m s F c_8)) rfl rfl ?_
  refine am_E.go (t2 := (168, [vR y, vI 3, vI 2, vI 0, vI 1, vI 0, vI 3], [], aq_h m s F c_8)) rfl rfl ?_
  refine am_E.go (t2 := (138, [vR y, vI 3, vI 2, vI 0, vI 1, vI 0, vI 3], [], aq_h m s F c_8)) rfl rfl ?_
  refine am_E.go (t2 := (139, [vR y, vI 3, vI 2, vI 0, vI 1, vI 0, vI 3], [vI 2], aq_h m s F c_8)) rfl rfl ?_
  refine am_E.go (t2 := (140, [vR y, vI 3, vI 2, vI 0, vI 1, vI 0, vI 3], [vI 3, vI 2], aq_h m s F c_8)) rfl rfl ?_
  refine am_E.go (t2 := (143, [vR y, vI 3, vI 2, vI 0, vI 1, vI 0, vI 3], [], aq_h m s F c_8)) rfl rfl ?_
  refine am_E.go (t2 := (144, [vR y, vI 3, vI 2, vI 0, vI 1, vI 0, vI 3], [vR y], aq_h m s F c_8)) rfl rfl ?_
  refine aq_gf (v := vR (y + 13)) rfl (by omega) hFo (by decide) rfl ?_
  show am_E _ (147, [vR y, vI 3, vI 2, vI 0, vI 1, vI 0, vI 3], [vR (y + 13)], aq_h m s F c_8) _
  refine am_E.go (t2 := (148, [vR y, vI 3, vI 2, vI 0, vI 1, vI 0, vI 3], [vI 2, vR (y + 13)], aq_h m s F c_8)) rfl rfl ?_
  refine aq_al (ok := fun k => k == 1) (v := vI (c_8 (y + 13) 2)) rfl rfl (by omega) hG13 rfl (by decide) (by decide) rfl ?_
  rw [mtc_8.2.2.1]
  show am_E _ (149, [vR y, vI 3, vI 2, vI 0, vI 1, vI 0, vI 3], [vI 1], aq_h m s F c_8) _
  refine am_E.go (t2 := (165, [vR y, vI 3, vI 2, vI 0, vI 1, vI 0, vI 3], [], aq_h m s F c_8)) rfl rfl ?_
  refine am_E.go (t2 := (168, [vR y, vI 3, vI 3, vI 0, vI 1, vI 0, vI 3], [], aq_h m s F c_8)) rfl rfl ?_
  refine am_E.go (t2 := (138, [vR y, vI 3, vI 3, vI 0, vI 1, vI 0, vI 3], [], aq_h m s F c_8)) rfl rfl ?_
  refine am_E.go (t2 := (139, [vR y, vI 3, vI 3, vI 0, vI 1, vI 0, vI 3], [vI 3], aq_h m s F c_8)) rfl rfl ?_
  refine am_E.go (t2 := (140, [vR y, vI 3, vI 3, vI 0, vI 1, vI 0, vI 3], [vI 3, vI 3], aq_h m s F c_8)) rfl rfl ?_
  refine am_E.go (t2 := (171, [vR y, vI 3, vI 3, vI 0, vI 1, vI 0, vI 3], [], aq_h m s F c_8)) rfl rfl ?_
  refine am_E.go (t2 := (172, [vR y, vI 3, vI 3, vI 0, vI 1, vI 0, vI 3], [vI 0], aq_h m s F c_8)) rfl rfl ?_
  refine am_E.go (t2 := (173, [vR y, vI 3, vI 0, vI 0, vI 1, vI 0, vI 3], [], aq_h m s F c_8)) rfl rfl ?_
  refine am_E.go (t2 := (174, [vR y, vI 3, vI 0, vI 0, vI 1, vI 0, vI 3], [vI 0], aq_h m s F c_8)) rfl rfl ?_
  refine am_E.go (t2 := (175, [vR y, vI 3, vI 0, vI 0, vI 1, vI 0, vI 3], [], aq_h m s F c_8)) rfl rfl ?_
  refine am_E.go (t2 := (176, [vR y, vI 3, vI 0, vI 0, vI 1, vI 0, vI 3], [vI 0], aq_h m s F c_8)) rfl rfl ?_
  refine am_E.go (t2 := (177, [vR y, vI 3, vI 0, vI 0, vI 1, vI 0, vI 3], [vI 3, vI 0], aq_h m s F c_8)) rfl rfl ?_
  refine am_E.go (t2 := (180, [vR y, vI 3, vI 0, vI 0, vI 1, vI 0, vI 3], [], aq_h m s F c_8)) rfl rfl ?_
  refine am_E.go (t2 := (181, [vR y, vI 3, vI 0, vI 0, vI 1, vI 0, vI 3], [vR y], aq_h m s F c_8)) rfl rfl ?_
  refine aq_gf (v := vR (y + 13)) rfl (by omega) hFo (by decide) rfl ?_
  show am_E _ (184, [vR y, vI 3, vI 0, vI 0, vI 1, vI 0, vI 3], [vR (y + 13)], aq_h m s F c_8) _
  refine am_E.go (t2 := (185, [vR y, vI 3, vI 0, vI 0, vI 1, vI 0, vI 3], [vI 0, vR (y + 13)], aq_h m s F c_8)) rfl rfl ?_
  refine aq_al (ok := fun k => k == 1) (v := vI (c_8 (y + 13) 0)) rfl rfl (by omega) hG13 rfl (by decide) (by decide) rfl ?_
  rw [mtc_8.1]
  show am_E _ (186, [vR y, vI 3, vI 0, vI 0, vI 1, vI 0, vI 3], [vI 1], aq_h m s F c_8) _
  refine am_E.go (t2 := (253, [vR y, vI 3, vI 0, vI 0, vI 1, vI 0, vI 3], [], aq_h m s F c_8)) rfl rfl ?_
  refine am_E.go (t2 := (256, [vR y, vI 3, vI 0, vI 1, vI 1, vI 0, vI 3], [], aq_h m s F c_8)) rfl rfl ?_
  refine am_E.go (t2 := (175, [vR y, vI 3, vI 0, vI 1, vI 1, vI 0, vI 3], [], aq_h m s F c_8)) rfl rfl ?_
  refine am_E.go (t2 := (176, [vR y, vI 3, vI 0, vI 1, vI 1, vI 0, vI 3], [vI 1], aq_h m s F c_8)) rfl rfl ?_
  refine am_E.go (t2 := (177, [vR y, vI 3, vI 0, vI 1, vI 1, vI 0, vI 3], [vI 3, vI 1], aq_h m s F c_8)) rfl rfl ?_
  refine am_E.go (t2 := (180, [vR y, vI 3, vI 0, vI 1, vI 1, vI 0, vI 3], [], aq_h m s F c_8)) rfl rfl ?_
  refine am_E.go (t2 := (181, [vR y, vI 3, vI 0, vI 1, vI 1, vI 0, vI 3], [vR y], aq_h m s F c_8)) rfl rfl ?_
  refine aq_gf (v := vR (y + 13)) rfl (by omega) hFo (by decide) rfl ?_
  show am_E _ (184, [vR y, vI 3, vI 0, vI 1, vI 1, vI 0, vI 3], [vR (y + 13)], aq_h m s F c_8) _
  refine am_E.go (t2 := (185, [vR y, vI 3, vI 0, vI 1, vI 1, vI 0, vI 3], [vI 1, vR (y + 13)], aq_h m s F c_8)) rfl rfl ?_
  refine aq_al (ok := fun k => k == 1) (v := vI (c_8 (y + 13) 1)) rfl rfl (by omega) hG13 rfl (by decide) (by decide) rfl ?_
  rw [mtc_8.2.1]
  show am_E _ (186, [vR y, vI 3, vI 0, vI 1, vI 1, vI 0, vI 3], [vI 1], aq_h m s F c_8) _
  refine am_E.go (t2 := (253, [vR y, vI 3, vI 0, vI 1, vI 1, vI 0, vI 3], [], aq_h m s F c_8)) rfl rfl ?_
  refine am_E.go (t2 := (256, [vR y, vI 3, vI 0, vI 2, vI 1, vI 0, vI 3], [], aq_h m s F c_8)) rfl rfl ?_
  refine am_E.go (t2 := (175, [vR y, vI 3, vI 0, vI 2, vI 1, vI 0, vI 3], [], aq_h m s F c_8)) rfl rfl ?_
  refine am_E.go (t2 := (176, [vR y, vI 3, vI 0, vI 2, vI 1, vI 0, vI 3], [vI 2], aq_h m s F c_8)) rfl rfl ?_
  refine am_E.go (t2 := (177, [vR y, vI 3, vI 0, vI 2, vI 1, vI 0, vI 3], [vI 3, vI 2], aq_h m s F c_8)) rfl rfl ?_
  refine am_E.go (t2 := (180, [vR y, vI 3, vI 0, vI 2, vI 1, vI 0, vI 3], [], aq_h m s F c_8)) rfl rfl ?_
  refine am_E.go (t2 := (181, [vR y, vI 3, vI 0, vI 2, vI 1, vI 0, vI 3], [vR y], aq_h m s F c_8)) rfl rfl ?_
  refine aq_gf (v := vR (y + 13)) rfl (by omega) hFo (by decide) rfl ?_
  show am_E _ (184, [vR y, vI 3, vI 0, vI 2, vI 1, vI 0, vI 3], [vR (y + 13)], aq_h m s F c_8) _
  refine am_E.go (t2 := (185, [vR y, vI 3, vI 0, vI 2, vI 1, vI 0, vI 3], [vI 2, vR (y + 13)], aq_h m s F c_8)) rfl rfl ?_
  refine aq_al (ok := fun k => k == 1) (v := vI (c_8 (y + 13) 2)) rfl rfl (by omega) hG13 rfl (by decide) (by decide) rfl ?_
  rw [mtc_8.2.2.1]
  show am_E _ (186, [vR y, vI 3, vI 0, vI 2, vI 1, vI 0, vI 3], [vI 1], aq_h m s F c_8) _
  refine am_E.go (t2 := (253, [vR y, vI 3, vI 0, vI 2, vI 1, vI 0, vI 3], [], aq_h m s F c_8)) rfl rfl ?_
  refine am_E.go (t2 := (256, [vR y, vI 3, vI 0, vI 3, vI 1, vI 0, vI 3], [], aq_h m s F c_8)) rfl rfl ?_
  refine am_E.go (t2 := (175, [vR y, vI 3, vI 0, vI 3, vI 1, vI 0, vI 3], [], aq_h m s F c_8)) rfl rfl ?_
  refine am_E.go (t2 := (176, [vR y, vI 3, vI 0, vI 3, vI 1, vI 0, vI 3], [vI 3], aq_h m s F c_8)) rfl rfl ?_
  refine am_E.go (t2 := (177, [vR y, vI 3, vI 0, vI 3, vI 1, vI 0, vI 3], [vI 3, vI 3], aq_h m s F c_8)) rfl rfl ?_
  refine am_E.go (t2 := (259, [vR y, vI 3, vI 0, vI 3, vI 1, vI 0, vI 3], [], aq_h m s F c_8)) rfl rfl ?_
  refine am_E.go (t2 := (260, [vR y, vI 3, vI 0, vI 3, vI 1, vI 0, vI 3], [vI 0], aq_h m s F c_8)) rfl rfl ?_
  refine am_E.ret rfl rfl ?_
  exact ⟨_, rfl, sc_8, rfl⟩

theorem qm_fo_3110 {m s : Nat} {F : aq_F} {c : aq_C} {y : Nat} (hO : mo_0 m F y) (hA0 : c (y + 18) 0 = 3) (hA1 : c (y + 18) 1 = 2) (hA2 : c (y + 18) 2 = 1) (hB0 : c (y + 19) 0 = 1) (hB1 : c (y + 19) 1 = 0) (hB2 : c (y + 19) 2 = 3) : am_E ac_X5_formOf (0, [vR y, vI 3, vU, vU, vU, vU, vU], [], aq_h m s F c) (aq_Z m s F (fun a => a = y + 13) c (fun r _ => r = some (vI 0))) := by
  obtain ⟨hm, hFo, hG5, hG6, hG7, hG8, hG9, hG10, hG11, hG12, hG13, hG14, hG15, hG16, hG17, hG18, hG19, hG20, hG21, hG22, hG23⟩ := hO
  have hmt : mt_ y (c (y + 13) 0) (c (y + 13) 1) (c (y + 13) 2) (c (y + 13) 3) c := ⟨rfl, rfl, rfl, rfl⟩
  refine am_E.go (t2 := (1, [vR y, vI 3, vU, vU, vU, vU, vU], [vI 0], aq_h m s F c)) rfl rfl ?_
  refine am_E.go (t2 := (2, [vR y, vI 3, vI 0, vU, vU, vU, vU], [], aq_h m s F c)) rfl rfl ?_
  refine am_E.go (t2 := (3, [vR y, vI 3, vI 0, vU, vU, vU, vU], [vI 0], aq_h m s F c)) rfl rfl ?_
  refine am_E.go (t2 := (4, [vR y, vI 3, vI 0, vU, vU, vU, vU], [vI 4, vI 0], aq_h m s F c)) rfl rfl ?_
  refine am_E.go (t2 := (7, [vR y, vI 3, vI 0, vU, vU, vU, vU], [], aq_h m s F c)) rfl rfl ?_
  refine am_E.go (t2 := (8, [vR y, vI 3, vI 0, vU, vU, vU, vU], [vR y], aq_h m s F c)) rfl rfl ?_
  refine aq_gf (v := vR (y + 13)) rfl (by omega) hFo (by decide) rfl ?_
  show am_E _ (11, [vR y, vI 3, vI 0, vU, vU, vU, vU], [vR (y + 13)], aq_h m s F c) _
  refine am_E.go (t2 := (12, [vR y, vI 3, vI 0, vU, vU, vU, vU], [vI 0, vR (y + 13)], aq_h m s F c)) rfl rfl ?_
  refine am_E.go (t2 := (13, [vR y, vI 3, vI 0, vU, vU, vU, vU], [vI 0, vI 0, vR (y + 13)], aq_h m s F c)) rfl rfl ?_
  refine aq_as (kd := 1) rfl rfl (by omega) hG13 (by omega) (by omega) rfl rfl ?_
  show am_E _ (14, [vR y, vI 3, vI 0, vU, vU, vU, vU], [], aq_h m s F (aq_u c (y + 13) 0 0)) _
  generalize hdc_1 : aq_u c (y + 13) 0 0 = c_1
  have sc_1 := aq_smu (aq_sm0 (c := c) (S := fun a => a = y + 13)) hdc_1 rfl
  have mtc_1 := mt_0 hmt hdc_1
  refine am_E.go (t2 := (17, [vR y, vI 3, vI 1, vU, vU, vU, vU], [], aq_h m s F c_1)) rfl rfl ?_
  refine am_E.go (t2 := (2, [vR y, vI 3, vI 1, vU, vU, vU, vU], [], aq_h m s F c_1)) rfl rfl ?_
  refine am_E.go (t2 := (3, [vR y, vI 3, vI 1, vU, vU, vU, vU], [vI 1], aq_h m s F c_1)) rfl rfl ?_
  refine am_E.go (t2 := (4, [vR y, vI 3, vI 1, vU, vU, vU, vU], [vI 4, vI 1], aq_h m s F c_1)) rfl rfl ?_
  refine am_E.go (t2 := (7, [vR y, vI 3, vI 1, vU, vU, vU, vU], [], aq_h m s F c_1)) rfl rfl ?_
  refine am_E.go (t2 := (8, [vR y, vI 3, vI 1, vU, vU, vU, vU], [vR y], aq_h m s F c_1)) rfl rfl ?_
  refine aq_gf (v := vR (y + 13)) rfl (by omega) hFo (by decide) rfl ?_
  show am_E _ (11, [vR y, vI 3, vI 1, vU, vU, vU, vU], [vR (y + 13)], aq_h m s F c_1) _
  refine am_E.go (t2 := (12, [vR y, vI 3, vI 1, vU, vU, vU, vU], [vI 1, vR (y + 13)], aq_h m s F c_1)) rfl rfl ?_
  refine am_E.go (t2 := (13, [vR y, vI 3, vI 1, vU, vU, vU, vU], [vI 0, vI 1, vR (y + 13)], aq_h m s F c_1)) rfl rfl ?_
  refine aq_as (kd := 1) rfl rfl (by omega) hG13 (by omega) (by omega) rfl rfl ?_
  show am_E _ (14, [vR y, vI 3, vI 1, vU, vU, vU, vU], [], aq_h m s F (aq_u c_1 (y + 13) 1 0)) _
  generalize hdc_2 : aq_u c_1 (y + 13) 1 0 = c_2
  have sc_2 := aq_smu sc_1 hdc_2 rfl
  have mtc_2 := mt_1 mtc_1 hdc_2
  refine am_E.go (t2 := (17, [vR y, vI 3, vI 2, vU, vU, vU, vU], [], aq_h m s F c_2)) rfl rfl ?_
  refine am_E.go (t2 := (2, [vR y, vI 3, vI 2, vU, vU, vU, vU], [], aq_h m s F c_2)) rfl rfl ?_
  refine am_E.go (t2 := (3, [vR y, vI 3, vI 2, vU, vU, vU, vU], [vI 2], aq_h m s F c_2)) rfl rfl ?_
  refine am_E.go (t2 := (4, [vR y, vI 3, vI 2, vU, vU, vU, vU], [vI 4, vI 2], aq_h m s F c_2)) rfl rfl ?_
  refine am_E.go (t2 := (7, [vR y, vI 3, vI 2, vU, vU, vU, vU], [], aq_h m s F c_2)) rfl rfl ?_
  refine am_E.go (t2 := (8, [vR y, vI 3, vI 2, vU, vU, vU, vU], [vR y], aq_h m s F c_2)) rfl rfl ?_
  refine aq_gf (v := vR (y + 13)) rfl (by omega) hFo (by decide) rfl ?_
  show am_E _ (11, [vR y, vI 3, vI 2, vU, vU, vU, vU], [vR (y + 13)], aq_h m s F c_2) _
  refine am_E.go (t2 := (12, [vR y, vI 3, vI 2, vU, vU, vU, vU], [vI 2, vR (y + 13)], aq_h m s F c_2)) rfl rfl ?_
  refine am_E.go (t2 := (13, [vR y, vI 3, vI 2, vU, vU, vU, vU], [vI 0, vI 2, vR (y + 13)], aq_h m s F c_2)) rfl rfl ?_
  refine aq_as (kd := 1) rfl rfl (by omega) hG13 (by omega) (by omega) rfl rfl ?_
  show am_E _ (14, [vR y, vI 3, vI 2, vU, vU, vU, vU], [], aq_h m s F (aq_u c_2 (y + 13) 2 0)) _
  generalize hdc_3 : aq_u c_2 (y + 13) 2 0 = c_3
  have sc_3 := aq_smu sc_2 hdc_3 rfl
  have mtc_3 := mt_2 mtc_2 hdc_3
  refine am_E.go (t2 := (17, [vR y, vI 3, vI 3, vU, vU, vU, vU], [], aq_h m s F c_3)) rfl rfl ?_
  refine am_E.go (t2 := (2, [vR y, vI 3, vI 3, vU, vU, vU, vU], [], aq_h m s F c_3)) rfl rfl ?_
  refine am_E.go (t2 := (3, [vR y, vI 3, vI 3, vU, vU, vU, vU], [vI 3], aq_h m s F c_3)) rfl rfl ?_
  refine am_E.go (t2 := (4, [vR y, vI 3, vI 3, vU, vU, vU, vU], [vI 4, vI 3], aq_h m s F c_3)) rfl rfl ?_
  refine am_E.go (t2 := (7, [vR y, vI 3, vI 3, vU, vU, vU, vU], [], aq_h m s F c_3)) rfl rfl ?_
  refine am_E.go (t2 := (8, [vR y, vI 3, vI 3, vU, vU, vU, vU], [vR y], aq_h m s F c_3)) rfl rfl ?_
  refine aq_gf (v := vR (y + 13)) rfl (by omega) hFo (by decide) rfl ?_
  show am_E _ (11, [vR y, vI 3, vI 3, vU, vU, vU, vU], [vR (y + 13)], aq_h m s F c_3) _
  refine am_E.go (t2 := (12, [vR y, vI 3, vI 3, vU, vU, vU, vU], [vI 3, vR (y + 13)], aq_h m s F c_3)) rfl rfl ?_
  refine am_E.go (t2 := (13, [vR y, vI 3, vI 3, vU, vU, vU, vU], [vI 0, vI 3, vR (y + 13)], aq_h m s F c_3)) rfl rfl ?_
  refine aq_as (kd := 1) rfl rfl (by omega) hG13 (by omega) (by omega) rfl rfl ?_
  show am_E _ (14, [vR y, vI 3, vI 3, vU, vU, vU, vU], [], aq_h m s F (aq_u c_3 (y + 13) 3 0)) _
  generalize hdc_4 : aq_u c_3 (y + 13) 3 0 = c_4
  have sc_4 := aq_smu sc_3 hdc_4 rfl
  have mtc_4 := mt_3 mtc_3 hdc_4
  refine am_E.go (t2 := (17, [vR y, vI 3, vI 4, vU, vU, vU, vU], [], aq_h m s F c_4)) rfl rfl ?_
  refine am_E.go (t2 := (2, [vR y, vI 3, vI 4, vU, vU, vU, vU], [], aq_h m s F c_4)) rfl rfl ?_
  refine am_E.go (t2 := (3, [vR y, vI 3, vI 4, vU, vU, vU, vU], [vI 4], aq_h m s F c_4)) rfl rfl ?_
  refine am_E.go (t2 := (4, [vR y, vI 3, vI 4, vU, vU, vU, vU], [vI 4, vI 4], aq_h m s F c_4)) rfl rfl ?_
  refine am_E.go (t2 := (20, [vR y, vI 3, vI 4, vU, vU, vU, vU], [], aq_h m s F c_4)) rfl rfl ?_
  refine am_E.go (t2 := (21, [vR y, vI 3, vI 4, vU, vU, vU, vU], [vI 0], aq_h m s F c_4)) rfl rfl ?_
  refine am_E.go (t2 := (22, [vR y, vI 3, vI 0, vU, vU, vU, vU], [], aq_h m s F c_4)) rfl rfl ?_
  refine am_E.go (t2 := (23, [vR y, vI 3, vI 0, vU, vU, vU, vU], [vI 0], aq_h m s F c_4)) rfl rfl ?_
  refine am_E.go (t2 := (24, [vR y, vI 3, vI 0, vU, vU, vU, vU], [vI 3, vI 0], aq_h m s F c_4)) rfl rfl ?_
  refine am_E.go (t2 := (27, [vR y, vI 3, vI 0, vU, vU, vU, vU], [], aq_h m s F c_4)) rfl rfl ?_
  refine am_E.go (t2 := (28, [vR y, vI 3, vI 0, vU, vU, vU, vU], [vR y], aq_h m s F c_4)) rfl rfl ?_
  refine aq_gf (v := vR (y + 18)) rfl (by omega) hFo (by decide) rfl ?_
  show am_E _ (31, [vR y, vI 3, vI 0, vU, vU, vU, vU], [vR (y + 18)], aq_h m s F c_4) _
  refine am_E.go (t2 := (32, [vR y, vI 3, vI 0, vU, vU, vU, vU], [vI 0, vR (y + 18)], aq_h m s F c_4)) rfl rfl ?_
  refine aq_al (ok := fun k => k == 0) (v := vI (c_4 (y + 18) 0)) rfl rfl (by omega) hG18 rfl (by decide) (by decide) rfl ?_
  rw [sc_4 (y + 18) (by omega), hA0]
  show am_E _ (33, [vR y, vI 3, vI 0, vU, vU, vU, vU], [vI 3], aq_h m s F c_4) _
  refine am_E.go (t2 := (34, [vR y, vI 3, vI 0, vU, vU, vU, vU], [vI 3, vI 3], aq_h m s F c_4)) rfl rfl ?_
  refine am_E.go (t2 := (37, [vR y, vI 3, vI 0, vU, vU, vU, vU], [], aq_h m s F c_4)) rfl rfl ?_
  refine am_E.go (t2 := (38, [vR y, vI 3, vI 0, vU, vU, vU, vU], [vI 0], aq_h m s F c_4)) rfl rfl ?_
  refine am_E.go (t2 := (39, [vR y, vI 3, vI 0, vI 0, vU, vU, vU], [], aq_h m s F c_4)) rfl rfl ?_
  refine am_E.go (t2 := (40, [vR y, vI 3, vI 0, vI 0, vU, vU, vU], [vI 1], aq_h m s F c_4)) rfl rfl ?_
  refine am_E.go (t2 := (42, [vR y, vI 3, vI 0, vI 0, vI 1, vU, vU], [], aq_h m s F c_4)) rfl rfl ?_
  refine am_E.go (t2 := (43, [vR y, vI 3, vI 0, vI 0, vI 1, vU, vU], [vI 1], aq_h m s F c_4)) rfl rfl ?_
  refine am_E.go (t2 := (45, [vR y, vI 3, vI 0, vI 0, vI 1, vI 1, vU], [], aq_h m s F c_4)) rfl rfl ?_
  refine am_E.go (t2 := (47, [vR y, vI 3, vI 0, vI 0, vI 1, vI 1, vU], [vI 1], aq_h m s F c_4)) rfl rfl ?_
  refine am_E.go (t2 := (50, [vR y, vI 3, vI 0, vI 0, vI 1, vI 1, vU], [], aq_h m s F c_4)) rfl rfl ?_
  refine am_E.go (t2 := (51, [vR y, vI 3, vI 0, vI 0, vI 1, vI 1, vU], [vR y], aq_h m s F c_4)) rfl rfl ?_
  refine aq_gf (v := vR (y + 13)) rfl (by omega) hFo (by decide) rfl ?_
  show am_E _ (54, [vR y, vI 3, vI 0, vI 0, vI 1, vI 1, vU], [vR (y + 13)], aq_h m s F c_4) _
  refine am_E.go (t2 := (55, [vR y, vI 3, vI 0, vI 0, vI 1, vI 1, vU], [vI 0, vR (y + 13)], aq_h m s F c_4)) rfl rfl ?_
  refine am_E.go (t2 := (56, [vR y, vI 3, vI 0, vI 0, vI 1, vI 1, vU], [vI 1, vI 0, vR (y + 13)], aq_h m s F c_4)) rfl rfl ?_
  refine aq_as (kd := 1) rfl rfl (by omega) hG13 (by omega) (by omega) rfl rfl ?_
  show am_E _ (57, [vR y, vI 3, vI 0, vI 0, vI 1, vI 1, vU], [], aq_h m s F (aq_u c_4 (y + 13) 0 1)) _
  generalize hdc_5 : aq_u c_4 (y + 13) 0 1 = c_5
  have sc_5 := aq_smu sc_4 hdc_5 rfl
  have mtc_5 := mt_0 mtc_4 hdc_5
  refine am_E.go (t2 := (59, [vR y, vI 3, vI 0, vI 0, vI 1, vI 1, vU], [vI 1], aq_h m s F c_5)) rfl rfl ?_
  refine am_E.go (t2 := (62, [vR y, vI 3, vI 0, vI 0, vI 1, vI 1, vU], [], aq_h m s F c_5)) rfl rfl ?_
  refine am_E.go (t2 := (63, [vR y, vI 3, vI 0, vI 0, vI 1, vI 1, vU], [vR y], aq_h m s F c_5)) rfl rfl ?_
  refine aq_gf (v := vR (y + 19)) rfl (by omega) hFo (by decide) rfl ?_
  show am_E _ (66, [vR y, vI 3, vI 0, vI 0, vI 1, vI 1, vU], [vR (y + 19)], aq_h m s F c_5) _
  refine am_E.go (t2 := (67, [vR y, vI 3, vI 0, vI 0, vI 1, vI 1, vU], [vI 0, vR (y + 19)], aq_h m s F c_5)) rfl rfl ?_
  refine aq_al (ok := fun k => k == 0) (v := vI (c_5 (y + 19) 0)) rfl rfl (by omega) hG19 rfl (by decide) (by decide) rfl ?_
  rw [sc_5 (y + 19) (by omega), hB0]
  show am_E _ (68, [vR y, vI 3, vI 0, vI 0, vI 1, vI 1, vU], [vI 1], aq_h m s F c_5) _
  refine am_E.go (t2 := (77, [vR y, vI 3, vI 0, vI 0, vI 1, vI 1, vU], [vI 1], aq_h m s F c_5)) rfl rfl ?_
  refine am_E.go (t2 := (79, [vR y, vI 3, vI 0, vI 0, vI 1, vI 1, vI 1], [], aq_h m s F c_5)) rfl rfl ?_
  refine am_E.go (t2 := (81, [vR y, vI 3, vI 0, vI 0, vI 1, vI 1, vI 1], [vI 1], aq_h m s F c_5)) rfl rfl ?_
  refine am_E.go (t2 := (82, [vR y, vI 3, vI 0, vI 0, vI 1, vI 1, vI 1], [vI 3, vI 1], aq_h m s F c_5)) rfl rfl ?_
  refine am_E.go (t2 := (85, [vR y, vI 3, vI 0, vI 0, vI 1, vI 1, vI 1], [], aq_h m s F c_5)) rfl rfl ?_
  refine am_E.go (t2 := (86, [vR y, vI 3, vI 0, vI 0, vI 1, vI 1, vI 1], [vI 1], aq_h m s F c_5)) rfl rfl ?_
  refine am_E.go (t2 := (90, [vR y, vI 3, vI 0, vI 0, vI 1, vI 1, vI 1], [vI 1], aq_h m s F c_5)) rfl rfl ?_
  refine am_E.go (t2 := (92, [vR y, vI 3, vI 0, vI 0, vI 1, vI 1, vI 1], [], aq_h m s F c_5)) rfl rfl ?_
  refine am_E.go (t2 := (94, [vR y, vI 3, vI 0, vI 0, vI 1, vI 1, vI 1], [vI 1], aq_h m s F c_5)) rfl rfl ?_
  refine am_E.go (t2 := (97, [vR y, vI 3, vI 0, vI 0, vI 1, vI 1, vI 1], [], aq_h m s F c_5)) rfl rfl ?_
  refine am_E.go (t2 := (99, [vR y, vI 3, vI 0, vI 0, vI 1, vI 1, vI 1], [vI 1], aq_h m s F c_5)) rfl rfl ?_
  refine am_E.go (t2 := (100, [vR y, vI 3, vI 0, vI 1, vI 1, vI 1, vI 1], [], aq_h m s F c_5)) rfl rfl ?_
  refine am_E.go (t2 := (102, [vR y, vI 3, vI 0, vI 1, vI 1, vI 1, vI 1], [vI 1], aq_h m s F c_5)) rfl rfl ?_
  refine am_E.go (t2 := (109, [vR y, vI 3, vI 0, vI 1, vI 1, vI 1, vI 1], [], aq_h m s F c_5)) rfl rfl ?_
  refine am_E.go (t2 := (110, [vR y, vI 3, vI 0, vI 1, vI 1, vI 1, vI 1], [vI 0], aq_h m s F c_5)) rfl rfl ?_
  refine am_E.go (t2 := (112, [vR y, vI 3, vI 0, vI 1, vI 0, vI 1, vI 1], [], aq_h m s F c_5)) rfl rfl ?_
  refine am_E.go (t2 := (45, [vR y, vI 3, vI 0, vI 1, vI 0, vI 1, vI 1], [], aq_h m s F c_5)) rfl rfl ?_
  refine am_E.go (t2 := (47, [vR y, vI 3, vI 0, vI 1, vI 0, vI 1, vI 1], [vI 1], aq_h m s F c_5)) rfl rfl ?_
  refine am_E.go (t2 := (50, [vR y, vI 3, vI 0, vI 1, vI 0, vI 1, vI 1], [], aq_h m s F c_5)) rfl rfl ?_
  refine am_E.go (t2 := (51, [vR y, vI 3, vI 0, vI 1, vI 0, vI 1, vI 1], [vR y], aq_h m s F c_5)) rfl rfl ?_
  refine aq_gf (v := vR (y + 13)) rfl (by omega) hFo (by decide) rfl ?_
  show am_E _ (54, [vR y, vI 3, vI 0, vI 1, vI 0, vI 1, vI 1], [vR (y + 13)], aq_h m s F c_5) _
  refine am_E.go (t2 := (55, [vR y, vI 3, vI 0, vI 1, vI 0, vI 1, vI 1], [vI 1, vR (y + 13)], aq_h m s F c_5)) rfl rfl ?_
  refine am_E.go (t2 := (56, [vR y, vI 3, vI 0, vI 1, vI 0, vI 1, vI 1], [vI 1, vI 1, vR (y + 13)], aq_h m s F c_5)) rfl rfl ?_
  refine aq_as (kd := 1) rfl rfl (by omega) hG13 (by omega) (by omega) rfl rfl ?_
  show am_E _ (57, [vR y, vI 3, vI 0, vI 1, vI 0, vI 1, vI 1], [], aq_h m s F (aq_u c_5 (y + 13) 1 1)) _
  generalize hdc_6 : aq_u c_5 (y + 13) 1 1 = c_6
  have sc_6 := aq_smu sc_5 hdc_6 rfl
  have mtc_6 := mt_1 mtc_5 hdc_6
  refine am_E.go (t2 := (59, [vR y, vI 3, vI 0, vI 1, vI 0, vI 1, vI 1], [vI 0], aq_h m s F c_6)) rfl rfl ?_
  refine am_E.go (t2 := (71, [vR y, vI 3, vI 0, vI 1, vI 0, vI 1, vI 1], [], aq_h m s F c_6)) rfl rfl ?_
  refine am_E.go (t2 := (72, [vR y, vI 3, vI 0, vI 1, vI 0, vI 1, vI 1], [vR y], aq_h m s F c_6)) rfl rfl ?_
  refine aq_gf (v := vR (y + 18)) rfl (by omega) hFo (by decide) rfl ?_
  show am_E _ (75, [vR y, vI 3, vI 0, vI 1, vI 0, vI 1, vI 1], [vR (y + 18)], aq_h m s F c_6) _
  refine am_E.go (t2 := (76, [vR y, vI 3, vI 0, vI 1, vI 0, vI 1, vI 1], [vI 1, vR (y + 18)], aq_h m s F c_6)) rfl rfl ?_
  refine aq_al (ok := fun k => k == 0) (v := vI (c_6 (y + 18) 1)) rfl rfl (by omega) hG18 rfl (by decide) (by decide) rfl ?_
  rw [sc_6 (y + 18) (by omega), hA1]
  show am_E _ (77, [vR y, vI 3, vI 0, vI 1, vI 0, vI 1, vI 1], [vI 2], aq_h m s F c_6) _
  refine am_E.go (t2 := (79, [vR y, vI 3, vI 0, vI 1, vI 0, vI 1, vI 2], [], aq_h m s F c_6)) rfl rfl ?_
  refine am_E.go (t2 := (81, [vR y, vI 3, vI 0, vI 1, vI 0, vI 1, vI 2], [vI 2], aq_h m s F c_6)) rfl rfl ?_
  refine am_E.go (t2 := (82, [vR y, vI 3, vI 0, vI 1, vI 0, vI 1, vI 2], [vI 3, vI 2], aq_h m s F c_6)) rfl rfl ?_
  refine am_E.go (t2 := (85, [vR y, vI 3, vI 0, vI 1, vI 0, vI 1, vI 2], [], aq_h m s F c_6)) rfl rfl ?_
  refine am_E.go (t2 := (86, [vR y, vI 3, vI 0, vI 1, vI 0, vI 1, vI 2], [vI 1], aq_h m s F c_6)) rfl rfl ?_
  refine am_E.go (t2 := (90, [vR y, vI 3, vI 0, vI 1, vI 0, vI 1, vI 2], [vI 1], aq_h m s F c_6)) rfl rfl ?_
  refine am_E.go (t2 := (92, [vR y, vI 3, vI 0, vI 1, vI 0, vI 1, vI 2], [], aq_h m s F c_6)) rfl rfl ?_
  refine am_E.go (t2 := (94, [vR y, vI 3, vI 0, vI 1, vI 0, vI 1, vI 2], [vI 1], aq_h m s F c_6)) rfl rfl ?_
  refine am_E.go (t2 := (97, [vR y, vI 3, vI 0, vI 1, vI 0, vI 1, vI 2], [], aq_h m s F c_6)) rfl rfl ?_
  refine am_E.go (t2 := (99, [vR y, vI 3, vI 0, vI 1, vI 0, vI 1, vI 2], [vI 2], aq_h m s F c_6)) rfl rfl ?_
  refine am_E.go (t2 := (100, [vR y, vI 3, vI 0, vI 2, vI 0, vI 1, vI 2], [], aq_h m s F c_6)) rfl rfl ?_
  refine am_E.go (t2 := (102, [vR y, vI 3, vI 0, vI 2, vI 0, vI 1, vI 2], [vI 0], aq_h m s F c_6)) rfl rfl ?_
  refine am_E.go (t2 := (105, [vR y, vI 3, vI 0, vI 2, vI 0, vI 1, vI 2], [], aq_h m s F c_6)) rfl rfl ?_
  refine am_E.go (t2 := (106, [vR y, vI 3, vI 0, vI 2, vI 0, vI 1, vI 2], [vI 1], aq_h m s F c_6)) rfl rfl ?_
  refine am_E.go (t2 := (110, [vR y, vI 3, vI 0, vI 2, vI 0, vI 1, vI 2], [vI 1], aq_h m s F c_6)) rfl rfl ?_
  refine am_E.go (t2 := (112, [vR y, vI 3, vI 0, vI 2, vI 1, vI 1, vI 2], [], aq_h m s F c_6)) rfl rfl ?_
  refine am_E.go (t2 := (45, [vR y, vI 3, vI 0, vI 2, vI 1, vI 1, vI 2], [], aq_h m s F c_6)) rfl rfl ?_
  refine am_E.go (t2 := (47, [vR y, vI 3, vI 0, vI 2, vI 1, vI 1, vI 2], [vI 1], aq_h m s F c_6)) rfl rfl ?_
  refine am_E.go (t2 := (50, [vR y, vI 3, vI 0, vI 2, vI 1, vI 1, vI 2], [], aq_h m s F c_6)) rfl rfl ?_
  refine am_E.go (t2 := (51, [vR y, vI 3, vI 0, vI 2, vI 1, vI 1, vI 2], [vR y], aq_h m s F c_6)) rfl rfl ?_
  refine aq_gf (v := vR (y + 13)) rfl (by omega) hFo (by decide) rfl ?_
  show am_E _ (54, [vR y, vI 3, vI 0, vI 2, vI 1, vI 1, vI 2], [vR (y + 13)], aq_h m s F c_6) _
  refine am_E.go (t2 := (55, [vR y, vI 3, vI 0, vI 2, vI 1, vI 1, vI 2], [vI 2, vR (y + 13)], aq_h m s F c_6)) rfl rfl ?_
  refine am_E.go (t2 := (56, [vR y, vI 3, vI 0, vI 2, vI 1, vI 1, vI 2], [vI 1, vI 2, vR (y + 13)], aq_h m s F c_6)) rfl rfl ?_
  refine aq_as (kd := 1) rfl rfl (by omega) hG13 (by omega) (by omega) rfl rfl ?_
  show am_E _ (57, [vR y, vI 3, vI 0, vI 2, vI 1, vI 1, vI 2], [], aq_h m s F (aq_u c_6 (y + 13) 2 1)) _
  generalize hdc_7 : aq_u c_6 (y + 13) 2 1 = c_7
  have sc_7 := aq_smu sc_6 hdc_7 rfl
  have mtc_7 := mt_2 mtc_6 hdc_7
  refine am_E.go (t2 := (59, [vR y, vI 3, vI 0, vI 2, vI 1, vI 1, vI 2], [vI 1], aq_h m s F c_7)) rfl rfl ?_
  refine am_E.go (t2 := (62, [vR y, vI 3, vI 0, vI 2, vI 1, vI 1, vI 2], [], aq_h m s F c_7)) rfl rfl ?_
  refine am_E.go (t2 := (63, [vR y, vI 3, vI 0, vI 2, vI 1, vI 1, vI 2], [vR y], aq_h m s F c_7)) rfl rfl ?_
  refine aq_gf (v := vR (y + 19)) rfl (by omega) hFo (by decide) rfl ?_
  show am_E _ (66, [vR y, vI 3, vI 0, vI 2, vI 1, vI 1, vI 2], [vR (y + 19)], aq_h m s F c_7) _
  refine am_E.go (t2 := (67, [vR y, vI 3, vI 0, vI 2, vI 1, vI 1, vI 2], [vI 2, vR (y + 19)], aq_h m s F c_7)) rfl rfl ?_
  refine aq_al (ok := fun k => k == 0) (v := vI (c_7 (y + 19) 2)) rfl rfl (by omega) hG19 rfl (by decide) (by decide) rfl ?_
  rw [sc_7 (y + 19) (by omega), hB2]
  show am_E _ (68, [vR y, vI 3, vI 0, vI 2, vI 1, vI 1, vI 2], [vI 3], aq_h m s F c_7) _
  refine am_E.go (t2 := (77, [vR y, vI 3, vI 0, vI 2, vI 1, vI 1, vI 2], [vI 3], aq_h m s F c_7)) rfl rfl ?_
  refine am_E.go (t2 := (79, [vR y, vI 3, vI 0, vI 2, vI 1, vI 1, vI 3], [], aq_h m s F c_7)) rfl rfl ?_
  refine am_E.go (t2 := (81, [vR y, vI 3, vI 0, vI 2, vI 1, vI 1, vI 3], [vI 3], aq_h m s F c_7)) rfl rfl ?_
  refine am_E.go (t2 := (82, [vR y, vI 3, vI 0, vI 2, vI 1, vI 1, vI 3], [vI 3, vI 3], aq_h m s F c_7)) rfl rfl ?_
  refine am_E.go (t2 := (89, [vR y, vI 3, vI 0, vI 2, vI 1, vI 1, vI 3], [], aq_h m s F c_7)) rfl rfl ?_
  refine am_E.go (t2 := (90, [vR y, vI 3, vI 0, vI 2, vI 1, vI 1, vI 3], [vI 0], aq_h m s F c_7)) rfl rfl ?_
  refine am_E.go (t2 := (92, [vR y, vI 3, vI 0, vI 2, vI 1, vI 0, vI 3], [], aq_h m s F c_7)) rfl rfl ?_
  refine am_E.go (t2 := (94, [vR y, vI 3, vI 0, vI 2, vI 1, vI 0, vI 3], [vI 0], aq_h m s F c_7)) rfl rfl ?_
  refine am_E.go (t2 := (112, [vR y, vI 3, vI 0, vI 2, vI 1, vI 0, vI 3], [], aq_h m s F c_7)) rfl rfl ?_
  refine am_E.go (t2 := (45, [vR y, vI 3, vI 0, vI 2, vI 1, vI 0, vI 3], [], aq_h m s F c_7)) rfl rfl ?_
  refine am_E.go (t2 := (47, [vR y, vI 3, vI 0, vI 2, vI 1, vI 0, vI 3], [vI 0], aq_h m s F c_7)) rfl rfl ?_
  refine am_E.go (t2 := (115, [vR y, vI 3, vI 0, vI 2, vI 1, vI 0, vI 3], [], aq_h m s F c_7)) rfl rfl ?_
  refine am_E.go (t2 := (116, [vR y, vI 3, vI 0, vI 2, vI 1, vI 0, vI 3], [vR y], aq_h m s F c_7)) rfl rfl ?_
  refine aq_gf (v := vR (y + 13)) rfl (by omega) hFo (by decide) rfl ?_
  show am_E _ (119, [vR y, vI 3, vI 0, vI 2, vI 1, vI 0, vI 3], [vR (y + 13)], aq_h m s F c_7) _
  refine am_E.go (t2 := (120, [vR y, vI 3, vI 0, vI 2, vI 1, vI 0, vI 3], [vI 2, vR (y + 13)], aq_h m s F c_7)) rfl rfl ?_
  refine am_E.go (t2 := (121, [vR y, vI 3, vI 0, vI 2, vI 1, vI 0, vI 3], [vI 1, vI 2, vR (y + 13)], aq_h m s F c_7)) rfl rfl ?_
  refine aq_as (kd := 1) rfl rfl (by omega) hG13 (by omega) (by omega) rfl rfl ?_
  show am_E _ (122, [vR y, vI 3, vI 0, vI 2, vI 1, vI 0, vI 3], [], aq_h m s F (aq_u c_7 (y + 13) 2 1)) _
  generalize hdc_8 : aq_u c_7 (y + 13) 2 1 = c_8
  have sc_8 := aq_smu sc_7 hdc_8 rfl
  have mtc_8 := mt_2 mtc_7 hdc_8
  refine am_E.go (t2 := (124, [vR y, vI 3, vI 0, vI 2, vI 1, vI 0, vI 3], [vI 1], aq_h m s F c_8)) rfl rfl ?_
  refine am_E.go (t2 := (130, [vR y, vI 3, vI 0, vI 2, vI 1, vI 0, vI 3], [], aq_h m s F c_8)) rfl rfl ?_
  refine am_E.go (t2 := (133, [vR y, vI 3, vI 1, vI 2, vI 1, vI 0, vI 3], [], aq_h m s F c_8)) rfl rfl ?_
  refine am_E.go (t2 := (22, [vR y, vI 3, vI 1, vI 2, vI 1, vI 0, vI 3], [], aq_h m s F c_8)) rfl rfl ?_
  refine am_E.go (t2 := (23, [vR y, vI 3, vI 1, vI 2, vI 1, vI 0, vI 3], [vI 1], aq_h m s F c_8)) rfl rfl ?_
  refine am_E.go (t2 := (24, [vR y, vI 3, vI 1, vI 2, vI 1, vI 0, vI 3], [vI 3, vI 1], aq_h m s F c_8)) rfl rfl ?_
  refine am_E.go (t2 := (27, [vR y, vI 3, vI 1, vI 2, vI 1, vI 0, vI 3], [], aq_h m s F c_8)) rfl rfl ?_
  refine am_E.go (t2 := (28, [vR y, vI 3, vI 1, vI 2, vI 1, vI 0, vI 3], [vR y], aq_h m s F c_8)) rfl rfl ?_
  refine aq_gf (v := vR (y + 18)) rfl (by omega) hFo (by decide) rfl ?_
  show am_E _ (31, [vR y, vI 3, vI 1, vI 2, vI 1, vI 0, vI 3], [vR (y + 18)], aq_h m s F c_8) _
  refine am_E.go (t2 := (32, [vR y, vI 3, vI 1, vI 2, vI 1, vI 0, vI 3], [vI 1, vR (y + 18)], aq_h m s F c_8)) rfl rfl ?_
  refine aq_al (ok := fun k => k == 0) (v := vI (c_8 (y + 18) 1)) rfl rfl (by omega) hG18 rfl (by decide) (by decide) rfl ?_
  rw [sc_8 (y + 18) (by omega), hA1]
  show am_E _ (33, [vR y, vI 3, vI 1, vI 2, vI 1, vI 0, vI 3], [vI 2], aq_h m s F c_8) _
  refine am_E.go (t2 := (34, [vR y, vI 3, vI 1, vI 2, vI 1, vI 0, vI 3], [vI 3, vI 2], aq_h m s F c_8)) rfl rfl ?_
  refine am_E.go (t2 := (130, [vR y, vI 3, vI 1, vI 2, vI 1, vI 0, vI 3], [], aq_h m s F c_8)) rfl rfl ?_
  refine am_E.go (t2 := (133, [vR y, vI 3, vI 2, vI 2, vI 1, vI 0, vI 3], [], aq_h m s F c_8)) rfl rfl ?_
  refine am_E.go (t2 := (22, [vR y, vI 3, vI 2, vI 2, vI 1, vI 0, vI 3], [], aq_h m s F c_8)) rfl rfl ?_
  refine am_E.go (t2 := (23, [vR y, vI 3, vI 2, vI 2, vI 1, vI 0, vI 3], [vI 2], aq_h m s F c_8)) rfl rfl ?_
  refine am_E.go (t2 := (24, [vR y, vI 3, vI 2, vI 2, vI 1, vI 0, vI 3], [vI 3, vI 2], aq_h m s F c_8)) rfl rfl ?_
  refine am_E.go (t2 := (27, [vR y, vI 3, vI 2, vI 2, vI 1, vI 0, vI 3], [], aq_h m s F c_8)) rfl rfl ?_
  refine am_E.go (t2 := (28, [vR y, vI 3, vI 2, vI 2, vI 1, vI 0, vI 3], [vR y], aq_h m s F c_8)) rfl rfl ?_
  refine aq_gf (v := vR (y + 18)) rfl (by omega) hFo (by decide) rfl ?_
  show am_E _ (31, [vR y, vI 3, vI 2, vI 2, vI 1, vI 0, vI 3], [vR (y + 18)], aq_h m s F c_8) _
  refine am_E.go (t2 := (32, [vR y, vI 3, vI 2, vI 2, vI 1, vI 0, vI 3], [vI 2, vR (y + 18)], aq_h m s F c_8)) rfl rfl ?_
  refine aq_al (ok := fun k => k == 0) (v := vI (c_8 (y + 18) 2)) rfl rfl (by omega) hG18 rfl (by decide) (by decide) rfl ?_
  rw [sc_8 (y + 18) (by omega), hA2]
  show am_E _ (33, [vR y, vI 3, vI 2, vI 2, vI 1, vI 0, vI 3], [vI 1], aq_h m s F c_8) _
  refine am_E.go (t2 := (34, [vR y, vI 3, vI 2, vI 2, vI 1, vI 0, vI 3], [vI 3, vI 1], aq_h m s F c_8)) rfl rfl ?_
  refine am_E.go (t2 := (130, [vR y, vI 3, vI 2, vI 2, vI 1, vI 0, vI 3], [], aq_h m s F c_8)) rfl rfl ?_
  refine am_E.go (t2 := (133, [vR y, vI 3, vI 3, vI 2, vI 1, vI 0, vI 3], [], aq_h m s F c_8)) rfl rfl ?_
  refine am_E.go (t2 := (22, [vR y, vI 3, vI 3, vI 2, vI 1, vI 0, vI 3], [], aq_h m s F c_8)) rfl rfl ?_
  refine am_E.go (t2 := (23, [vR y, vI 3, vI 3, vI 2, vI 1, vI 0, vI 3], [vI 3], aq_h m s F c_8)) rfl rfl ?_
  refine am_E.go (t2 := (24, [vR y, vI 3, vI 3, vI 2, vI 1, vI 0, vI 3], [vI 3, vI 3], aq_h m s F c_8)) rfl rfl ?_
  refine am_E.go (t2 := (136, [vR y, vI 3, vI 3, vI 2, vI 1, vI 0, vI 3], [], aq_h m s F c_8)) rfl rfl ?_
  refine am_E.go (t2 := (137, [vR y, vI 3, vI 3, vI 2, vI 1, vI 0, vI 3], [vI 0], aq_h m s F c_8)) rfl rfl ?_
  refine am_E.go (t2 := (138, [vR y, vI 3, vI 0, vI 2, vI 1, vI 0, vI 3], [], aq_h m s F c_8)) rfl rfl ?_
  refine am_E.go (t2 := (139, [vR y, vI 3, vI 0, vI 2, vI 1, vI 0, vI 3], [vI 0], aq_h m s F c_8)) rfl rfl ?_
  refine am_E.go (t2 := (140, [vR y, vI 3, vI 0, vI 2, vI 1, vI 0, vI 3], [vI 3, vI 0], aq_h m s F c_8)) rfl rfl ?_
  refine am_E.go (t2 := (143, [vR y, vI 3, vI 0, vI 2, vI 1, vI 0, vI 3], [], aq_h m s F c_8)) rfl rfl ?_
  refine am_E.go (t2 := (144, [vR y, vI 3, vI 0, vI 2, vI 1, vI 0, vI 3], [vR y], aq_h m s F c_8)) rfl rfl ?_
  refine aq_gf (v := vR (y + 13)) rfl (by omega) hFo (by decide) rfl ?_
  show am_E _ (147, [vR y, vI 3, vI 0, vI 2, vI 1, vI 0, vI 3], [vR (y + 13)], aq_h m s F c_8) _
  refine am_E.go (t2 := (148, [vR y, vI 3, vI 0, vI 2, vI 1, vI 0, vI 3], [vI 0, vR (y + 13)], aq_h m s F c_8)) rfl rfl ?_
  refine aq_al (ok := fun k => k == 1) (v := vI (c_8 (y + 13) 0)) rfl rfl (by omega) hG13 rfl (by decide) (by decide) rfl ?_
  rw [mtc_8.1]
  show am_E _ (149, [vR y, vI 3, vI 0, vI 2, vI 1, vI 0, vI 3], [vI 1], aq_h m s F c_8) _
  refine am_E.go (t2 := (165, [vR y, vI 3, vI 0, vI 2, vI 1, vI 0, vI 3], [], aq_h m s F c_8)) rfl rfl ?_
  refine am_E.go (t2 := (168, [vR y, vI 3, vI 1, vI 2, vI 1, vI 0, vI 3], [], aq_h m s F c_8)) rfl rfl ?_
  refine am_E.go (t2 := (138, [vR y, vI 3, vI 1, vI 2, vI 1, vI 0, vI 3], [], aq_h m s F c_8)) rfl rfl ?_
  refine am_E.go (t2 := (139, [vR y, vI 3, vI 1, vI 2, vI 1, vI 0, vI 3], [vI 1], aq_h m s F c_8)) rfl rfl ?_
  refine am_E.go (t2 := (140, [vR y, vI 3, vI 1, vI 2, vI 1, vI 0, vI 3], [vI 3, vI 1], aq_h m s F c_8)) rfl rfl ?_
  refine am_E.go (t2 := (143, [vR y, vI 3, vI 1, vI 2, vI 1, vI 0, vI 3], [], aq_h m s F c_8)) rfl rfl ?_
  refine am_E.go (t2 := (144, [vR y, vI 3, vI 1, vI 2, vI 1, vI 0, vI 3], [vR y], aq_h m s F c_8)) rfl rfl ?_
  refine aq_gf (v := vR (y + 13)) rfl (by omega) hFo (by decide) rfl ?_
  show am_E _ (147, [vR y, vI 3, vI 1, vI 2, vI 1, vI 0, vI 3], [vR (y + 13)], aq_h m s F c_8) _
  refine am_E.go (t2 := (148, [vR y, vI 3, vI 1, vI 2, vI 1, vI 0, vI 3], [vI 1, vR (y + 13)], aq_h m s F c_8)) rfl rfl ?_
  refine aq_al (ok := fun k => k == 1) (v := vI (c_8 (y + 13) 1)) rfl rfl (by omega) hG13 rfl (by decide) (by decide) rfl ?_
  rw [mtc_8.2.1]
  show am_E _ (149, [vR y, vI 3, vI 1, vI 2, vI 1, vI 0, vI 3], [vI 1], aq_h m s F c_8) _
  refine am_E.go (t2 := (165, [vR y, vI 3, vI 1, vI 2, vI 1, vI 0, vI 3], [], aq_h m s F c_8)) rfl rfl ?_
  refine am_E.go (t2 := (168, [vR y, vI 3, vI 2, vI 2, vI 1, vI 0, vI 3], [], aq_h m s F c_8)) rfl rfl ?_
  refine am_E.go (t2 := (138, [vR y, vI 3, vI 2, vI 2, vI 1, vI 0, vI 3], [], aq_h m s F c_8)) rfl rfl ?_
  refine am_E.go (t2 := (139, [vR y, vI 3, vI 2, vI 2, vI 1, vI 0, vI 3], [vI 2], aq_h m s F c_8)) rfl rfl ?_
  refine am_E.go (t2 := (140, [vR y, vI 3, vI 2, vI 2, vI 1, vI 0, vI 3], [vI 3, vI 2], aq_h m s F c_8)) rfl rfl ?_
  refine am_E.go (t2 := (143, [vR y, vI 3, vI 2, vI 2, vI 1, vI 0, vI 3], [], aq_h m s F c_8)) rfl rfl ?_
  refine am_E.go (t2 := (144, [vR y, vI 3, vI 2, vI 2, vI 1, vI 0, vI 3], [vR y], aq_h m s F c_8)) rfl rfl ?_
  refine aq_gf (v := vR (y + 13)) rfl (by omega) hFo (by decide) rfl ?_
  show am_E _ (147, [vR y, vI 3, vI 2, vI 2, vI 1, vI 0, vI 3], [vR (y + 13)], aq_h m s F c_8) _
  refine am_E.go (t2 := (148, [vR y, vI 3, vI 2, vI 2, vI 1, vI 0, vI 3], [vI 2, vR (y + 13)], aq_h m s F c_8)) rfl rfl ?_
  refine aq_al (ok := fun k => k == 1) (v := vI (c_8 (y + 13) 2)) rfl rfl (by omega) hG13 rfl (by decide) (by decide) rfl ?_
  rw [mtc_8.2.2.1]
  show am_E _ (149, [vR y, vI 3, vI 2, vI 2, vI 1, vI 0, vI 3], [vI 1], aq_h m s F c_8) _
  refine am_E.go (t2 := (165, [vR y, vI 3, vI 2, vI 2, vI 1, vI 0, vI 3], [], aq_h m s F c_8)) rfl rfl ?_
  refine am_E.go (t2 := (168, [vR y, vI 3, vI 3, vI 2, vI 1, vI 0, vI 3], [], aq_h m s F c_8)) rfl rfl ?_
  refine am_E.go (t2 := (138, [vR y, vI 3, vI 3, vI 2, vI 1, vI 0, vI 3], [], aq_h m s F c_8)) rfl rfl ?_
  refine am_E.go (t2 := (139, [vR y, vI 3, vI 3, vI 2, vI 1, vI 0, vI 3], [vI 3], aq_h m s F c_8)) rfl rfl ?_
  refine am_E.go (t2 := (140, [vR y, vI 3, vI 3, vI 2, vI 1, vI 0, vI 3], [vI 3, vI 3], aq_h m s F c_8)) rfl rfl ?_
  refine am_E.go (t2 := (171, [vR y, vI 3, vI 3, vI 2, vI 1, vI 0, vI 3], [], aq_h m s F c_8)) rfl rfl ?_
  refine am_E.go (t2 := (172, [vR y, vI 3, vI 3, vI 2, vI 1, vI 0, vI 3], [vI 0], aq_h m s F c_8)) rfl rfl ?_
  refine am_E.go (t2 := (173, [vR y, vI 3, vI 0, vI 2, vI 1, vI 0, vI 3], [], aq_h m s F c_8)) rfl rfl ?_
  refine am_E.go (t2 := (174, [vR y, vI 3, vI 0, vI 2, vI 1, vI 0, vI 3], [vI 0], aq_h m s F c_8)) rfl rfl ?_
  refine am_E.go (t2 := (175, [vR y, vI 3, vI 0, vI 0, vI 1, vI 0, vI 3], [], aq_h m s F c_8)) rfl rfl ?_
  refine am_E.go (t2 := (176, [vR y, vI 3, vI 0, vI 0, vI 1, vI 0, vI 3], [vI 0], aq_h m s F c_8)) rfl rfl ?_
  refine am_E.go (t2 := (177, [vR y, vI 3, vI 0, vI 0, vI 1, vI 0, vI 3], [vI 3, vI 0], aq_h m s F c_8)) rfl rfl ?_
  refine am_E.go (t2 := (180, [vR y, vI 3, vI 0, vI 0, vI 1, vI 0, vI 3], [], aq_h m s F c_8)) rfl rfl ?_
  refine am_E.go (t2 := (181, [vR y, vI 3, vI 0, vI 0, vI 1, vI 0, vI 3], [vR y], aq_h m s F c_8)) rfl rfl ?_
  refine aq_gf (v := vR (y + 13)) rfl (by omega) hFo (by decide) rfl ?_
  show am_E _ (184, [vR y, vI 3, vI 0, vI 0, vI 1, vI 0, vI 3], [vR (y + 13)], aq_h m s F c_8) _
  refine am_E.go (t2 := (185, [vR y, vI 3, vI 0, vI 0, vI 1, vI 0, vI 3], [vI 0, vR (y + 13)], aq_h m s F c_8)) rfl rfl ?_
  refine aq_al (ok := fun k => k == 1) (v := vI (c_8 (y + 13) 0)) rfl rfl (by omega) hG13 rfl (by decide) (by decide) rfl ?_
  rw [mtc_8.1]
  show am_E _ (186, [vR y, vI 3, vI 0, vI 0, vI 1, vI 0, vI 3], [vI 1], aq_h m s F c_8) _
  refine am_E.go (t2 := (253, [vR y, vI 3, vI 0, vI 0, vI 1, vI 0, vI 3], [], aq_h m s F c_8)) rfl rfl ?_
  refine am_E.go (t2 := (256, [vR y, vI 3, vI 0, vI 1, vI 1, vI 0, vI 3], [], aq_h m s F c_8)) rfl rfl ?_
  refine am_E.go (t2 := (175, [vR y, vI 3, vI 0, vI 1, vI 1, vI 0, vI 3], [], aq_h m s F c_8)) rfl rfl ?_
  refine am_E.go (t2 := (176, [vR y, vI 3, vI 0, vI 1, vI 1, vI 0, vI 3], [vI 1], aq_h m s F c_8)) rfl rfl ?_
  refine am_E.go (t2 := (177, [vR y, vI 3, vI 0, vI 1, vI 1, vI 0, vI 3], [vI 3, vI 1], aq_h m s F c_8)) rfl rfl ?_
  refine am_E.go (t2 := (180, [vR y, vI 3, vI 0, vI 1, vI 1, vI 0, vI 3], [], aq_h m s F c_8)) rfl rfl ?_
  refine am_E.go (t2 := (181, [vR y, vI 3, vI 0, vI 1, vI 1, vI 0, vI 3], [vR y], aq_h m s F c_8)) rfl rfl ?_
  refine aq_gf (v := vR (y + 13)) rfl (by omega) hFo (by decide) rfl ?_
  show am_E _ (184, [vR y, vI 3, vI 0, vI 1, vI 1, vI 0, vI 3], [vR (y + 13)], aq_h m s F c_8) _
  refine am_E.go (t2 := (185, [vR y, vI 3, vI 0, vI 1, vI 1, vI 0, vI 3], [vI 1, vR (y + 13)], aq_h m s F c_8)) rfl rfl ?_
  refine aq_al (ok := fun k => k == 1) (v := vI (c_8 (y + 13) 1)) rfl rfl (by omega) hG13 rfl (by decide) (by decide) rfl ?_
  rw [mtc_8.2.1]
  show am_E _ (186, [vR y, vI 3, vI 0, vI 1, vI 1, vI 0, vI 3], [vI 1], aq_h m s F c_8) _
  refine am_E.go (t2 := (253, [vR y, vI 3, vI 0, vI 1, vI 1, vI 0, vI 3], [], aq_h m s F c_8)) rfl rfl ?_
  refine am_E.go (t2 := (256, [vR y, vI 3, vI 0, vI 2, vI 1, vI 0, vI 3], [], aq_h m s F c_8)) rfl rfl ?_
  refine am_E.go (t2 := (175, [vR y, vI 3, vI 0, vI 2, vI 1, vI 0, vI 3], [], aq_h m s F c_8)) rfl rfl ?_
  refine am_E.go (t2 := (176, [vR y, vI 3, vI 0, vI 2, vI 1, vI 0, vI 3], [vI 2], aq_h m s F c_8)) rfl rfl ?_
  refine am_E.go (t2 := (177, [vR y, vI 3, vI 0, vI 2, vI 1, vI 0, vI 3], [vI 3, vI 2], aq_h m s F c_8)) rfl rfl ?_
  refine am_E.go (t2 := (180, [vR y, vI 3, vI 0, vI 2, vI 1, vI 0, vI 3], [], aq_h m s F c_8)) rfl rfl ?_
  refine am_E.go (t2 := (181, [vR y, vI 3, vI 0, vI 2, vI 1, vI 0, vI 3], [vR y], aq_h m s F c_8)) rfl rfl ?_
  refine aq_gf (v := vR (y + 13)) rfl (by omega) hFo (by decide) rfl ?_
  show am_E _ (184, [vR y, vI 3, vI 0, vI 2, vI 1, vI 0, vI 3], [vR (y + 13)], aq_h m s F c_8) _
  refine am_E.go (t2 := (185, [vR y, vI 3, vI 0, vI 2, vI 1, vI 0, vI 3], [vI 2, vR (y + 13)], aq_h m s F c_8)) rfl rfl ?_
  refine aq_al (ok := fun k => k == 1) (v := vI (c_8 (y + 13) 2)) rfl rfl (by omega) hG13 rfl (by decide) (by decide) rfl ?_
  rw [mtc_8.2.2.1]
  show am_E _ (186, [vR y, vI 3, vI 0, vI 2, vI 1, vI 0, vI 3], [vI 1], aq_h m s F c_8) _
  refine am_E.go (t2 := (253, [vR y, vI 3, vI 0, vI 2, vI 1, vI 0, vI 3], [], aq_h m s F c_8)) rfl rfl ?_
  refine am_E.go (t2 := (256, [vR y, vI 3, vI 0, vI 3, vI 1, vI 0, vI 3], [], aq_h m s F c_8)) rfl rfl ?_
  refine am_E.go (t2 := (175, [vR y, vI 3, vI 0, vI 3, vI 1, vI 0, vI 3], [], aq_h m s F c_8)) rfl rfl ?_
  refine am_E.go (t2 := (176, [vR y, vI 3, vI 0, vI 3, vI 1, vI 0, vI 3], [vI 3], aq_h m s F c_8)) rfl rfl ?_
  refine am_E.go (t2 := (177, [vR y, vI 3, vI 0, vI 3, vI 1, vI 0, vI 3], [vI 3, vI 3], aq_h m s F c_8)) rfl rfl ?_
  refine am_E.go (t2 := (259, [vR y, vI 3, vI 0, vI 3, vI 1, vI 0, vI 3], [], aq_h m s F c_8)) rfl rfl ?_
  refine am_E.go (t2 := (260, [vR y, vI 3, vI 0, vI 3, vI 1, vI 0, vI 3], [vI 0], aq_h m s F c_8)) rfl rfl ?_
  refine am_E.ret rfl rfl ?_
  exact ⟨_, rfl, sc_8, rfl⟩

theorem qm_fo_3111 {m s : Nat} {F : aq_F} {c : aq_C} {y : Nat} (hO : mo_0 m F y) (hA0 : c (y + 18) 0 = 3) (hA1 : c (y + 18) 1 = 2) (hA2 : c (y + 18) 2 = 1) (hB0 : c (y + 19) 0 = 3) (hB1 : c (y + 19) 1 = 2) (hB2 : c (y + 19) 2 = 1) : am_E ac_X5_formOf (0, [vR y, vI 3, vU, vU, vU, vU, vU], [], aq_h m s F c) (aq_Z m s F (fun a => a = y + 13) c (fun r _ => r = some (vI 1))) := by
  obtain ⟨hm, hFo, hG5, hG6, hG7, hG8, hG9, hG10, hG11, hG12, hG13, hG14, hG15, hG16, hG17, hG18, hG19, hG20, hG21, hG22, hG23⟩ := hO
  have hmt : mt_ y (c (y + 13) 0) (c (y + 13) 1) (c (y + 13) 2) (c (y + 13) 3) c := ⟨rfl, rfl, rfl, rfl⟩
  refine am_E.go (t2 := (1, [vR y, vI 3, vU, vU, vU, vU, vU], [vI 0], aq_h m s F c)) rfl rfl ?_
  refine am_E.go (t2 := (2, [vR y, vI 3, vI 0, vU, vU, vU, vU], [], aq_h m s F c)) rfl rfl ?_
  refine am_E.go (t2 := (3, [vR y, vI 3, vI 0, vU, vU, vU, vU], [vI 0], aq_h m s F c)) rfl rfl ?_
  refine am_E.go (t2 := (4, [vR y, vI 3, vI 0, vU, vU, vU, vU], [vI 4, vI 0], aq_h m s F c)) rfl rfl ?_
  refine am_E.go (t2 := (7, [vR y, vI 3, vI 0, vU, vU, vU, vU], [], aq_h m s F c)) rfl rfl ?_
  refine am_E.go (t2 := (8, [vR y, vI 3, vI 0, vU, vU, vU, vU], [vR y], aq_h m s F c)) rfl rfl ?_
  refine aq_gf (v := vR (y + 13)) rfl (by omega) hFo (by decide) rfl ?_
  show am_E _ (11, [vR y, vI 3, vI 0, vU, vU, vU, vU], [vR (y + 13)], aq_h m s F c) _
  refine am_E.go (t2 := (12, [vR y, vI 3, vI 0, vU, vU, vU, vU], [vI 0, vR (y + 13)], aq_h m s F c)) rfl rfl ?_
  refine am_E.go (t2 := (13, [vR y, vI 3, vI 0, vU, vU, vU, vU], [vI 0, vI 0, vR (y + 13)], aq_h m s F c)) rfl rfl ?_
  refine aq_as (kd := 1) rfl rfl (by omega) hG13 (by omega) (by omega) rfl rfl ?_
  show am_E _ (14, [vR y, vI 3, vI 0, vU, vU, vU, vU], [], aq_h m s F (aq_u c (y + 13) 0 0)) _
  generalize hdc_1 : aq_u c (y + 13) 0 0 = c_1
  have sc_1 := aq_smu (aq_sm0 (c := c) (S := fun a => a = y + 13)) hdc_1 rfl
  have mtc_1 := mt_0 hmt hdc_1
  refine am_E.go (t2 := (17, [vR y, vI 3, vI 1, vU, vU, vU, vU], [], aq_h m s F c_1)) rfl rfl ?_
  refine am_E.go (t2 := (2, [vR y, vI 3, vI 1, vU, vU, vU, vU], [], aq_h m s F c_1)) rfl rfl ?_
  refine am_E.go (t2 := (3, [vR y, vI 3, vI 1, vU, vU, vU, vU], [vI 1], aq_h m s F c_1)) rfl rfl ?_
  refine am_E.go (t2 := (4, [vR y, vI 3, vI 1, vU, vU, vU, vU], [vI 4, vI 1], aq_h m s F c_1)) rfl rfl ?_
  refine am_E.go (t2 := (7, [vR y, vI 3, vI 1, vU, vU, vU, vU], [], aq_h m s F c_1)) rfl rfl ?_
  refine am_E.go (t2 := (8, [vR y, vI 3, vI 1, vU, vU, vU, vU], [vR y], aq_h m s F c_1)) rfl rfl ?_
  refine aq_gf (v := vR (y + 13)) rfl (by omega) hFo (by decide) rfl ?_
  show am_E _ (11, [vR y, vI 3, vI 1, vU, vU, vU, vU], [vR (y + 13)], aq_h m s F c_1) _
  refine am_E.go (t2 := (12, [vR y, vI 3, vI 1, vU, vU, vU, vU], [vI 1, vR (y + 13)], aq_h m s F c_1)) rfl rfl ?_
  refine am_E.go (t2 := (13, [vR y, vI 3, vI 1, vU, vU, vU, vU], [vI 0, vI 1, vR (y + 13)], aq_h m s F c_1)) rfl rfl ?_
  refine aq_as (kd := 1) rfl rfl (by omega) hG13 (by omega) (by omega) rfl rfl ?_
  show am_E _ (14, [vR y, vI 3, vI 1, vU, vU, vU, vU], [], aq_h m s F (aq_u c_1 (y + 13) 1 0)) _
  generalize hdc_2 : aq_u c_1 (y + 13) 1 0 = c_2
  have sc_2 := aq_smu sc_1 hdc_2 rfl
  have mtc_2 := mt_1 mtc_1 hdc_2
  refine am_E.go (t2 := (17, [vR y, vI 3, vI 2, vU, vU, vU, vU], [], aq_h m s F c_2)) rfl rfl ?_
  refine am_E.go (t2 := (2, [vR y, vI 3, vI 2, vU, vU, vU, vU], [], aq_h m s F c_2)) rfl rfl ?_
  refine am_E.go (t2 := (3, [vR y, vI 3, vI 2, vU, vU, vU, vU], [vI 2], aq_h m s F c_2)) rfl rfl ?_
  refine am_E.go (t2 := (4, [vR y, vI 3, vI 2, vU, vU, vU, vU], [vI 4, vI 2], aq_h m s F c_2)) rfl rfl ?_
  refine am_E.go (t2 := (7, [vR y, vI 3, vI 2, vU, vU, vU, vU], [], aq_h m s F c_2)) rfl rfl ?_
  refine am_E.go (t2 := (8, [vR y, vI 3, vI 2, vU, vU, vU, vU], [vR y], aq_h m s F c_2)) rfl rfl ?_
  refine aq_gf (v := vR (y + 13)) rfl (by omega) hFo (by decide) rfl ?_
  show am_E _ (11, [vR y, vI 3, vI 2, vU, vU, vU, vU], [vR (y + 13)], aq_h m s F c_2) _
  refine am_E.go (t2 := (12, [vR y, vI 3, vI 2, vU, vU, vU, vU], [vI 2, vR (y + 13)], aq_h m s F c_2)) rfl rfl ?_
  refine am_E.go (t2 := (13, [vR y, vI 3, vI 2, vU, vU, vU, vU], [vI 0, vI 2, vR (y + 13)], aq_h m s F c_2)) rfl rfl ?_
  refine aq_as (kd := 1) rfl rfl (by omega) hG13 (by omega) (by omega) rfl rfl ?_
  show am_E _ (14, [vR y, vI 3, vI 2, vU, vU, vU, vU], [], aq_h m s F (aq_u c_2 (y + 13) 2 0)) _
  generalize hdc_3 : aq_u c_2 (y + 13) 2 0 = c_3
  have sc_3 := aq_smu sc_2 hdc_3 rfl
  have mtc_3 := mt_2 mtc_2 hdc_3
  refine am_E.go (t2 := (17, [vR y, vI 3, vI 3, vU, vU, vU, vU], [], aq_h m s F c_3)) rfl rfl ?_
  refine am_E.go (t2 := (2, [vR y, vI 3, vI 3, vU, vU, vU, vU], [], aq_h m s F c_3)) rfl rfl ?_
  refine am_E.go (t2 := (3, [vR y, vI 3, vI 3, vU, vU, vU, vU], [vI 3], aq_h m s F c_3)) rfl rfl ?_
  refine am_E.go (t2 := (4, [vR y, vI 3, vI 3, vU, vU, vU, vU], [vI 4, vI 3], aq_h m s F c_3)) rfl rfl ?_
  refine am_E.go (t2 := (7, [vR y, vI 3, vI 3, vU, vU, vU, vU], [], aq_h m s F c_3)) rfl rfl ?_
  refine am_E.go (t2 := (8, [vR y, vI 3, vI 3, vU, vU, vU, vU], [vR y], aq_h m s F c_3)) rfl rfl ?_
  refine aq_gf (v := vR (y + 13)) rfl (by omega) hFo (by decide) rfl ?_
  show am_E _ (11, [vR y, vI 3, vI 3, vU, vU, vU, vU], [vR (y + 13)], aq_h m s F c_3) _
  refine am_E.go (t2 := (12, [vR y, vI 3, vI 3, vU, vU, vU, vU], [vI 3, vR (y + 13)], aq_h m s F c_3)) rfl rfl ?_
  refine am_E.go (t2 := (13, [vR y, vI 3, vI 3, vU, vU, vU, vU], [vI 0, vI 3, vR (y + 13)], aq_h m s F c_3)) rfl rfl ?_
  refine aq_as (kd := 1) rfl rfl (by omega) hG13 (by omega) (by omega) rfl rfl ?_
  show am_E _ (14, [vR y, vI 3, vI 3, vU, vU, vU, vU], [], aq_h m s F (aq_u c_3 (y + 13) 3 0)) _
  generalize hdc_4 : aq_u c_3 (y + 13) 3 0 = c_4
  have sc_4 := aq_smu sc_3 hdc_4 rfl
  have mtc_4 := mt_3 mtc_3 hdc_4
  refine am_E.go (t2 := (17, [vR y, vI 3, vI 4, vU, vU, vU, vU], [], aq_h m s F c_4)) rfl rfl ?_
  refine am_E.go (t2 := (2, [vR y, vI 3, vI 4, vU, vU, vU, vU], [], aq_h m s F c_4)) rfl rfl ?_
  refine am_E.go (t2 := (3, [vR y, vI 3, vI 4, vU, vU, vU, vU], [vI 4], aq_h m s F c_4)) rfl rfl ?_
  refine am_E.go (t2 := (4, [vR y, vI 3, vI 4, vU, vU, vU, vU], [vI 4, vI 4], aq_h m s F c_4)) rfl rfl ?_
  refine am_E.go (t2 := (20, [vR y, vI 3, vI 4, vU, vU, vU, vU], [], aq_h m s F c_4)) rfl rfl ?_
  refine am_E.go (t2 := (21, [vR y, vI 3, vI 4, vU, vU, vU, vU], [vI 0], aq_h m s F c_4)) rfl rfl ?_
  refine am_E.go (t2 := (22, [vR y, vI 3, vI 0, vU, vU, vU, vU], [], aq_h m s F c_4)) rfl rfl ?_
  refine am_E.go (t2 := (23, [vR y, vI 3, vI 0, vU, vU, vU, vU], [vI 0], aq_h m s F c_4)) rfl rfl ?_
  refine am_E.go (t2 := (24, [vR y, vI 3, vI 0, vU, vU, vU, vU], [vI 3, vI 0], aq_h m s F c_4)) rfl rfl ?_
  refine am_E.go (t2 := (27, [vR y, vI 3, vI 0, vU, vU, vU, vU], [], aq_h m s F c_4)) rfl rfl ?_
  refine am_E.go (t2 := (28, [vR y, vI 3, vI 0, vU, vU, vU, vU], [vR y], aq_h m s F c_4)) rfl rfl ?_
  refine aq_gf (v := vR (y + 18)) rfl (by omega) hFo (by decide) rfl ?_
  show am_E _ (31, [vR y, vI 3, vI 0, vU, vU, vU, vU], [vR (y + 18)], aq_h m s F c_4) _
  refine am_E.go (t2 := (32, [vR y, vI 3, vI 0, vU, vU, vU, vU], [vI 0, vR (y + 18)], aq_h m s F c_4)) rfl rfl ?_
  refine aq_al (ok := fun k => k == 0) (v := vI (c_4 (y + 18) 0)) rfl rfl (by omega) hG18 rfl (by decide) (by decide) rfl ?_
  rw [sc_4 (y + 18) (by omega), hA0]
  show am_E _ (33, [vR y, vI 3, vI 0, vU, vU, vU, vU], [vI 3], aq_h m s F c_4) _
  refine am_E.go (t2 := (34, [vR y, vI 3, vI 0, vU, vU, vU, vU], [vI 3, vI 3], aq_h m s F c_4)) rfl rfl ?_
  refine am_E.go (t2 := (37, [vR y, vI 3, vI 0, vU, vU, vU, vU], [], aq_h m s F c_4)) rfl rfl ?_
  refine am_E.go (t2 := (38, [vR y, vI 3, vI 0, vU, vU, vU, vU], [vI 0], aq_h m s F c_4)) rfl rfl ?_
  refine am_E.go (t2 := (39, [vR y, vI 3, vI 0, vI 0, vU, vU, vU], [], aq_h m s F c_4)) rfl rfl ?_
  refine am_E.go (t2 := (40, [vR y, vI 3, vI 0, vI 0, vU, vU, vU], [vI 1], aq_h m s F c_4)) rfl rfl ?_
  refine am_E.go (t2 := (42, [vR y, vI 3, vI 0, vI 0, vI 1, vU, vU], [], aq_h m s F c_4)) rfl rfl ?_
  refine am_E.go (t2 := (43, [vR y, vI 3, vI 0, vI 0, vI 1, vU, vU], [vI 1], aq_h m s F c_4)) rfl rfl ?_
  refine am_E.go (t2 := (45, [vR y, vI 3, vI 0, vI 0, vI 1, vI 1, vU], [], aq_h m s F c_4)) rfl rfl ?_
  refine am_E.go (t2 := (47, [vR y, vI 3, vI 0, vI 0, vI 1, vI 1, vU], [vI 1], aq_h m s F c_4)) rfl rfl ?_
  refine am_E.go (t2 := (50, [vR y, vI 3, vI 0, vI 0, vI 1, vI 1, vU], [], aq_h m s F c_4)) rfl rfl ?_
  refine am_E.go (t2 := (51, [vR y, vI 3, vI 0, vI 0, vI 1, vI 1, vU], [vR y], aq_h m s F c_4)) rfl rfl ?_
  refine aq_gf (v := vR (y + 13)) rfl (by omega) hFo (by decide) rfl ?_
  show am_E _ (54, [vR y, vI 3, vI 0, vI 0, vI 1, vI 1, vU], [vR (y + 13)], aq_h m s F c_4) _
  refine am_E.go (t2 := (55, [vR y, vI 3, vI 0, vI 0, vI 1, vI 1, vU], [vI 0, vR (y + 13)], aq_h m s F c_4)) rfl rfl ?_
  refine am_E.go (t2 := (56, [vR y, vI 3, vI 0, vI 0, vI 1, vI 1, vU], [vI 1, vI 0, vR (y + 13)], aq_h m s F c_4)) rfl rfl ?_
  refine aq_as (kd := 1) rfl rfl (by omega) hG13 (by omega) (by omega) rfl rfl ?_
  show am_E _ (57, [vR y, vI 3, vI 0, vI 0, vI 1, vI 1, vU], [], aq_h m s F (aq_u c_4 (y + 13) 0 1)) _
  generalize hdc_5 : aq_u c_4 (y + 13) 0 1 = c_5
  have sc_5 := aq_smu sc_4 hdc_5 rfl
  have mtc_5 := mt_0 mtc_4 hdc_5
  refine am_E.go (t2 := (59, [vR y, vI 3, vI 0, vI 0, vI 1, vI 1, vU], [vI 1], aq_h m s F c_5)) rfl rfl ?_
  refine am_E.go (t2 := (62, [vR y, vI 3, vI 0, vI 0, vI 1, vI 1, vU], [], aq_h m s F c_5)) rfl rfl ?_
  refine am_E.go (t2 := (63, [vR y, vI 3, vI 0, vI 0, vI 1, vI 1, vU], [vR y], aq_h m s F c_5)) rfl rfl ?_
  refine aq_gf (v := vR (y + 19)) rfl (by omega) hFo (by decide) rfl ?_
  show am_E _ (66, [vR y, vI 3, vI 0, vI 0, vI 1, vI 1, vU], [vR (y + 19)], aq_h m s F c_5) _
  refine am_E.go (t2 := (67, [vR y, vI 3, vI 0, vI 0, vI 1, vI 1, vU], [vI 0, vR (y + 19)], aq_h m s F c_5)) rfl rfl ?_
  refine aq_al (ok := fun k => k == 0) (v := vI (c_5 (y + 19) 0)) rfl rfl (by omega) hG19 rfl (by decide) (by decide) rfl ?_
  rw [sc_5 (y + 19) (by omega), hB0]
  show am_E _ (68, [vR y, vI 3, vI 0, vI 0, vI 1, vI 1, vU], [vI 3], aq_h m s F c_5) _
  refine am_E.go (t2 := (77, [vR y, vI 3, vI 0, vI 0, vI 1, vI 1, vU], [vI 3], aq_h m s F c_5)) rfl rfl ?_
  refine am_E.go (t2 := (79, [vR y, vI 3, vI 0, vI 0, vI 1, vI 1, vI 3], [], aq_h m s F c_5)) rfl rfl ?_
  refine am_E.go (t2 := (81, [vR y, vI 3, vI 0, vI 0, vI 1, vI 1, vI 3], [vI 3], aq_h m s F c_5)) rfl rfl ?_
  refine am_E.go (t2 := (82, [vR y, vI 3, vI 0, vI 0, vI 1, vI 1, vI 3], [vI 3, vI 3], aq_h m s F c_5)) rfl rfl ?_
  refine am_E.go (t2 := (89, [vR y, vI 3, vI 0, vI 0, vI 1, vI 1, vI 3], [], aq_h m s F c_5)) rfl rfl ?_
  refine am_E.go (t2 := (90, [vR y, vI 3, vI 0, vI 0, vI 1, vI 1, vI 3], [vI 0], aq_h m s F c_5)) rfl rfl ?_
  refine am_E.go (t2 := (92, [vR y, vI 3, vI 0, vI 0, vI 1, vI 0, vI 3], [], aq_h m s F c_5)) rfl rfl ?_
  refine am_E.go (t2 := (94, [vR y, vI 3, vI 0, vI 0, vI 1, vI 0, vI 3], [vI 0], aq_h m s F c_5)) rfl rfl ?_
  refine am_E.go (t2 := (112, [vR y, vI 3, vI 0, vI 0, vI 1, vI 0, vI 3], [], aq_h m s F c_5)) rfl rfl ?_
  refine am_E.go (t2 := (45, [vR y, vI 3, vI 0, vI 0, vI 1, vI 0, vI 3], [], aq_h m s F c_5)) rfl rfl ?_
  refine am_E.go (t2 := (47, [vR y, vI 3, vI 0, vI 0, vI 1, vI 0, vI 3], [vI 0], aq_h m s F c_5)) rfl rfl ?_
  refine am_E.go (t2 := (115, [vR y, vI 3, vI 0, vI 0, vI 1, vI 0, vI 3], [], aq_h m s F c_5)) rfl rfl ?_
  refine am_E.go (t2 := (116, [vR y, vI 3, vI 0, vI 0, vI 1, vI 0, vI 3], [vR y], aq_h m s F c_5)) rfl rfl ?_
  refine aq_gf (v := vR (y + 13)) rfl (by omega) hFo (by decide) rfl ?_
  show am_E _ (119, [vR y, vI 3, vI 0, vI 0, vI 1, vI 0, vI 3], [vR (y + 13)], aq_h m s F c_5) _
  refine am_E.go (t2 := (120, [vR y, vI 3, vI 0, vI 0, vI 1, vI 0, vI 3], [vI 0, vR (y + 13)], aq_h m s F c_5)) rfl rfl ?_
  refine am_E.go (t2 := (121, [vR y, vI 3, vI 0, vI 0, vI 1, vI 0, vI 3], [vI 1, vI 0, vR (y + 13)], aq_h m s F c_5)) rfl rfl ?_
  refine aq_as (kd := 1) rfl rfl (by omega) hG13 (by omega) (by omega) rfl rfl ?_
  show am_E _ (122, [vR y, vI 3, vI 0, vI 0, vI 1, vI 0, vI 3], [], aq_h m s F (aq_u c_5 (y + 13) 0 1)) _
  generalize hdc_6 : aq_u c_5 (y + 13) 0 1 = c_6
  have sc_6 := aq_smu sc_5 hdc_6 rfl
  have mtc_6 := mt_0 mtc_5 hdc_6
  refine am_E.go (t2 := (124, [vR y, vI 3, vI 0, vI 0, vI 1, vI 0, vI 3], [vI 1], aq_h m s F c_6)) rfl rfl ?_
  refine am_E.go (t2 := (130, [vR y, vI 3, vI 0, vI 0, vI 1, vI 0, vI 3], [], aq_h m s F c_6)) rfl rfl ?_
  refine am_E.go (t2 := (133, [vR y, vI 3, vI 1, vI 0, vI 1, vI 0, vI 3], [], aq_h m s F c_6)) rfl rfl ?_
  refine am_E.go (t2 := (22, [vR y, vI 3, vI 1, vI 0, vI 1, vI 0, vI 3], [], aq_h m s F c_6)) rfl rfl ?_
  refine am_E.go (t2 := (23, [vR y, vI 3, vI 1, vI 0, vI 1, vI 0, vI 3], [vI 1], aq_h m s F c_6)) rfl rfl ?_
  refine am_E.go (t2 := (24, [vR y, vI 3, vI 1, vI 0, vI 1, vI 0, vI 3], [vI 3, vI 1], aq_h m s F c_6)) rfl rfl ?_
  refine am_E.go (t2 := (27, [vR y, vI 3, vI 1, vI 0, vI 1, vI 0, vI 3], [], aq_h m s F c_6)) rfl rfl ?_
  refine am_E.go (t2 := (28, [vR y, vI 3, vI 1, vI 0, vI 1, vI 0, vI 3], [vR y], aq_h m s F c_6)) rfl rfl ?_
  refine aq_gf (v := vR (y + 18)) rfl (by omega) hFo (by decide) rfl ?_
  show am_E _ (31, [vR y, vI 3, vI 1, vI 0, vI 1, vI 0, vI 3], [vR (y + 18)], aq_h m s F c_6) _
  refine am_E.go (t2 := (32, [vR y, vI 3, vI 1, vI 0, vI 1, vI 0, vI 3], [vI 1, vR (y + 18)], aq_h m s F c_6)) rfl rfl ?_
  refine aq_al (ok := fun k => k == 0) (v := vI (c_6 (y + 18) 1)) rfl rfl (by omega) hG18 rfl (by decide) (by decide) rfl ?_
  rw [sc_6 (y + 18) (by omega), hA1]
  show am_E _ (33, [vR y, vI 3, vI 1, vI 0, vI 1, vI 0, vI 3], [vI 2], aq_h m s F c_6) _
  refine am_E.go (t2 := (34, [vR y, vI 3, vI 1, vI 0, vI 1, vI 0, vI 3], [vI 3, vI 2], aq_h m s F c_6)) rfl rfl ?_
  refine am_E.go (t2 := (130, [vR y, vI 3, vI 1, vI 0, vI 1, vI 0, vI 3], [], aq_h m s F c_6)) rfl rfl ?_
  refine am_E.go (t2 := (133, [vR y, vI 3, vI 2, vI 0, vI 1, vI 0, vI 3], [], aq_h m s F c_6)) rfl rfl ?_
  refine am_E.go (t2 := (22, [vR y, vI 3, vI 2, vI 0, vI 1, vI 0, vI 3], [], aq_h m s F c_6)) rfl rfl ?_
  refine am_E.go (t2 := (23, [vR y, vI 3, vI 2, vI 0, vI 1, vI 0, vI 3], [vI 2], aq_h m s F c_6)) rfl rfl ?_
  refine am_E.go (t2 := (24, [vR y, vI 3, vI 2, vI 0, vI 1, vI 0, vI 3], [vI 3, vI 2], aq_h m s F c_6)) rfl rfl ?_
  refine am_E.go (t2 := (27, [vR y, vI 3, vI 2, vI 0, vI 1, vI 0, vI 3], [], aq_h m s F c_6)) rfl rfl ?_
  refine am_E.go (t2 := (28, [vR y, vI 3, vI 2, vI 0, vI 1, vI 0, vI 3], [vR y], aq_h m s F c_6)) rfl rfl ?_
  refine aq_gf (v := vR (y + 18)) rfl (by omega) hFo (by decide) rfl ?_
  show am_E _ (31, [vR y, vI 3, vI 2, vI 0, vI 1, vI 0, vI 3], [vR (y + 18)], aq_h m s F c_6) _
  refine am_E.go (t2 := (32, [vR y, vI 3, vI 2, vI 0, vI 1, vI 0, vI 3], [vI 2, vR (y + 18)], aq_h m s F c_6)) rfl rfl ?_
  refine aq_al (ok := fun k => k == 0) (v := vI (c_6 (y + 18) 2)) rfl rfl (by omega) hG18 rfl (by decide) (by decide) rfl ?_
  rw [sc_6 (y + 18) (by omega), hA2]
  show am_E _ (33, [vR y, vI 3, vI 2, vI 0, vI 1, vI 0, vI 3], [vI 1], aq_h m s F c_6) _
  refine am_E.go (t2 := (34, [vR y, vI 3, vI 2, vI 0, vI 1, vI 0, vI 3], [vI 3, vI 1], aq_h m s F c_6)) rfl rfl ?_
  refine am_E.go (t2 := (130, [vR y, vI 3, vI 2, vI 0, vI 1, vI 0, vI 3], [], aq_h m s F c_6)) rfl rfl ?_
  refine am_E.go (t2 := (133, [vR y, vI 3, vI 3, vI 0, vI 1, vI 0, vI 3], [], aq_h m s F c_6)) rfl rfl ?_
  refine am_E.go (t2 := (22, [vR y, vI 3, vI 3, vI 0, vI 1, vI 0, vI 3], [], aq_h m s F c_6)) rfl rfl ?_
  refine am_E.go (t2 := (23, [vR y, vI 3, vI 3, vI 0, vI 1, vI 0, vI 3], [vI 3], aq_h m s F c_6)) rfl rfl ?_
  refine am_E.go (t2 := (24, [vR y, vI 3, vI 3, vI 0, vI 1, vI 0, vI 3], [vI 3, vI 3], aq_h m s F c_6)) rfl rfl ?_
  refine am_E.go (t2 := (136, [vR y, vI 3, vI 3, vI 0, vI 1, vI 0, vI 3], [], aq_h m s F c_6)) rfl rfl ?_
  refine am_E.go (t2 := (137, [vR y, vI 3, vI 3, vI 0, vI 1, vI 0, vI 3], [vI 0], aq_h m s F c_6)) rfl rfl ?_
  refine am_E.go (t2 := (138, [vR y, vI 3, vI 0, vI 0, vI 1, vI 0, vI 3], [], aq_h m s F c_6)) rfl rfl ?_
  refine am_E.go (t2 := (139, [vR y, vI 3, vI 0, vI 0, vI 1, vI 0, vI 3], [vI 0], aq_h m s F c_6)) rfl rfl ?_
  refine am_E.go (t2 := (140, [vR y, vI 3, vI 0, vI 0, vI 1, vI 0, vI 3], [vI 3, vI 0], aq_h m s F c_6)) rfl rfl ?_
  refine am_E.go (t2 := (143, [vR y, vI 3, vI 0, vI 0, vI 1, vI 0, vI 3], [], aq_h m s F c_6)) rfl rfl ?_
  refine am_E.go (t2 := (144, [vR y, vI 3, vI 0, vI 0, vI 1, vI 0, vI 3], [vR y], aq_h m s F c_6)) rfl rfl ?_
  refine aq_gf (v := vR (y + 13)) rfl (by omega) hFo (by decide) rfl ?_
  show am_E _ (147, [vR y, vI 3, vI 0, vI 0, vI 1, vI 0, vI 3], [vR (y + 13)], aq_h m s F c_6) _
  refine am_E.go (t2 := (148, [vR y, vI 3, vI 0, vI 0, vI 1, vI 0, vI 3], [vI 0, vR (y + 13)], aq_h m s F c_6)) rfl rfl ?_
  refine aq_al (ok := fun k => k == 1) (v := vI (c_6 (y + 13) 0)) rfl rfl (by omega) hG13 rfl (by decide) (by decide) rfl ?_
  rw [mtc_6.1]
  show am_E _ (149, [vR y, vI 3, vI 0, vI 0, vI 1, vI 0, vI 3], [vI 1], aq_h m s F c_6) _
  refine am_E.go (t2 := (165, [vR y, vI 3, vI 0, vI 0, vI 1, vI 0, vI 3], [], aq_h m s F c_6)) rfl rfl ?_
  refine am_E.go (t2 := (168, [vR y, vI 3, vI 1, vI 0, vI 1, vI 0, vI 3], [], aq_h m s F c_6)) rfl rfl ?_
  refine am_E.go (t2 := (138, [vR y, vI 3, vI 1, vI 0, vI 1, vI 0, vI 3], [], aq_h m s F c_6)) rfl rfl ?_
  refine am_E.go (t2 := (139, [vR y, vI 3, vI 1, vI 0, vI 1, vI 0, vI 3], [vI 1], aq_h m s F c_6)) rfl rfl ?_
  refine am_E.go (t2 := (140, [vR y, vI 3, vI 1, vI 0, vI 1, vI 0, vI 3], [vI 3, vI 1], aq_h m s F c_6)) rfl rfl ?_
  refine am_E.go (t2 := (143, [vR y, vI 3, vI 1, vI 0, vI 1, vI 0, vI 3], [], aq_h m s F c_6)) rfl rfl ?_
  refine am_E.go (t2 := (144, [vR y, vI 3, vI 1, vI 0, vI 1, vI 0, vI 3], [vR y], aq_h m s F c_6)) rfl rfl ?_
  refine aq_gf (v := vR (y + 13)) rfl (by omega) hFo (by decide) rfl ?_
  show am_E _ (147, [vR y, vI 3, vI 1, vI 0, vI 1, vI 0, vI 3], [vR (y + 13)], aq_h m s F c_6) _
  refine am_E.go (t2 := (148, [vR y, vI 3, vI 1, vI 0, vI 1, vI 0, vI 3], [vI 1, vR (y + 13)], aq_h m s F c_6)) rfl rfl ?_
  refine aq_al (ok := fun k => k == 1) (v := vI (c_6 (y + 13) 1)) rfl rfl (by omega) hG13 rfl (by decide) (by decide) rfl ?_
  rw [mtc_6.2.1]
  show am_E _ (149, [vR y, vI 3, vI 1, vI 0, vI 1, vI 0, vI 3], [vI 0], aq_h m s F c_6) _
  refine am_E.go (t2 := (152, [vR y, vI 3, vI 1, vI 0, vI 1, vI 0, vI 3], [], aq_h m s F c_6)) rfl rfl ?_
  refine am_E.go (t2 := (153, [vR y, vI 3, vI 1, vI 0, vI 1, vI 0, vI 3], [vR y], aq_h m s F c_6)) rfl rfl ?_
  refine aq_gf (v := vR (y + 19)) rfl (by omega) hFo (by decide) rfl ?_
  show am_E _ (156, [vR y, vI 3, vI 1, vI 0, vI 1, vI 0, vI 3], [vR (y + 19)], aq_h m s F c_6) _
  refine am_E.go (t2 := (157, [vR y, vI 3, vI 1, vI 0, vI 1, vI 0, vI 3], [vI 1, vR (y + 19)], aq_h m s F c_6)) rfl rfl ?_
  refine aq_al (ok := fun k => k == 0) (v := vI (c_6 (y + 19) 1)) rfl rfl (by omega) hG19 rfl (by decide) (by decide) rfl ?_
  rw [sc_6 (y + 19) (by omega), hB1]
  show am_E _ (158, [vR y, vI 3, vI 1, vI 0, vI 1, vI 0, vI 3], [vI 2], aq_h m s F c_6) _
  refine am_E.go (t2 := (159, [vR y, vI 3, vI 1, vI 0, vI 1, vI 0, vI 3], [vI 3, vI 2], aq_h m s F c_6)) rfl rfl ?_
  refine am_E.go (t2 := (165, [vR y, vI 3, vI 1, vI 0, vI 1, vI 0, vI 3], [], aq_h m s F c_6)) rfl rfl ?_
  refine am_E.go (t2 := (168, [vR y, vI 3, vI 2, vI 0, vI 1, vI 0, vI 3], [], aq_h m s F c_6)) rfl rfl ?_
  refine am_E.go (t2 := (138, [vR y, vI 3, vI 2, vI 0, vI 1, vI 0, vI 3], [], aq_h m s F c_6)) rfl rfl ?_
  refine am_E.go (t2 := (139, [vR y, vI 3, vI 2, vI 0, vI 1, vI 0, vI 3], [vI 2], aq_h m s F c_6)) rfl rfl ?_
  refine am_E.go (t2 := (140, [vR y, vI 3, vI 2, vI 0, vI 1, vI 0, vI 3], [vI 3, vI 2], aq_h m s F c_6)) rfl rfl ?_
  refine am_E.go (t2 := (143, [vR y, vI 3, vI 2, vI 0, vI 1, vI 0, vI 3], [], aq_h m s F c_6)) rfl rfl ?_
  refine am_E.go (t2 := (144, [vR y, vI 3, vI 2, vI 0, vI 1, vI 0, vI 3], [vR y], aq_h m s F c_6)) rfl rfl ?_
  refine aq_gf (v := vR (y + 13)) rfl (by omega) hFo (by decide) rfl ?_
  show am_E _ (147, [vR y, vI 3, vI 2, vI 0, vI 1, vI 0, vI 3], [vR (y + 13)], aq_h m s F c_6) _
  refine am_E.go (t2 := (148, [vR y, vI 3, vI 2, vI 0, vI 1, vI 0, vI 3], [vI 2, vR (y + 13)], aq_h m s F c_6)) rfl rfl ?_
  refine aq_al (ok := fun k => k == 1) (v := vI (c_6 (y + 13) 2)) rfl rfl (by omega) hG13 rfl (by decide) (by decide) rfl ?_
  rw [mtc_6.2.2.1]
  show am_E _ (149, [vR y, vI 3, vI 2, vI 0, vI 1, vI 0, vI 3], [vI 0], aq_h m s F c_6) _
  refine am_E.go (t2 := (152, [vR y, vI 3, vI 2, vI 0, vI 1, vI 0, vI 3], [], aq_h m s F c_6)) rfl rfl ?_
  refine am_E.go (t2 := (153, [vR y, vI 3, vI 2, vI 0, vI 1, vI 0, vI 3], [vR y], aq_h m s F c_6)) rfl rfl ?_
  refine aq_gf (v := vR (y + 19)) rfl (by omega) hFo (by decide) rfl ?_
  show am_E _ (156, [vR y, vI 3, vI 2, vI 0, vI 1, vI 0, vI 3], [vR (y + 19)], aq_h m s F c_6) _
  refine am_E.go (t2 := (157, [vR y, vI 3, vI 2, vI 0, vI 1, vI 0, vI 3], [vI 2, vR (y + 19)], aq_h m s F c_6)) rfl rfl ?_
  refine aq_al (ok := fun k => k == 0) (v := vI (c_6 (y + 19) 2)) rfl rfl (by omega) hG19 rfl (by decide) (by decide) rfl ?_
  rw [sc_6 (y + 19) (by omega), hB2]
  show am_E _ (158, [vR y, vI 3, vI 2, vI 0, vI 1, vI 0, vI 3], [vI 1], aq_h m s F c_6) _
  refine am_E.go (t2 := (159, [vR y, vI 3, vI 2, vI 0, vI 1, vI 0, vI 3], [vI 3, vI 1], aq_h m s F c_6)) rfl rfl ?_
  refine am_E.go (t2 := (165, [vR y, vI 3, vI 2, vI 0, vI 1, vI 0, vI 3], [], aq_h m s F c_6)) rfl rfl ?_
  refine am_E.go (t2 := (168, [vR y, vI 3, vI 3, vI 0, vI 1, vI 0, vI 3], [], aq_h m s F c_6)) rfl rfl ?_
  refine am_E.go (t2 := (138, [vR y, vI 3, vI 3, vI 0, vI 1, vI 0, vI 3], [], aq_h m s F c_6)) rfl rfl ?_
  refine am_E.go (t2 := (139, [vR y, vI 3, vI 3, vI 0, vI 1, vI 0, vI 3], [vI 3], aq_h m s F c_6)) rfl rfl ?_
  refine am_E.go (t2 := (140, [vR y, vI 3, vI 3, vI 0, vI 1, vI 0, vI 3], [vI 3, vI 3], aq_h m s F c_6)) rfl rfl ?_
  refine am_E.go (t2 := (171, [vR y, vI 3, vI 3, vI 0, vI 1, vI 0, vI 3], [], aq_h m s F c_6)) rfl rfl ?_
  refine am_E.go (t2 := (172, [vR y, vI 3, vI 3, vI 0, vI 1, vI 0, vI 3], [vI 0], aq_h m s F c_6)) rfl rfl ?_
  refine am_E.go (t2 := (173, [vR y, vI 3, vI 0, vI 0, vI 1, vI 0, vI 3], [], aq_h m s F c_6)) rfl rfl ?_
  refine am_E.go (t2 := (174, [vR y, vI 3, vI 0, vI 0, vI 1, vI 0, vI 3], [vI 0], aq_h m s F c_6)) rfl rfl ?_
  refine am_E.go (t2 := (175, [vR y, vI 3, vI 0, vI 0, vI 1, vI 0, vI 3], [], aq_h m s F c_6)) rfl rfl ?_
  refine am_E.go (t2 := (176, [vR y, vI 3, vI 0, vI 0, vI 1, vI 0, vI 3], [vI 0], aq_h m s F c_6)) rfl rfl ?_
  refine am_E.go (t2 := (177, [vR y, vI 3, vI 0, vI 0, vI 1, vI 0, vI 3], [vI 3, vI 0], aq_h m s F c_6)) rfl rfl ?_
  refine am_E.go (t2 := (180, [vR y, vI 3, vI 0, vI 0, vI 1, vI 0, vI 3], [], aq_h m s F c_6)) rfl rfl ?_
  refine am_E.go (t2 := (181, [vR y, vI 3, vI 0, vI 0, vI 1, vI 0, vI 3], [vR y], aq_h m s F c_6)) rfl rfl ?_
  refine aq_gf (v := vR (y + 13)) rfl (by omega) hFo (by decide) rfl ?_
  show am_E _ (184, [vR y, vI 3, vI 0, vI 0, vI 1, vI 0, vI 3], [vR (y + 13)], aq_h m s F c_6) _
  refine am_E.go (t2 := (185, [vR y, vI 3, vI 0, vI 0, vI 1, vI 0, vI 3], [vI 0, vR (y + 13)], aq_h m s F c_6)) rfl rfl ?_
  refine aq_al (ok := fun k => k == 1) (v := vI (c_6 (y + 13) 0)) rfl rfl (by omega) hG13 rfl (by decide) (by decide) rfl ?_
  rw [mtc_6.1]
  show am_E _ (186, [vR y, vI 3, vI 0, vI 0, vI 1, vI 0, vI 3], [vI 1], aq_h m s F c_6) _
  refine am_E.go (t2 := (253, [vR y, vI 3, vI 0, vI 0, vI 1, vI 0, vI 3], [], aq_h m s F c_6)) rfl rfl ?_
  refine am_E.go (t2 := (256, [vR y, vI 3, vI 0, vI 1, vI 1, vI 0, vI 3], [], aq_h m s F c_6)) rfl rfl ?_
  refine am_E.go (t2 := (175, [vR y, vI 3, vI 0, vI 1, vI 1, vI 0, vI 3], [], aq_h m s F c_6)) rfl rfl ?_
  refine am_E.go (t2 := (176, [vR y, vI 3, vI 0, vI 1, vI 1, vI 0, vI 3], [vI 1], aq_h m s F c_6)) rfl rfl ?_
  refine am_E.go (t2 := (177, [vR y, vI 3, vI 0, vI 1, vI 1, vI 0, vI 3], [vI 3, vI 1], aq_h m s F c_6)) rfl rfl ?_
  refine am_E.go (t2 := (180, [vR y, vI 3, vI 0, vI 1, vI 1, vI 0, vI 3], [], aq_h m s F c_6)) rfl rfl ?_
  refine am_E.go (t2 := (181, [vR y, vI 3, vI 0, vI 1, vI 1, vI 0, vI 3], [vR y], aq_h m s F c_6)) rfl rfl ?_
  refine aq_gf (v := vR (y + 13)) rfl (by omega) hFo (by decide) rfl ?_
  show am_E _ (184, [vR y, vI 3, vI 0, vI 1, vI 1, vI 0, vI 3], [vR (y + 13)], aq_h m s F c_6) _
  refine am_E.go (t2 := (185, [vR y, vI 3, vI 0, vI 1, vI 1, vI 0, vI 3], [vI 1, vR (y + 13)], aq_h m s F c_6)) rfl rfl ?_
  refine aq_al (ok := fun k => k == 1) (v := vI (c_6 (y + 13) 1)) rfl rfl (by omega) hG13 rfl (by decide) (by decide) rfl ?_
  rw [mtc_6.2.1]
  show am_E _ (186, [vR y, vI 3, vI 0, vI 1, vI 1, vI 0, vI 3], [vI 0], aq_h m s F c_6) _
  refine am_E.go (t2 := (189, [vR y, vI 3, vI 0, vI 1, vI 1, vI 0, vI 3], [], aq_h m s F c_6)) rfl rfl ?_
  refine am_E.go (t2 := (192, [vR y, vI 3, vI 1, vI 1, vI 1, vI 0, vI 3], [], aq_h m s F c_6)) rfl rfl ?_
  refine am_E.go (t2 := (193, [vR y, vI 3, vI 1, vI 1, vI 1, vI 0, vI 3], [vI 1], aq_h m s F c_6)) rfl rfl ?_
  refine am_E.go (t2 := (195, [vR y, vI 3, vI 1, vI 1, vI 1, vI 0, vI 3], [], aq_h m s F c_6)) rfl rfl ?_
  refine am_E.go (t2 := (196, [vR y, vI 3, vI 1, vI 1, vI 1, vI 0, vI 3], [vI 1], aq_h m s F c_6)) rfl rfl ?_
  refine am_E.go (t2 := (198, [vR y, vI 3, vI 1, vI 1, vI 1, vI 1, vI 3], [], aq_h m s F c_6)) rfl rfl ?_
  refine am_E.go (t2 := (200, [vR y, vI 3, vI 1, vI 1, vI 1, vI 1, vI 3], [vI 1], aq_h m s F c_6)) rfl rfl ?_
  refine am_E.go (t2 := (203, [vR y, vI 3, vI 1, vI 1, vI 1, vI 1, vI 3], [], aq_h m s F c_6)) rfl rfl ?_
  refine am_E.go (t2 := (204, [vR y, vI 3, vI 1, vI 1, vI 1, vI 1, vI 3], [vR y], aq_h m s F c_6)) rfl rfl ?_
  refine aq_gf (v := vR (y + 13)) rfl (by omega) hFo (by decide) rfl ?_
  show am_E _ (207, [vR y, vI 3, vI 1, vI 1, vI 1, vI 1, vI 3], [vR (y + 13)], aq_h m s F c_6) _
  refine am_E.go (t2 := (209, [vR y, vI 3, vI 1, vI 1, vI 1, vI 1, vI 3], [vI 1, vR (y + 13)], aq_h m s F c_6)) rfl rfl ?_
  refine am_E.go (t2 := (210, [vR y, vI 3, vI 1, vI 1, vI 1, vI 1, vI 3], [vI 1, vI 1, vR (y + 13)], aq_h m s F c_6)) rfl rfl ?_
  refine aq_as (kd := 1) rfl rfl (by omega) hG13 (by omega) (by omega) rfl rfl ?_
  show am_E _ (211, [vR y, vI 3, vI 1, vI 1, vI 1, vI 1, vI 3], [], aq_h m s F (aq_u c_6 (y + 13) 1 1)) _
  generalize hdc_7 : aq_u c_6 (y + 13) 1 1 = c_7
  have sc_7 := aq_smu sc_6 hdc_7 rfl
  have mtc_7 := mt_1 mtc_6 hdc_7
  refine am_E.go (t2 := (212, [vR y, vI 3, vI 1, vI 1, vI 1, vI 1, vI 3], [vR y], aq_h m s F c_7)) rfl rfl ?_
  refine aq_gf (v := vR (y + 18)) rfl (by omega) hFo (by decide) rfl ?_
  show am_E _ (215, [vR y, vI 3, vI 1, vI 1, vI 1, vI 1, vI 3], [vR (y + 18)], aq_h m s F c_7) _
  refine am_E.go (t2 := (217, [vR y, vI 3, vI 1, vI 1, vI 1, vI 1, vI 3], [vI 1, vR (y + 18)], aq_h m s F c_7)) rfl rfl ?_
  refine aq_al (ok := fun k => k == 0) (v := vI (c_7 (y + 18) 1)) rfl rfl (by omega) hG18 rfl (by decide) (by decide) rfl ?_
  rw [sc_7 (y + 18) (by omega), hA1]
  show am_E _ (218, [vR y, vI 3, vI 1, vI 1, vI 1, vI 1, vI 3], [vI 2], aq_h m s F c_7) _
  refine am_E.go (t2 := (220, [vR y, vI 3, vI 1, vI 1, vI 2, vI 1, vI 3], [], aq_h m s F c_7)) rfl rfl ?_
  refine am_E.go (t2 := (221, [vR y, vI 3, vI 1, vI 1, vI 2, vI 1, vI 3], [vR y], aq_h m s F c_7)) rfl rfl ?_
  refine aq_gf (v := vR (y + 13)) rfl (by omega) hFo (by decide) rfl ?_
  show am_E _ (224, [vR y, vI 3, vI 1, vI 1, vI 2, vI 1, vI 3], [vR (y + 13)], aq_h m s F c_7) _
  refine am_E.go (t2 := (226, [vR y, vI 3, vI 1, vI 1, vI 2, vI 1, vI 3], [vI 2, vR (y + 13)], aq_h m s F c_7)) rfl rfl ?_
  refine am_E.go (t2 := (227, [vR y, vI 3, vI 1, vI 1, vI 2, vI 1, vI 3], [vI 1, vI 2, vR (y + 13)], aq_h m s F c_7)) rfl rfl ?_
  refine aq_as (kd := 1) rfl rfl (by omega) hG13 (by omega) (by omega) rfl rfl ?_
  show am_E _ (228, [vR y, vI 3, vI 1, vI 1, vI 2, vI 1, vI 3], [], aq_h m s F (aq_u c_7 (y + 13) 2 1)) _
  generalize hdc_8 : aq_u c_7 (y + 13) 2 1 = c_8
  have sc_8 := aq_smu sc_7 hdc_8 rfl
  have mtc_8 := mt_2 mtc_7 hdc_8
  refine am_E.go (t2 := (229, [vR y, vI 3, vI 1, vI 1, vI 2, vI 1, vI 3], [vR y], aq_h m s F c_8)) rfl rfl ?_
  refine aq_gf (v := vR (y + 19)) rfl (by omega) hFo (by decide) rfl ?_
  show am_E _ (232, [vR y, vI 3, vI 1, vI 1, vI 2, vI 1, vI 3], [vR (y + 19)], aq_h m s F c_8) _
  refine am_E.go (t2 := (234, [vR y, vI 3, vI 1, vI 1, vI 2, vI 1, vI 3], [vI 2, vR (y + 19)], aq_h m s F c_8)) rfl rfl ?_
  refine aq_al (ok := fun k => k == 0) (v := vI (c_8 (y + 19) 2)) rfl rfl (by omega) hG19 rfl (by decide) (by decide) rfl ?_
  rw [sc_8 (y + 19) (by omega), hB2]
  show am_E _ (235, [vR y, vI 3, vI 1, vI 1, vI 2, vI 1, vI 3], [vI 1], aq_h m s F c_8) _
  refine am_E.go (t2 := (237, [vR y, vI 3, vI 1, vI 1, vI 1, vI 1, vI 3], [], aq_h m s F c_8)) rfl rfl ?_
  refine am_E.go (t2 := (239, [vR y, vI 3, vI 1, vI 1, vI 1, vI 1, vI 3], [vI 1], aq_h m s F c_8)) rfl rfl ?_
  refine am_E.go (t2 := (240, [vR y, vI 3, vI 1, vI 1, vI 1, vI 1, vI 3], [vI 1, vI 1], aq_h m s F c_8)) rfl rfl ?_
  refine am_E.go (t2 := (247, [vR y, vI 3, vI 1, vI 1, vI 1, vI 1, vI 3], [], aq_h m s F c_8)) rfl rfl ?_
  refine am_E.go (t2 := (248, [vR y, vI 3, vI 1, vI 1, vI 1, vI 1, vI 3], [vI 0], aq_h m s F c_8)) rfl rfl ?_
  refine am_E.go (t2 := (250, [vR y, vI 3, vI 1, vI 1, vI 1, vI 0, vI 3], [], aq_h m s F c_8)) rfl rfl ?_
  refine am_E.go (t2 := (198, [vR y, vI 3, vI 1, vI 1, vI 1, vI 0, vI 3], [], aq_h m s F c_8)) rfl rfl ?_
  refine am_E.go (t2 := (200, [vR y, vI 3, vI 1, vI 1, vI 1, vI 0, vI 3], [vI 0], aq_h m s F c_8)) rfl rfl ?_
  refine am_E.go (t2 := (253, [vR y, vI 3, vI 1, vI 1, vI 1, vI 0, vI 3], [], aq_h m s F c_8)) rfl rfl ?_
  refine am_E.go (t2 := (256, [vR y, vI 3, vI 1, vI 2, vI 1, vI 0, vI 3], [], aq_h m s F c_8)) rfl rfl ?_
  refine am_E.go (t2 := (175, [vR y, vI 3, vI 1, vI 2, vI 1, vI 0, vI 3], [], aq_h m s F c_8)) rfl rfl ?_
  refine am_E.go (t2 := (176, [vR y, vI 3, vI 1, vI 2, vI 1, vI 0, vI 3], [vI 2], aq_h m s F c_8)) rfl rfl ?_
  refine am_E.go (t2 := (177, [vR y, vI 3, vI 1, vI 2, vI 1, vI 0, vI 3], [vI 3, vI 2], aq_h m s F c_8)) rfl rfl ?_
  refine am_E.go (t2 := (180, [vR y, vI 3, vI 1, vI 2, vI 1, vI 0, vI 3], [], aq_h m s F c_8)) rfl rfl ?_
  refine am_E.go (t2 := (181, [vR y, vI 3, vI 1, vI 2, vI 1, vI 0, vI 3], [vR y], aq_h m s F c_8)) rfl rfl ?_
  refine aq_gf (v := vR (y + 13)) rfl (by omega) hFo (by decide) rfl ?_
  show am_E _ (184, [vR y, vI 3, vI 1, vI 2, vI 1, vI 0, vI 3], [vR (y + 13)], aq_h m s F c_8) _
  refine am_E.go (t2 := (185, [vR y, vI 3, vI 1, vI 2, vI 1, vI 0, vI 3], [vI 2, vR (y + 13)], aq_h m s F c_8)) rfl rfl ?_
  refine aq_al (ok := fun k => k == 1) (v := vI (c_8 (y + 13) 2)) rfl rfl (by omega) hG13 rfl (by decide) (by decide) rfl ?_
  rw [mtc_8.2.2.1]
  show am_E _ (186, [vR y, vI 3, vI 1, vI 2, vI 1, vI 0, vI 3], [vI 1], aq_h m s F c_8) _
  refine am_E.go (t2 := (253, [vR y, vI 3, vI 1, vI 2, vI 1, vI 0, vI 3], [], aq_h m s F c_8)) rfl rfl ?_
  refine am_E.go (t2 := (256, [vR y, vI 3, vI 1, vI 3, vI 1, vI 0, vI 3], [], aq_h m s F c_8)) rfl rfl ?_
  refine am_E.go (t2 := (175, [vR y, vI 3, vI 1, vI 3, vI 1, vI 0, vI 3], [], aq_h m s F c_8)) rfl rfl ?_
  refine am_E.go (t2 := (176, [vR y, vI 3, vI 1, vI 3, vI 1, vI 0, vI 3], [vI 3], aq_h m s F c_8)) rfl rfl ?_
  refine am_E.go (t2 := (177, [vR y, vI 3, vI 1, vI 3, vI 1, vI 0, vI 3], [vI 3, vI 3], aq_h m s F c_8)) rfl rfl ?_
  refine am_E.go (t2 := (259, [vR y, vI 3, vI 1, vI 3, vI 1, vI 0, vI 3], [], aq_h m s F c_8)) rfl rfl ?_
  refine am_E.go (t2 := (260, [vR y, vI 3, vI 1, vI 3, vI 1, vI 0, vI 3], [vI 1], aq_h m s F c_8)) rfl rfl ?_
  refine am_E.ret rfl rfl ?_
  exact ⟨_, rfl, sc_8, rfl⟩

theorem qm_fo_3300 {m s : Nat} {F : aq_F} {c : aq_C} {y : Nat} (hO : mo_0 m F y) (hA0 : c (y + 18) 0 = 3) (hA1 : c (y + 18) 1 = 3) (hA2 : c (y + 18) 2 = 3) (hB0 : c (y + 19) 0 = 3) (hB1 : c (y + 19) 1 = 3) (hB2 : c (y + 19) 2 = 3) : am_E ac_X5_formOf (0, [vR y, vI 3, vU, vU, vU, vU, vU], [], aq_h m s F c) (aq_Z m s F (fun a => a = y + 13) c (fun r _ => r = some (vI 0))) := by
  obtain ⟨hm, hFo, hG5, hG6, hG7, hG8, hG9, hG10, hG11, hG12, hG13, hG14, hG15, hG16, hG17, hG18, hG19, hG20, hG21, hG22, hG23⟩ := hO
  have hmt : mt_ y (c (y + 13) 0) (c (y + 13) 1) (c (y + 13) 2) (c (y + 13) 3) c := ⟨rfl, rfl, rfl, rfl⟩
  refine am_E.go (t2 := (1, [vR y, vI 3, vU, vU, vU, vU, vU], [vI 0], aq_h m s F c)) rfl rfl ?_
  refine am_E.go (t2 := (2, [vR y, vI 3, vI 0, vU, vU, vU, vU], [], aq_h m s F c)) rfl rfl ?_
  refine am_E.go (t2 := (3, [vR y, vI 3, vI 0, vU, vU, vU, vU], [vI 0], aq_h m s F c)) rfl rfl ?_
  refine am_E.go (t2 := (4, [vR y, vI 3, vI 0, vU, vU, vU, vU], [vI 4, vI 0], aq_h m s F c)) rfl rfl ?_
  refine am_E.go (t2 := (7, [vR y, vI 3, vI 0, vU, vU, vU, vU], [], aq_h m s F c)) rfl rfl ?_
  refine am_E.go (t2 := (8, [vR y, vI 3, vI 0, vU, vU, vU, vU], [vR y], aq_h m s F c)) rfl rfl ?_
  refine aq_gf (v := vR (y + 13)) rfl (by omega) hFo (by decide) rfl ?_
  show am_E _ (11, [vR y, vI 3, vI 0, vU, vU, vU, vU], [vR (y + 13)], aq_h m s F c) _
  refine am_E.go (t2 := (12, [vR y, vI 3, vI 0, vU, vU, vU, vU], [vI 0, vR (y + 13)], aq_h m s F c)) rfl rfl ?_
  refine am_E.go (t2 := (13, [vR y, vI 3, vI 0, vU, vU, vU, vU], [vI 0, vI 0, vR (y + 13)], aq_h m s F c)) rfl rfl ?_
  refine aq_as (kd := 1) rfl rfl (by omega) hG13 (by omega) (by omega) rfl rfl ?_
  show am_E _ (14, [vR y, vI 3, vI 0, vU, vU, vU, vU], [], aq_h m s F (aq_u c (y + 13) 0 0)) _
  generalize hdc_1 : aq_u c (y + 13) 0 0 = c_1
  have sc_1 := aq_smu (aq_sm0 (c := c) (S := fun a => a = y + 13)) hdc_1 rfl
  have mtc_1 := mt_0 hmt hdc_1
  refine am_E.go (t2 := (17, [vR y, vI 3, vI 1, vU, vU, vU, vU], [], aq_h m s F c_1)) rfl rfl ?_
  refine am_E.go (t2 := (2, [vR y, vI 3, vI 1, vU, vU, vU, vU], [], aq_h m s F c_1)) rfl rfl ?_
  refine am_E.go (t2 := (3, [vR y, vI 3, vI 1, vU, vU, vU, vU], [vI 1], aq_h m s F c_1)) rfl rfl ?_
  refine am_E.go (t2 := (4, [vR y, vI 3, vI 1, vU, vU, vU, vU], [vI 4, vI 1], aq_h m s F c_1)) rfl rfl ?_
  refine am_E.go (t2 := (7, [vR y, vI 3, vI 1, vU, vU, vU, vU], [], aq_h m s F c_1)) rfl rfl ?_
  refine am_E.go (t2 := (8, [vR y, vI 3, vI 1, vU, vU, vU, vU], [vR y], aq_h m s F c_1)) rfl rfl ?_
  refine aq_gf (v := vR (y + 13)) rfl (by omega) hFo (by decide) rfl ?_
  show am_E _ (11, [vR y, vI 3, vI 1, vU, vU, vU, vU], [vR (y + 13)], aq_h m s F c_1) _
  refine am_E.go (t2 := (12, [vR y, vI 3, vI 1, vU, vU, vU, vU], [vI 1, vR (y + 13)], aq_h m s F c_1)) rfl rfl ?_
  refine am_E.go (t2 := (13, [vR y, vI 3, vI 1, vU, vU, vU, vU], [vI 0, vI 1, vR (y + 13)], aq_h m s F c_1)) rfl rfl ?_
  refine aq_as (kd := 1) rfl rfl (by omega) hG13 (by omega) (by omega) rfl rfl ?_
  show am_E _ (14, [vR y, vI 3, vI 1, vU, vU, vU, vU], [], aq_h m s F (aq_u c_1 (y + 13) 1 0)) _
  generalize hdc_2 : aq_u c_1 (y + 13) 1 0 = c_2
  have sc_2 := aq_smu sc_1 hdc_2 rfl
  have mtc_2 := mt_1 mtc_1 hdc_2
  refine am_E.go (t2 := (17, [vR y, vI 3, vI 2, vU, vU, vU, vU], [], aq_h m s F c_2)) rfl rfl ?_
  refine am_E.go (t2 := (2, [vR y, vI 3, vI 2, vU, vU, vU, vU], [], aq_h m s F c_2)) rfl rfl ?_
  refine am_E.go (t2 := (3, [vR y, vI 3, vI 2, vU, vU, vU, vU], [vI 2], aq_h m s F c_2)) rfl rfl ?_
  refine am_E.go (t2 := (4, [vR y, vI 3, vI 2, vU, vU, vU, vU], [vI 4, vI 2], aq_h m s F c_2)) rfl rfl ?_
  refine am_E.go (t2 := (7, [vR y, vI 3, vI 2, vU, vU, vU, vU], [], aq_h m s F c_2)) rfl rfl ?_
  refine am_E.go (t2 := (8, [vR y, vI 3, vI 2, vU, vU, vU, vU], [vR y], aq_h m s F c_2)) rfl rfl ?_
  refine aq_gf (v := vR (y + 13)) rfl (by omega) hFo (by decide) rfl ?_
  show am_E _ (11, [vR y, vI 3, vI 2, vU, vU, vU, vU], [vR (y + 13)], aq_h m s F c_2) _
  refine am_E.go (t2 := (12, [vR y, vI 3, vI 2, vU, vU, vU, vU], [vI 2, vR (y + 13)], aq_h m s F c_2)) rfl rfl ?_
  refine am_E.go (t2 := (13, [vR y, vI 3, vI 2, vU, vU, vU, vU], [vI 0, vI 2, vR (y + 13)], aq_h m s F c_2)) rfl rfl ?_
  refine aq_as (kd := 1) rfl rfl (by omega) hG13 (by omega) (by omega) rfl rfl ?_
  show am_E _ (14, [vR y, vI 3, vI 2, vU, vU, vU, vU], [], aq_h m s F (aq_u c_2 (y + 13) 2 0)) _
  generalize hdc_3 : aq_u c_2 (y + 13) 2 0 = c_3
  have sc_3 := aq_smu sc_2 hdc_3 rfl
  have mtc_3 := mt_2 mtc_2 hdc_3
  refine am_E.go (t2 := (17, [vR y, vI 3, vI 3, vU, vU, vU, vU], [], aq_h m s F c_3)) rfl rfl ?_
  refine am_E.go (t2 := (2, [vR y, vI 3, vI 3, vU, vU, vU, vU], [], aq_h m s F c_3)) rfl rfl ?_
  refine am_E.go (t2 := (3, [vR y, vI 3, vI 3, vU, vU, vU, vU], [vI 3], aq_h m s F c_3)) rfl rfl ?_
  refine am_E.go (t2 := (4, [vR y, vI 3, vI 3, vU, vU, vU, vU], [vI 4, vI 3], aq_h m s F c_3)) rfl rfl ?_
  refine am_E.go (t2 := (7, [vR y, vI 3, vI 3, vU, vU, vU, vU], [], aq_h m s F c_3)) rfl rfl ?_
  refine am_E.go (t2 := (8, [vR y, vI 3, vI 3, vU, vU, vU, vU], [vR y], aq_h m s F c_3)) rfl rfl ?_
  refine aq_gf (v := vR (y + 13)) rfl (by omega) hFo (by decide) rfl ?_
  show am_E _ (11, [vR y, vI 3, vI 3, vU, vU, vU, vU], [vR (y + 13)], aq_h m s F c_3) _
  refine am_E.go (t2 := (12, [vR y, vI 3, vI 3, vU, vU, vU, vU], [vI 3, vR (y + 13)], aq_h m s F c_3)) rfl rfl ?_
  refine am_E.go (t2 := (13, [vR y, vI 3, vI 3, vU, vU, vU, vU], [vI 0, vI 3, vR (y + 13)], aq_h m s F c_3)) rfl rfl ?_
  refine aq_as (kd := 1) rfl rfl (by omega) hG13 (by omega) (by omega) rfl rfl ?_
  show am_E _ (14, [vR y, vI 3, vI 3, vU, vU, vU, vU], [], aq_h m s F (aq_u c_3 (y + 13) 3 0)) _
  generalize hdc_4 : aq_u c_3 (y + 13) 3 0 = c_4
  have sc_4 := aq_smu sc_3 hdc_4 rfl
  have mtc_4 := mt_3 mtc_3 hdc_4
  refine am_E.go (t2 := (17, [vR y, vI 3, vI 4, vU, vU, vU, vU], [], aq_h m s F c_4)) rfl rfl ?_
  refine am_E.go (t2 := (2, [vR y, vI 3, vI 4, vU, vU, vU, vU], [], aq_h m s F c_4)) rfl rfl ?_
  refine am_E.go (t2 := (3, [vR y, vI 3, vI 4, vU, vU, vU, vU], [vI 4], aq_h m s F c_4)) rfl rfl ?_
  refine am_E.go (t2 := (4, [vR y, vI 3, vI 4, vU, vU, vU, vU], [vI 4, vI 4], aq_h m s F c_4)) rfl rfl ?_
  refine am_E.go (t2 := (20, [vR y, vI 3, vI 4, vU, vU, vU, vU], [], aq_h m s F c_4)) rfl rfl ?_
  refine am_E.go (t2 := (21, [vR y, vI 3, vI 4, vU, vU, vU, vU], [vI 0], aq_h m s F c_4)) rfl rfl ?_
  refine am_E.go (t2 := (22, [vR y, vI 3, vI 0, vU, vU, vU, vU], [], aq_h m s F c_4)) rfl rfl ?_
  refine am_E.go (t2 := (23, [vR y, vI 3, vI 0, vU, vU, vU, vU], [vI 0], aq_h m s F c_4)) rfl rfl ?_
  refine am_E.go (t2 := (24, [vR y, vI 3, vI 0, vU, vU, vU, vU], [vI 3, vI 0], aq_h m s F c_4)) rfl rfl ?_
  refine am_E.go (t2 := (27, [vR y, vI 3, vI 0, vU, vU, vU, vU], [], aq_h m s F c_4)) rfl rfl ?_
  refine am_E.go (t2 := (28, [vR y, vI 3, vI 0, vU, vU, vU, vU], [vR y], aq_h m s F c_4)) rfl rfl ?_
  refine aq_gf (v := vR (y + 18)) rfl (by omega) hFo (by decide) rfl ?_
  show am_E _ (31, [vR y, vI 3, vI 0, vU, vU, vU, vU], [vR (y + 18)], aq_h m s F c_4) _
  refine am_E.go (t2 := (32, [vR y, vI 3, vI 0, vU, vU, vU, vU], [vI 0, vR (y + 18)], aq_h m s F c_4)) rfl rfl ?_
  refine aq_al (ok := fun k => k == 0) (v := vI (c_4 (y + 18) 0)) rfl rfl (by omega) hG18 rfl (by decide) (by decide) rfl ?_
  rw [sc_4 (y + 18) (by omega), hA0]
  show am_E _ (33, [vR y, vI 3, vI 0, vU, vU, vU, vU], [vI 3], aq_h m s F c_4) _
  refine am_E.go (t2 := (34, [vR y, vI 3, vI 0, vU, vU, vU, vU], [vI 3, vI 3], aq_h m s F c_4)) rfl rfl ?_
  refine am_E.go (t2 := (37, [vR y, vI 3, vI 0, vU, vU, vU, vU], [], aq_h m s F c_4)) rfl rfl ?_
  refine am_E.go (t2 := (38, [vR y, vI 3, vI 0, vU, vU, vU, vU], [vI 0], aq_h m s F c_4)) rfl rfl ?_
  refine am_E.go (t2 := (39, [vR y, vI 3, vI 0, vI 0, vU, vU, vU], [], aq_h m s F c_4)) rfl rfl ?_
  refine am_E.go (t2 := (40, [vR y, vI 3, vI 0, vI 0, vU, vU, vU], [vI 1], aq_h m s F c_4)) rfl rfl ?_
  refine am_E.go (t2 := (42, [vR y, vI 3, vI 0, vI 0, vI 1, vU, vU], [], aq_h m s F c_4)) rfl rfl ?_
  refine am_E.go (t2 := (43, [vR y, vI 3, vI 0, vI 0, vI 1, vU, vU], [vI 1], aq_h m s F c_4)) rfl rfl ?_
  refine am_E.go (t2 := (45, [vR y, vI 3, vI 0, vI 0, vI 1, vI 1, vU], [], aq_h m s F c_4)) rfl rfl ?_
  refine am_E.go (t2 := (47, [vR y, vI 3, vI 0, vI 0, vI 1, vI 1, vU], [vI 1], aq_h m s F c_4)) rfl rfl ?_
  refine am_E.go (t2 := (50, [vR y, vI 3, vI 0, vI 0, vI 1, vI 1, vU], [], aq_h m s F c_4)) rfl rfl ?_
  refine am_E.go (t2 := (51, [vR y, vI 3, vI 0, vI 0, vI 1, vI 1, vU], [vR y], aq_h m s F c_4)) rfl rfl ?_
  refine aq_gf (v := vR (y + 13)) rfl (by omega) hFo (by decide) rfl ?_
  show am_E _ (54, [vR y, vI 3, vI 0, vI 0, vI 1, vI 1, vU], [vR (y + 13)], aq_h m s F c_4) _
  refine am_E.go (t2 := (55, [vR y, vI 3, vI 0, vI 0, vI 1, vI 1, vU], [vI 0, vR (y + 13)], aq_h m s F c_4)) rfl rfl ?_
  refine am_E.go (t2 := (56, [vR y, vI 3, vI 0, vI 0, vI 1, vI 1, vU], [vI 1, vI 0, vR (y + 13)], aq_h m s F c_4)) rfl rfl ?_
  refine aq_as (kd := 1) rfl rfl (by omega) hG13 (by omega) (by omega) rfl rfl ?_
  show am_E _ (57, [vR y, vI 3, vI 0, vI 0, vI 1, vI 1, vU], [], aq_h m s F (aq_u c_4 (y + 13) 0 1)) _
  generalize hdc_5 : aq_u c_4 (y + 13) 0 1 = c_5
  have sc_5 := aq_smu sc_4 hdc_5 rfl
  have mtc_5 := mt_0 mtc_4 hdc_5
  refine am_E.go (t2 := (59, [vR y, vI 3, vI 0, vI 0, vI 1, vI 1, vU], [vI 1], aq_h m s F c_5)) rfl rfl ?_
  refine am_E.go (t2 := (62, [vR y, vI 3, vI 0, vI 0, vI 1, vI 1, vU], [], aq_h m s F c_5)) rfl rfl ?_
  refine am_E.go (t2 := (63, [vR y, vI 3, vI 0, vI 0, vI 1, vI 1, vU], [vR y], aq_h m s F c_5)) rfl rfl ?_
  refine aq_gf (v := vR (y + 19)) rfl (by omega) hFo (by decide) rfl ?_
  show am_E _ (66, [vR y, vI 3, vI 0, vI 0, vI 1, vI 1, vU], [vR (y + 19)], aq_h m s F c_5) _
  refine am_E.go (t2 := (67, [vR y, vI 3, vI 0, vI 0, vI 1, vI 1, vU], [vI 0, vR (y + 19)], aq_h m s F c_5)) rfl rfl ?_
  refine aq_al (ok := fun k => k == 0) (v := vI (c_5 (y + 19) 0)) rfl rfl (by omega) hG19 rfl (by decide) (by decide) rfl ?_
  rw [sc_5 (y + 19) (by omega), hB0]
  show am_E _ (68, [vR y, vI 3, vI 0, vI 0, vI 1, vI 1, vU], [vI 3], aq_h m s F c_5) _
  refine am_E.go (t2 := (77, [vR y, vI 3, vI 0, vI 0, vI 1, vI 1, vU], [vI 3], aq_h m s F c_5)) rfl rfl ?_
  refine am_E.go (t2 := (79, [vR y, vI 3, vI 0, vI 0, vI 1, vI 1, vI 3], [], aq_h m s F c_5)) rfl rfl ?_
  refine am_E.go (t2 := (81, [vR y, vI 3, vI 0, vI 0, vI 1, vI 1, vI 3], [vI 3], aq_h m s F c_5)) rfl rfl ?_
  refine am_E.go (t2 := (82, [vR y, vI 3, vI 0, vI 0, vI 1, vI 1, vI 3], [vI 3, vI 3], aq_h m s F c_5)) rfl rfl ?_
  refine am_E.go (t2 := (89, [vR y, vI 3, vI 0, vI 0, vI 1, vI 1, vI 3], [], aq_h m s F c_5)) rfl rfl ?_
  refine am_E.go (t2 := (90, [vR y, vI 3, vI 0, vI 0, vI 1, vI 1, vI 3], [vI 0], aq_h m s F c_5)) rfl rfl ?_
  refine am_E.go (t2 := (92, [vR y, vI 3, vI 0, vI 0, vI 1, vI 0, vI 3], [], aq_h m s F c_5)) rfl rfl ?_
  refine am_E.go (t2 := (94, [vR y, vI 3, vI 0, vI 0, vI 1, vI 0, vI 3], [vI 0], aq_h m s F c_5)) rfl rfl ?_
  refine am_E.go (t2 := (112, [vR y, vI 3, vI 0, vI 0, vI 1, vI 0, vI 3], [], aq_h m s F c_5)) rfl rfl ?_
  refine am_E.go (t2 := (45, [vR y, vI 3, vI 0, vI 0, vI 1, vI 0, vI 3], [], aq_h m s F c_5)) rfl rfl ?_
  refine am_E.go (t2 := (47, [vR y, vI 3, vI 0, vI 0, vI 1, vI 0, vI 3], [vI 0], aq_h m s F c_5)) rfl rfl ?_
  refine am_E.go (t2 := (115, [vR y, vI 3, vI 0, vI 0, vI 1, vI 0, vI 3], [], aq_h m s F c_5)) rfl rfl ?_
  refine am_E.go (t2 := (116, [vR y, vI 3, vI 0, vI 0, vI 1, vI 0, vI 3], [vR y], aq_h m s F c_5)) rfl rfl ?_
  refine aq_gf (v := vR (y + 13)) rfl (by omega) hFo (by decide) rfl ?_
  show am_E _ (119, [vR y, vI 3, vI 0, vI 0, vI 1, vI 0, vI 3], [vR (y + 13)], aq_h m s F c_5) _
  refine am_E.go (t2 := (120, [vR y, vI 3, vI 0, vI 0, vI 1, vI 0, vI 3], [vI 0, vR (y + 13)], aq_h m s F c_5)) rfl rfl ?_
  refine am_E.go (t2 := (121, [vR y, vI 3, vI 0, vI 0, vI 1, vI 0, vI 3], [vI 1, vI 0, vR (y + 13)], aq_h m s F c_5)) rfl rfl ?_
  refine aq_as (kd := 1) rfl rfl (by omega) hG13 (by omega) (by omega) rfl rfl ?_
  show am_E _ (122, [vR y, vI 3, vI 0, vI 0, vI 1, vI 0, vI 3], [], aq_h m s F (aq_u c_5 (y + 13) 0 1)) _
  generalize hdc_6 : aq_u c_5 (y + 13) 0 1 = c_6
  have sc_6 := aq_smu sc_5 hdc_6 rfl
  have mtc_6 := mt_0 mtc_5 hdc_6
  refine am_E.go (t2 := (124, [vR y, vI 3, vI 0, vI 0, vI 1, vI 0, vI 3], [vI 1], aq_h m s F c_6)) rfl rfl ?_
  refine am_E.go (t2 := (130, [vR y, vI 3, vI 0, vI 0, vI 1, vI 0, vI 3], [], aq_h m s F c_6)) rfl rfl ?_
  refine am_E.go (t2 := (133, [vR y, vI 3, vI 1, vI 0, vI 1, vI 0, vI 3], [], aq_h m s F c_6)) rfl rfl ?_
  refine am_E.go (t2 := (22, [vR y, vI 3, vI 1, vI 0, vI 1, vI 0, vI 3], [], aq_h m s F c_6)) rfl rfl ?_
  refine am_E.go (t2 := (23, [vR y, vI 3, vI 1, vI 0, vI 1, vI 0, vI 3], [vI 1], aq_h m s F c_6)) rfl rfl ?_
  refine am_E.go (t2 := (24, [vR y, vI 3, vI 1, vI 0, vI 1, vI 0, vI 3], [vI 3, vI 1], aq_h m s F c_6)) rfl rfl ?_
  refine am_E.go (t2 := (27, [vR y, vI 3, vI 1, vI 0, vI 1, vI 0, vI 3], [], aq_h m s F c_6)) rfl rfl ?_
  refine am_E.go (t2 := (28, [vR y, vI 3, vI 1, vI 0, vI 1, vI 0, vI 3], [vR y], aq_h m s F c_6)) rfl rfl ?_
  refine aq_gf (v := vR (y + 18)) rfl (by omega) hFo (by decide) rfl ?_
  show am_E _ (31, [vR y, vI 3, vI 1, vI 0, vI 1, vI 0, vI 3], [vR (y + 18)], aq_h m s F c_6) _
  refine am_E.go (t2 := (32, [vR y, vI 3, vI 1, vI 0, vI 1, vI 0, vI 3], [vI 1, vR (y + 18)], aq_h m s F c_6)) rfl rfl ?_
  refine aq_al (ok := fun k => k == 0) (v := vI (c_6 (y + 18) 1)) rfl rfl (by omega) hG18 rfl (by decide) (by decide) rfl ?_
  rw [sc_6 (y + 18) (by omega), hA1]
  show am_E _ (33, [vR y, vI 3, vI 1, vI 0, vI 1, vI 0, vI 3], [vI 3], aq_h m s F c_6) _
  refine am_E.go (t2 := (34, [vR y, vI 3, vI 1, vI 0, vI 1, vI 0, vI 3], [vI 3, vI 3], aq_h m s F c_6)) rfl rfl ?_
  refine am_E.go (t2 := (37, [vR y, vI 3, vI 1, vI 0, vI 1, vI 0, vI 3], [], aq_h m s F c_6)) rfl rfl ?_
  refine am_E.go (t2 := (38, [vR y, vI 3, vI 1, vI 0, vI 1, vI 0, vI 3], [vI 1], aq_h m s F c_6)) rfl rfl ?_
  refine am_E.go (t2 := (39, [vR y, vI 3, vI 1, vI 1, vI 1, vI 0, vI 3], [], aq_h m s F c_6)) rfl rfl ?_
  refine am_E.go (t2 := (40, [vR y, vI 3, vI 1, vI 1, vI 1, vI 0, vI 3], [vI 1], aq_h m s F c_6)) rfl rfl ?_
  refine am_E.go (t2 := (42, [vR y, vI 3, vI 1, vI 1, vI 1, vI 0, vI 3], [], aq_h m s F c_6)) rfl rfl ?_
  refine am_E.go (t2 := (43, [vR y, vI 3, vI 1, vI 1, vI 1, vI 0, vI 3], [vI 1], aq_h m s F c_6)) rfl rfl ?_
  refine am_E.go (t2 := (45, [vR y, vI 3, vI 1, vI 1, vI 1, vI 1, vI 3], [], aq_h m s F c_6)) rfl rfl ?_
  refine am_E.go (t2 := (47, [vR y, vI 3, vI 1, vI 1, vI 1, vI 1, vI 3], [vI 1], aq_h m s F c_6)) rfl rfl ?_
  refine am_E.go (t2 := (50, [vR y, vI 3, vI 1, vI 1, vI 1, vI 1, vI 3], [], aq_h m s F c_6)) rfl rfl ?_
  refine am_E.go (t2 := (51, [vR y, vI 3, vI 1, vI 1, vI 1, vI 1, vI 3], [vR y], aq_h m s F c_6)) rfl rfl ?_
  refine aq_gf (v := vR (y + 13)) rfl (by omega) hFo (by decide) rfl ?_
  show am_E _ (54, [vR y, vI 3, vI 1, vI 1, vI 1, vI 1, vI 3], [vR (y + 13)], aq_h m s F c_6) _
  refine am_E.go (t2 := (55, [vR y, vI 3, vI 1, vI 1, vI 1, vI 1, vI 3], [vI 1, vR (y + 13)], aq_h m s F c_6)) rfl rfl ?_
  refine am_E.go (t2 := (56, [vR y, vI 3, vI 1, vI 1, vI 1, vI 1, vI 3], [vI 1, vI 1, vR (y + 13)], aq_h m s F c_6)) rfl rfl ?_
  refine aq_as (kd := 1) rfl rfl (by omega) hG13 (by omega) (by omega) rfl rfl ?_
  show am_E _ (57, [vR y, vI 3, vI 1, vI 1, vI 1, vI 1, vI 3], [], aq_h m s F (aq_u c_6 (y + 13) 1 1)) _
  generalize hdc_7 : aq_u c_6 (y + 13) 1 1 = c_7
  have sc_7 := aq_smu sc_6 hdc_7 rfl
  have mtc_7 := mt_1 mtc_6 hdc_7
  refine am_E.go (t2 := (59, [vR y, vI 3, vI 1, vI 1, vI 1, vI 1, vI 3], [vI 1], aq_h m s F c_7)) rfl rfl ?_
  refine am_E.go (t2 := (62, [vR y, vI 3, vI 1, vI 1, vI 1, vI 1, vI 3], [], aq_h m s F c_7)) rfl rfl ?_
  refine am_E.go (t2 := (63, [vR y, vI 3, vI 1, vI 1, vI 1, vI 1, vI 3], [vR y], aq_h m s F c_7)) rfl rfl ?_
  refine aq_gf (v := vR (y + 19)) rfl (by omega) hFo (by decide) rfl ?_
  show am_E _ (66, [vR y, vI 3, vI 1, vI 1, vI 1, vI 1, vI 3], [vR (y + 19)], aq_h m s F c_7) _
  refine am_E.go (t2 := (67, [vR y, vI 3, vI 1, vI 1, vI 1, vI 1, vI 3], [vI 1, vR (y + 19)], aq_h m s F c_7)) rfl rfl ?_
  refine aq_al (ok := fun k => k == 0) (v := vI (c_7 (y + 19) 1)) rfl rfl (by omega) hG19 rfl (by decide) (by decide) rfl ?_
  rw [sc_7 (y + 19) (by omega), hB1]
  show am_E _ (68, [vR y, vI 3, vI 1, vI 1, vI 1, vI 1, vI 3], [vI 3], aq_h m s F c_7) _
  refine am_E.go (t2 := (77, [vR y, vI 3, vI 1, vI 1, vI 1, vI 1, vI 3], [vI 3], aq_h m s F c_7)) rfl rfl ?_
  refine am_E.go (t2 := (79, [vR y, vI 3, vI 1, vI 1, vI 1, vI 1, vI 3], [], aq_h m s F c_7)) rfl rfl ?_
  refine am_E.go (t2 := (81, [vR y, vI 3, vI 1, vI 1, vI 1, vI 1, vI 3], [vI 3], aq_h m s F c_7)) rfl rfl ?_
  refine am_E.go (t2 := (82, [vR y, vI 3, vI 1, vI 1, vI 1, vI 1, vI 3], [vI 3, vI 3], aq_h m s F c_7)) rfl rfl ?_
  refine am_E.go (t2 := (89, [vR y, vI 3, vI 1, vI 1, vI 1, vI 1, vI 3], [], aq_h m s F c_7)) rfl rfl ?_
  refine am_E.go (t2 := (90, [vR y, vI 3, vI 1, vI 1, vI 1, vI 1, vI 3], [vI 0], aq_h m s F c_7)) rfl rfl ?_
  refine am_E.go (t2 := (92, [vR y, vI 3, vI 1, vI 1, vI 1, vI 0, vI 3], [], aq_h m s F c_7)) rfl rfl ?_
  refine am_E.go (t2 := (94, [vR y, vI 3, vI 1, vI 1, vI 1, vI 0, vI 3], [vI 0], aq_h m s F c_7)) rfl rfl ?_
  refine am_E.go (t2 := (112, [vR y, vI 3, vI 1, vI 1, vI 1, vI 0, vI 3], [], aq_h m s F c_7)) rfl rfl ?_
  refine am_E.go (t2 := (45, [vR y, vI 3, vI 1, vI 1, vI 1, vI 0, vI 3], [], aq_h m s F c_7)) rfl rfl ?_
  refine am_E.go (t2 := (47, [vR y, vI 3, vI 1, vI 1, vI 1, vI 0, vI 3], [vI 0], aq_h m s F c_7)) rfl rfl ?_
  refine am_E.go (t2 := (115, [vR y, vI 3, vI 1, vI 1, vI 1, vI 0, vI 3], [], aq_h m s F c_7)) rfl rfl ?_
  refine am_E.go (t2 := (116, [vR y, vI 3, vI 1, vI 1, vI 1, vI 0, vI 3], [vR y], aq_h m s F c_7)) rfl rfl ?_
  refine aq_gf (v := vR (y + 13)) rfl (by omega) hFo (by decide) rfl ?_
  show am_E _ (119, [vR y, vI 3, vI 1, vI 1, vI 1, vI 0, vI 3], [vR (y + 13)], aq_h m s F c_7) _
  refine am_E.go (t2 := (120, [vR y, vI 3, vI 1, vI 1, vI 1, vI 0, vI 3], [vI 1, vR (y + 13)], aq_h m s F c_7)) rfl rfl ?_
  refine am_E.go (t2 := (121, [vR y, vI 3, vI 1, vI 1, vI 1, vI 0, vI 3], [vI 1, vI 1, vR (y + 13)], aq_h m s F c_7)) rfl rfl ?_
  refine aq_as (kd := 1) rfl rfl (by omega) hG13 (by omega) (by omega) rfl rfl ?_
  show am_E _ (122, [vR y, vI 3, vI 1, vI 1, vI 1, vI 0, vI 3], [], aq_h m s F (aq_u c_7 (y + 13) 1 1)) _
  generalize hdc_8 : aq_u c_7 (y + 13) 1 1 = c_8
  have sc_8 := aq_smu sc_7 hdc_8 rfl
  have mtc_8 := mt_1 mtc_7 hdc_8
  refine am_E.go (t2 := (124, [vR y, vI 3, vI 1, vI 1, vI 1, vI 0, vI 3], [vI 1], aq_h m s F c_8)) rfl rfl ?_
  refine am_E.go (t2 := (130, [vR y, vI 3, vI 1, vI 1, vI 1, vI 0, vI 3], [], aq_h m s F c_8)) rfl rfl ?_
  refine am_E.go (t2 := (133, [vR y, vI 3, vI 2, vI 1, vI 1, vI 0, vI 3], [], aq_h m s F c_8)) rfl rfl ?_
  refine am_E.go (t2 := (22, [vR y, vI 3, vI 2, vI 1, vI 1, vI 0, vI 3], [], aq_h m s F c_8)) rfl rfl ?_
  refine am_E.go (t2 := (23, [vR y, vI 3, vI 2, vI 1, vI 1, vI 0, vI 3], [vI 2], aq_h m s F c_8)) rfl rfl ?_
  refine am_E.go (t2 := (24, [vR y, vI 3, vI 2, vI 1, vI 1, vI 0, vI 3], [vI 3, vI 2], aq_h m s F c_8)) rfl rfl ?_
  refine am_E.go (t2 := (27, [vR y, vI 3, vI 2, vI 1, vI 1, vI 0, vI 3], [], aq_h m s F c_8)) rfl rfl ?_
  refine am_E.go (t2 := (28, [vR y, vI 3, vI 2, vI 1, vI 1, vI 0, vI 3], [vR y], aq_h m s F c_8)) rfl rfl ?_
  refine aq_gf (v := vR (y + 18)) rfl (by omega) hFo (by decide) rfl ?_
  show am_E _ (31, [vR y, vI 3, vI 2, vI 1, vI 1, vI 0, vI 3], [vR (y + 18)], aq_h m s F c_8) _
  refine am_E.go (t2 := (32, [vR y, vI 3, vI 2, vI 1, vI 1, vI 0, vI 3], [vI 2, vR (y + 18)], aq_h m s F c_8)) rfl rfl ?_
  refine aq_al (ok := fun k => k == 0) (v := vI (c_8 (y + 18) 2)) rfl rfl (by omega) hG18 rfl (by decide) (by decide) rfl ?_
  rw [sc_8 (y + 18) (by omega), hA2]
  show am_E _ (33, [vR y, vI 3, vI 2, vI 1, vI 1, vI 0, vI 3], [vI 3], aq_h m s F c_8) _
  refine am_E.go (t2 := (34, [vR y, vI 3, vI 2, vI 1, vI 1, vI 0, vI 3], [vI 3, vI 3], aq_h m s F c_8)) rfl rfl ?_
  refine am_E.go (t2 := (37, [vR y, vI 3, vI 2, vI 1, vI 1, vI 0, vI 3], [], aq_h m s F c_8)) rfl rfl ?_
  refine am_E.go (t2 := (38, [vR y, vI 3, vI 2, vI 1, vI 1, vI 0, vI 3], [vI 2], aq_h m s F c_8)) rfl rfl ?_
  refine am_E.go (t2 := (39, [vR y, vI 3, vI 2, vI 2, vI 1, vI 0, vI 3], [], aq_h m s F c_8)) rfl rfl ?_
  refine am_E.go (t2 := (40, [vR y, vI 3, vI 2, vI 2, vI 1, vI 0, vI 3], [vI 1], aq_h m s F c_8)) rfl rfl ?_
  refine am_E.go (t2 := (42, [vR y, vI 3, vI 2, vI 2, vI 1, vI 0, vI 3], [], aq_h m s F c_8)) rfl rfl ?_
  refine am_E.go (t2 := (43, [vR y, vI 3, vI 2, vI 2, vI 1, vI 0, vI 3], [vI 1], aq_h m s F c_8)) rfl rfl ?_
  refine am_E.go (t2 := (45, [vR y, vI 3, vI 2, vI 2, vI 1, vI 1, vI 3], [], aq_h m s F c_8)) rfl rfl ?_
  refine am_E.go (t2 := (47, [vR y, vI 3, vI 2, vI 2, vI 1, vI 1, vI 3], [vI 1], aq_h m s F c_8)) rfl rfl ?_
  refine am_E.go (t2 := (50, [vR y, vI 3, vI 2, vI 2, vI 1, vI 1, vI 3], [], aq_h m s F c_8)) rfl rfl ?_
  refine am_E.go (t2 := (51, [vR y, vI 3, vI 2, vI 2, vI 1, vI 1, vI 3], [vR y], aq_h m s F c_8)) rfl rfl ?_
  refine aq_gf (v := vR (y + 13)) rfl (by omega) hFo (by decide) rfl ?_
  show am_E _ (54, [vR y, vI 3, vI 2, vI 2, vI 1, vI 1, vI 3], [vR (y + 13)], aq_h m s F c_8) _
  refine am_E.go (t2 := (55, [vR y, vI 3, vI 2, vI 2, vI 1, vI 1, vI 3], [vI 2, vR (y + 13)], aq_h m s F c_8)) rfl rfl ?_
  refine am_E.go (t2 := (56, [vR y, vI 3, vI 2, vI 2, vI 1, vI 1, vI 3], [vI 1, vI 2, vR (y + 13)], aq_h m s F c_8)) rfl rfl ?_
  refine aq_as (kd := 1) rfl rfl (by omega) hG13 (by omega) (by omega) rfl rfl ?_
  show am_E _ (57, [vR y, vI 3, vI 2, vI 2, vI 1, vI 1, vI 3], [], aq_h m s F (aq_u c_8 (y + 13) 2 1)) _
  generalize hdc_9 : aq_u c_8 (y + 13) 2 1 = c_9
  have sc_9 := aq_smu sc_8 hdc_9 rfl
  have mtc_9 := mt_2 mtc_8 hdc_9
  refine am_E.go (t2 := (59, [vR y, vI 3, vI 2, vI 2, vI 1, vI 1, vI 3], [vI 1], aq_h m s F c_9)) rfl rfl ?_
  refine am_E.go (t2 := (62, [vR y, vI 3, vI 2, vI 2, vI 1, vI 1, vI 3], [], aq_h m s F c_9)) rfl rfl ?_
  refine am_E.go (t2 := (63, [vR y, vI 3, vI 2, vI 2, vI 1, vI 1, vI 3], [vR y], aq_h m s F c_9)) rfl rfl ?_
  refine aq_gf (v := vR (y + 19)) rfl (by omega) hFo (by decide) rfl ?_
  show am_E _ (66, [vR y, vI 3, vI 2, vI 2, vI 1, vI 1, vI 3], [vR (y + 19)], aq_h m s F c_9) _
  refine am_E.go (t2 := (67, [vR y, vI 3, vI 2, vI 2, vI 1, vI 1, vI 3], [vI 2, vR (y + 19)], aq_h m s F c_9)) rfl rfl ?_
  refine aq_al (ok := fun k => k == 0) (v := vI (c_9 (y + 19) 2)) rfl rfl (by omega) hG19 rfl (by decide) (by decide) rfl ?_
  rw [sc_9 (y + 19) (by omega), hB2]
  show am_E _ (68, [vR y, vI 3, vI 2, vI 2, vI 1, vI 1, vI 3], [vI 3], aq_h m s F c_9) _
  refine am_E.go (t2 := (77, [vR y, vI 3, vI 2, vI 2, vI 1, vI 1, vI 3], [vI 3], aq_h m s F c_9)) rfl rfl ?_
  refine am_E.go (t2 := (79, [vR y, vI 3, vI 2, vI 2, vI 1, vI 1, vI 3], [], aq_h m s F c_9)) rfl rfl ?_
  refine am_E.go (t2 := (81, [vR y, vI 3, vI 2, vI 2, vI 1, vI 1, vI 3], [vI 3], aq_h m s F c_9)) rfl rfl ?_
  refine am_E.go (t2 := (82, [vR y, vI 3, vI 2, vI 2, vI 1, vI 1, vI 3], [vI 3, vI 3], aq_h m s F c_9)) rfl rfl ?_
  refine am_E.go (t2 := (89, [vR y, vI 3, vI 2, vI 2, vI 1, vI 1, vI 3], [], aq_h m s F c_9)) rfl rfl ?_
  refine am_E.go (t2 := (90, [vR y, vI 3, vI 2, vI 2, vI 1, vI 1, vI 3], [vI 0], aq_h m s F c_9)) rfl rfl ?_
  refine am_E.go (t2 := (92, [vR y, vI 3, vI 2, vI 2, vI 1, vI 0, vI 3], [], aq_h m s F c_9)) rfl rfl ?_
  refine am_E.go (t2 := (94, [vR y, vI 3, vI 2, vI 2, vI 1, vI 0, vI 3], [vI 0], aq_h m s F c_9)) rfl rfl ?_
  refine am_E.go (t2 := (112, [vR y, vI 3, vI 2, vI 2, vI 1, vI 0, vI 3], [], aq_h m s F c_9)) rfl rfl ?_
  refine am_E.go (t2 := (45, [vR y, vI 3, vI 2, vI 2, vI 1, vI 0, vI 3], [], aq_h m s F c_9)) rfl rfl ?_
  refine am_E.go (t2 := (47, [vR y, vI 3, vI 2, vI 2, vI 1, vI 0, vI 3], [vI 0], aq_h m s F c_9)) rfl rfl ?_
  refine am_E.go (t2 := (115, [vR y, vI 3, vI 2, vI 2, vI 1, vI 0, vI 3], [], aq_h m s F c_9)) rfl rfl ?_
  refine am_E.go (t2 := (116, [vR y, vI 3, vI 2, vI 2, vI 1, vI 0, vI 3], [vR y], aq_h m s F c_9)) rfl rfl ?_
  refine aq_gf (v := vR (y + 13)) rfl (by omega) hFo (by decide) rfl ?_
  show am_E _ (119, [vR y, vI 3, vI 2, vI 2, vI 1, vI 0, vI 3], [vR (y + 13)], aq_h m s F c_9) _
  refine am_E.go (t2 := (120, [vR y, vI 3, vI 2, vI 2, vI 1, vI 0, vI 3], [vI 2, vR (y + 13)], aq_h m s F c_9)) rfl rfl ?_
  refine am_E.go (t2 := (121, [vR y, vI 3, vI 2, vI 2, vI 1, vI 0, vI 3], [vI 1, vI 2, vR (y + 13)], aq_h m s F c_9)) rfl rfl ?_
  refine aq_as (kd := 1) rfl rfl (by omega) hG13 (by omega) (by omega) rfl rfl ?_
  show am_E _ (122, [vR y, vI 3, vI 2, vI 2, vI 1, vI 0, vI 3], [], aq_h m s F (aq_u c_9 (y + 13) 2 1)) _
  generalize hdc_10 : aq_u c_9 (y + 13) 2 1 = c_10
  have sc_10 := aq_smu sc_9 hdc_10 rfl
  have mtc_10 := mt_2 mtc_9 hdc_10
  refine am_E.go (t2 := (124, [vR y, vI 3, vI 2, vI 2, vI 1, vI 0, vI 3], [vI 1], aq_h m s F c_10)) rfl rfl ?_
  refine am_E.go (t2 := (130, [vR y, vI 3, vI 2, vI 2, vI 1, vI 0, vI 3], [], aq_h m s F c_10)) rfl rfl ?_
  refine am_E.go (t2 := (133, [vR y, vI 3, vI 3, vI 2, vI 1, vI 0, vI 3], [], aq_h m s F c_10)) rfl rfl ?_
  refine am_E.go (t2 := (22, [vR y, vI 3, vI 3, vI 2, vI 1, vI 0, vI 3], [], aq_h m s F c_10)) rfl rfl ?_
  refine am_E.go (t2 := (23, [vR y, vI 3, vI 3, vI 2, vI 1, vI 0, vI 3], [vI 3], aq_h m s F c_10)) rfl rfl ?_
  refine am_E.go (t2 := (24, [vR y, vI 3, vI 3, vI 2, vI 1, vI 0, vI 3], [vI 3, vI 3], aq_h m s F c_10)) rfl rfl ?_
  refine am_E.go (t2 := (136, [vR y, vI 3, vI 3, vI 2, vI 1, vI 0, vI 3], [], aq_h m s F c_10)) rfl rfl ?_
  refine am_E.go (t2 := (137, [vR y, vI 3, vI 3, vI 2, vI 1, vI 0, vI 3], [vI 0], aq_h m s F c_10)) rfl rfl ?_
  refine am_E.go (t2 := (138, [vR y, vI 3, vI 0, vI 2, vI 1, vI 0, vI 3], [], aq_h m s F c_10)) rfl rfl ?_
  refine am_E.go (t2 := (139, [vR y, vI 3, vI 0, vI 2, vI 1, vI 0, vI 3], [vI 0], aq_h m s F c_10)) rfl rfl ?_
  refine am_E.go (t2 := (140, [vR y, vI 3, vI 0, vI 2, vI 1, vI 0, vI 3], [vI 3, vI 0], aq_h m s F c_10)) rfl rfl ?_
  refine am_E.go (t2 := (143, [vR y, vI 3, vI 0, vI 2, vI 1, vI 0, vI 3], [], aq_h m s F c_10)) rfl rfl ?_
  refine am_E.go (t2 := (144, [vR y, vI 3, vI 0, vI 2, vI 1, vI 0, vI 3], [vR y], aq_h m s F c_10)) rfl rfl ?_
  refine aq_gf (v := vR (y + 13)) rfl (by omega) hFo (by decide) rfl ?_
  show am_E _ (147, [vR y, vI 3, vI 0, vI 2, vI 1, vI 0, vI 3], [vR (y + 13)], aq_h m s F c_10) _
  refine am_E.go (t2 := (148, [vR y, vI 3, vI 0, vI 2, vI 1, vI 0, vI 3], [vI 0, vR (y + 13)], aq_h m s F c_10)) rfl rfl ?_
  refine aq_al (ok := fun k => k == 1) (v := vI (c_10 (y + 13) 0)) rfl rfl (by omega) hG13 rfl (by decide) (by decide) rfl ?_
  rw [mtc_10.1]
  show am_E _ (149, [vR y, vI 3, vI 0, vI 2, vI 1, vI 0, vI 3], [vI 1], aq_h m s F c_10) _
  refine am_E.go (t2 := (165, [vR y, vI 3, vI 0, vI 2, vI 1, vI 0, vI 3], [], aq_h m s F c_10)) rfl rfl ?_
  refine am_E.go (t2 := (168, [vR y, vI 3, vI 1, vI 2, vI 1, vI 0, vI 3], [], aq_h m s F c_10)) rfl rfl ?_
  refine am_E.go (t2 := (138, [vR y, vI 3, vI 1, vI 2, vI 1, vI 0, vI 3], [], aq_h m s F c_10)) rfl rfl ?_
  refine am_E.go (t2 := (139, [vR y, vI 3, vI 1, vI 2, vI 1, vI 0, vI 3], [vI 1], aq_h m s F c_10)) rfl rfl ?_
  refine am_E.go (t2 := (140, [vR y, vI 3, vI 1, vI 2, vI 1, vI 0, vI 3], [vI 3, vI 1], aq_h m s F c_10)) rfl rfl ?_
  refine am_E.go (t2 := (143, [vR y, vI 3, vI 1, vI 2, vI 1, vI 0, vI 3], [], aq_h m s F c_10)) rfl rfl ?_
  refine am_E.go (t2 := (144, [vR y, vI 3, vI 1, vI 2, vI 1, vI 0, vI 3], [vR y], aq_h m s F c_10)) rfl rfl ?_
  refine aq_gf (v := vR (y + 13)) rfl (by omega) hFo (by decide) rfl ?_
  show am_E _ (147, [vR y, vI 3, vI 1, vI 2, vI 1, vI 0, vI 3], [vR (y + 13)], aq_h m s F c_10) _
  refine am_E.go (t2 := (148, [vR y, vI 3, vI 1, vI 2, vI 1, vI 0, vI 3], [vI 1, vR (y + 13)], aq_h m s F c_10)) rfl rfl ?_
  refine aq_al (ok := fun k => k == 1) (v := vI (c_10 (y + 13) 1)) rfl rfl (by omega) hG13 rfl (by decide) (by decide) rfl ?_
  rw [mtc_10.2.1]
  show am_E _ (149, [vR y, vI 3, vI 1, vI 2, vI 1, vI 0, vI 3], [vI 1], aq_h m s F c_10) _
  refine am_E.go (t2 := (165, [vR y, vI 3, vI 1, vI 2, vI 1, vI 0, vI 3], [], aq_h m s F c_10)) rfl rfl ?_
  refine am_E.go (t2 := (168, [vR y, vI 3, vI 2, vI 2, vI 1, vI 0, vI 3], [], aq_h m s F c_10)) rfl rfl ?_
  refine am_E.go (t2 := (138, [vR y, vI 3, vI 2, vI 2, vI 1, vI 0, vI 3], [], aq_h m s F c_10)) rfl rfl ?_
  refine am_E.go (t2 := (139, [vR y, vI 3, vI 2, vI 2, vI 1, vI 0, vI 3], [vI 2], aq_h m s F c_10)) rfl rfl ?_
  refine am_E.go (t2 := (140, [vR y, vI 3, vI 2, vI 2, vI 1, vI 0, vI 3], [vI 3, vI 2], aq_h m s F c_10)) rfl rfl ?_
  refine am_E.go (t2 := (143, [vR y, vI 3, vI 2, vI 2, vI 1, vI 0, vI 3], [], aq_h m s F c_10)) rfl rfl ?_
  refine am_E.go (t2 := (144, [vR y, vI 3, vI 2, vI 2, vI 1, vI 0, vI 3], [vR y], aq_h m s F c_10)) rfl rfl ?_
  refine aq_gf (v := vR (y + 13)) rfl (by omega) hFo (by decide) rfl ?_
  show am_E _ (147, [vR y, vI 3, vI 2, vI 2, vI 1, vI 0, vI 3], [vR (y + 13)], aq_h m s F c_10) _
  refine am_E.go (t2 := (148, [vR y, vI 3, vI 2, vI 2, vI 1, vI 0, vI 3], [vI 2, vR (y + 13)], aq_h m s F c_10)) rfl rfl ?_
  refine aq_al (ok := fun k => k == 1) (v := vI (c_10 (y + 13) 2)) rfl rfl (by omega) hG13 rfl (by decide) (by decide) rfl ?_
  rw [mtc_10.2.2.1]
  show am_E _ (149, [vR y, vI 3, vI 2, vI 2, vI 1, vI 0, vI 3], [vI 1], aq_h m s F c_10) _
  refine am_E.go (t2 := (165, [vR y, vI 3, vI 2, vI 2, vI 1, vI 0, vI 3], [], aq_h m s F c_10)) rfl rfl ?_
  refine am_E.go (t2 := (168, [vR y, vI 3, vI 3, vI 2, vI 1, vI 0, vI 3], [], aq_h m s F c_10)) rfl rfl ?_
  refine am_E.go (t2 := (138, [vR y, vI 3, vI 3, vI 2, vI 1, vI 0, vI 3], [], aq_h m s F c_10)) rfl rfl ?_
  refine am_E.go (t2 := (139, [vR y, vI 3, vI 3, vI 2, vI 1, vI 0, vI 3], [vI 3], aq_h m s F c_10)) rfl rfl ?_
  refine am_E.go (t2 := (140, [vR y, vI 3, vI 3, vI 2, vI 1, vI 0, vI 3], [vI 3, vI 3], aq_h m s F c_10)) rfl rfl ?_
  refine am_E.go (t2 := (171, [vR y, vI 3, vI 3, vI 2, vI 1, vI 0, vI 3], [], aq_h m s F c_10)) rfl rfl ?_
  refine am_E.go (t2 := (172, [vR y, vI 3, vI 3, vI 2, vI 1, vI 0, vI 3], [vI 0], aq_h m s F c_10)) rfl rfl ?_
  refine am_E.go (t2 := (173, [vR y, vI 3, vI 0, vI 2, vI 1, vI 0, vI 3], [], aq_h m s F c_10)) rfl rfl ?_
  refine am_E.go (t2 := (174, [vR y, vI 3, vI 0, vI 2, vI 1, vI 0, vI 3], [vI 0], aq_h m s F c_10)) rfl rfl ?_
  refine am_E.go (t2 := (175, [vR y, vI 3, vI 0, vI 0, vI 1, vI 0, vI 3], [], aq_h m s F c_10)) rfl rfl ?_
  refine am_E.go (t2 := (176, [vR y, vI 3, vI 0, vI 0, vI 1, vI 0, vI 3], [vI 0], aq_h m s F c_10)) rfl rfl ?_
  refine am_E.go (t2 := (177, [vR y, vI 3, vI 0, vI 0, vI 1, vI 0, vI 3], [vI 3, vI 0], aq_h m s F c_10)) rfl rfl ?_
  refine am_E.go (t2 := (180, [vR y, vI 3, vI 0, vI 0, vI 1, vI 0, vI 3], [], aq_h m s F c_10)) rfl rfl ?_
  refine am_E.go (t2 := (181, [vR y, vI 3, vI 0, vI 0, vI 1, vI 0, vI 3], [vR y], aq_h m s F c_10)) rfl rfl ?_
  refine aq_gf (v := vR (y + 13)) rfl (by omega) hFo (by decide) rfl ?_
  show am_E _ (184, [vR y, vI 3, vI 0, vI 0, vI 1, vI 0, vI 3], [vR (y + 13)], aq_h m s F c_10) _
  refine am_E.go (t2 := (185, [vR y, vI 3, vI 0, vI 0, vI 1, vI 0, vI 3], [vI 0, vR (y + 13)], aq_h m s F c_10)) rfl rfl ?_
  refine aq_al (ok := fun k => k == 1) (v := vI (c_10 (y + 13) 0)) rfl rfl (by omega) hG13 rfl (by decide) (by decide) rfl ?_
  rw [mtc_10.1]
  show am_E _ (186, [vR y, vI 3, vI 0, vI 0, vI 1, vI 0, vI 3], [vI 1], aq_h m s F c_10) _
  refine am_E.go (t2 := (253, [vR y, vI 3, vI 0, vI 0, vI 1, vI 0, vI 3], [], aq_h m s F c_10)) rfl rfl ?_
  refine am_E.go (t2 := (256, [vR y, vI 3, vI 0, vI 1, vI 1, vI 0, vI 3], [], aq_h m s F c_10)) rfl rfl ?_
  refine am_E.go (t2 := (175, [vR y, vI 3, vI 0, vI 1, vI 1, vI 0, vI 3], [], aq_h m s F c_10)) rfl rfl ?_
  refine am_E.go (t2 := (176, [vR y, vI 3, vI 0, vI 1, vI 1, vI 0, vI 3], [vI 1], aq_h m s F c_10)) rfl rfl ?_
  refine am_E.go (t2 := (177, [vR y, vI 3, vI 0, vI 1, vI 1, vI 0, vI 3], [vI 3, vI 1], aq_h m s F c_10)) rfl rfl ?_
  refine am_E.go (t2 := (180, [vR y, vI 3, vI 0, vI 1, vI 1, vI 0, vI 3], [], aq_h m s F c_10)) rfl rfl ?_
  refine am_E.go (t2 := (181, [vR y, vI 3, vI 0, vI 1, vI 1, vI 0, vI 3], [vR y], aq_h m s F c_10)) rfl rfl ?_
  refine aq_gf (v := vR (y + 13)) rfl (by omega) hFo (by decide) rfl ?_
  show am_E _ (184, [vR y, vI 3, vI 0, vI 1, vI 1, vI 0, vI 3], [vR (y + 13)], aq_h m s F c_10) _
  refine am_E.go (t2 := (185, [vR y, vI 3, vI 0, vI 1, vI 1, vI 0, vI 3], [vI 1, vR (y + 13)], aq_h m s F c_10)) rfl rfl ?_
  refine aq_al (ok := fun k => k == 1) (v := vI (c_10 (y + 13) 1)) rfl rfl (by omega) hG13 rfl (by decide) (by decide) rfl ?_
  rw [mtc_10.2.1]
  show am_E _ (186, [vR y, vI 3, vI 0, vI 1, vI 1, vI 0, vI 3], [vI 1], aq_h m s F c_10) _
  refine am_E.go (t2 := (253, [vR y, vI 3, vI 0, vI 1, vI 1, vI 0, vI 3], [], aq_h m s F c_10)) rfl rfl ?_
  refine am_E.go (t2 := (256, [vR y, vI 3, vI 0, vI 2, vI 1, vI 0, vI 3], [], aq_h m s F c_10)) rfl rfl ?_
  refine am_E.go (t2 := (175, [vR y, vI 3, vI 0, vI 2, vI 1, vI 0, vI 3], [], aq_h m s F c_10)) rfl rfl ?_
  refine am_E.go (t2 := (176, [vR y, vI 3, vI 0, vI 2, vI 1, vI 0, vI 3], [vI 2], aq_h m s F c_10)) rfl rfl ?_
  refine am_E.go (t2 := (177, [vR y, vI 3, vI 0, vI 2, vI 1, vI 0, vI 3], [vI 3, vI 2], aq_h m s F c_10)) rfl rfl ?_
  refine am_E.go (t2 := (180, [vR y, vI 3, vI 0, vI 2, vI 1, vI 0, vI 3], [], aq_h m s F c_10)) rfl rfl ?_
  refine am_E.go (t2 := (181, [vR y, vI 3, vI 0, vI 2, vI 1, vI 0, vI 3], [vR y], aq_h m s F c_10)) rfl rfl ?_
  refine aq_gf (v := vR (y + 13)) rfl (by omega) hFo (by decide) rfl ?_
  show am_E _ (184, [vR y, vI 3, vI 0, vI 2, vI 1, vI 0, vI 3], [vR (y + 13)], aq_h m s F c_10) _
  refine am_E.go (t2 := (185, [vR y, vI 3, vI 0, vI 2, vI 1, vI 0, vI 3], [vI 2, vR (y + 13)], aq_h m s F c_10)) rfl rfl ?_
  refine aq_al (ok := fun k => k == 1) (v := vI (c_10 (y + 13) 2)) rfl rfl (by omega) hG13 rfl (by decide) (by decide) rfl ?_
  rw [mtc_10.2.2.1]
  show am_E _ (186, [vR y, vI 3, vI 0, vI 2, vI 1, vI 0, vI 3], [vI 1], aq_h m s F c_10) _
  refine am_E.go (t2 := (253, [vR y, vI 3, vI 0, vI 2, vI 1, vI 0, vI 3], [], aq_h m s F c_10)) rfl rfl ?_
  refine am_E.go (t2 := (256, [vR y, vI 3, vI 0, vI 3, vI 1, vI 0, vI 3], [], aq_h m s F c_10)) rfl rfl ?_
  refine am_E.go (t2 := (175, [vR y, vI 3, vI 0, vI 3, vI 1, vI 0, vI 3], [], aq_h m s F c_10)) rfl rfl ?_
  refine am_E.go (t2 := (176, [vR y, vI 3, vI 0, vI 3, vI 1, vI 0, vI 3], [vI 3], aq_h m s F c_10)) rfl rfl ?_
  refine am_E.go (t2 := (177, [vR y, vI 3, vI 0, vI 3, vI 1, vI 0, vI 3], [vI 3, vI 3], aq_h m s F c_10)) rfl rfl ?_
  refine am_E.go (t2 := (259, [vR y, vI 3, vI 0, vI 3, vI 1, vI 0, vI 3], [], aq_h m s F c_10)) rfl rfl ?_
  refine am_E.go (t2 := (260, [vR y, vI 3, vI 0, vI 3, vI 1, vI 0, vI 3], [vI 0], aq_h m s F c_10)) rfl rfl ?_
  refine am_E.ret rfl rfl ?_
  exact ⟨_, rfl, sc_10, rfl⟩

theorem qm_fo_4000 {m s : Nat} {F : aq_F} {c : aq_C} {y : Nat} (hO : mo_0 m F y) (hA0 : c (y + 18) 0 = 1) (hA1 : c (y + 18) 1 = 0) (hA2 : c (y + 18) 2 = 3) (hA3 : c (y + 18) 3 = 2) (hB0 : c (y + 19) 0 = 1) (hB1 : c (y + 19) 1 = 0) (hB2 : c (y + 19) 2 = 3) (hB3 : c (y + 19) 3 = 2) : am_E ac_X5_formOf (0, [vR y, vI 4, vU, vU, vU, vU, vU], [], aq_h m s F c) (aq_Z m s F (fun a => a = y + 13) c (fun r _ => r = some (vI 2))) := by
  obtain ⟨hm, hFo, hG5, hG6, hG7, hG8, hG9, hG10, hG11, hG12, hG13, hG14, hG15, hG16, hG17, hG18, hG19, hG20, hG21, hG22, hG23⟩ := hO
  have hmt : mt_ y (c (y + 13) 0) (c (y + 13) 1) (c (y + 13) 2) (c (y + 13) 3) c := ⟨rfl, rfl, rfl, rfl⟩
  refine am_E.go (t2 := (1, [vR y, vI 4, vU, vU, vU, vU, vU], [vI 0], aq_h m s F c)) rfl rfl ?_
  refine am_E.go (t2 := (2, [vR y, vI 4, vI 0, vU, vU, vU, vU], [], aq_h m s F c)) rfl rfl ?_
  refine am_E.go (t2 := (3, [vR y, vI 4, vI 0, vU, vU, vU, vU], [vI 0], aq_h m s F c)) rfl rfl ?_
  refine am_E.go (t2 := (4, [vR y, vI 4, vI 0, vU, vU, vU, vU], [vI 4, vI 0], aq_h m s F c)) rfl rfl ?_
  refine am_E.go (t2 := (7, [vR y, vI 4, vI 0, vU, vU, vU, vU], [], aq_h m s F c)) rfl rfl ?_
  refine am_E.go (t2 := (8, [vR y, vI 4, vI 0, vU, vU, vU, vU], [vR y], aq_h m s F c)) rfl rfl ?_
  refine aq_gf (v := vR (y + 13)) rfl (by omega) hFo (by decide) rfl ?_
  show am_E _ (11, [vR y, vI 4, vI 0, vU, vU, vU, vU], [vR (y + 13)], aq_h m s F c) _
  refine am_E.go (t2 := (12, [vR y, vI 4, vI 0, vU, vU, vU, vU], [vI 0, vR (y + 13)], aq_h m s F c)) rfl rfl ?_
  refine am_E.go (t2 := (13, [vR y, vI 4, vI 0, vU, vU, vU, vU], [vI 0, vI 0, vR (y + 13)], aq_h m s F c)) rfl rfl ?_
  refine aq_as (kd := 1) rfl rfl (by omega) hG13 (by omega) (by omega) rfl rfl ?_
  show am_E _ (14, [vR y, vI 4, vI 0, vU, vU, vU, vU], [], aq_h m s F (aq_u c (y + 13) 0 0)) _
  generalize hdc_1 : aq_u c (y + 13) 0 0 = c_1
  have sc_1 := aq_smu (aq_sm0 (c := c) (S := fun a => a = y + 13)) hdc_1 rfl
  have mtc_1 := mt_0 hmt hdc_1
  refine am_E.go (t2 := (17, [vR y, vI 4, vI 1, vU, vU, vU, vU], [], aq_h m s F c_1)) rfl rfl ?_
  refine am_E.go (t2 := (2, [vR y, vI 4, vI 1, vU, vU, vU, vU], [], aq_h m s F c_1)) rfl rfl ?_
  refine am_E.go (t2 := (3, [vR y, vI 4, vI 1, vU, vU, vU, vU], [vI 1], aq_h m s F c_1)) rfl rfl ?_
  refine am_E.go (t2 := (4, [vR y, vI 4, vI 1, vU, vU, vU, vU], [vI 4, vI 1], aq_h m s F c_1)) rfl rfl ?_
  refine am_E.go (t2 := (7, [vR y, vI 4, vI 1, vU, vU, vU, vU], [], aq_h m s F c_1)) rfl rfl ?_
  refine am_E.go (t2 := (8, [vR y, vI 4, vI 1, vU, vU, vU, vU], [vR y], aq_h m s F c_1)) rfl rfl ?_
  refine aq_gf (v := vR (y + 13)) rfl (by omega) hFo (by decide) rfl ?_
  show am_E _ (11, [vR y, vI 4, vI 1, vU, vU, vU, vU], [vR (y + 13)], aq_h m s F c_1) _
  refine am_E.go (t2 := (12, [vR y, vI 4, vI 1, vU, vU, vU, vU], [vI 1, vR (y + 13)], aq_h m s F c_1)) rfl rfl ?_
  refine am_E.go (t2 := (13, [vR y, vI 4, vI 1, vU, vU, vU, vU], [vI 0, vI 1, vR (y + 13)], aq_h m s F c_1)) rfl rfl ?_
  refine aq_as (kd := 1) rfl rfl (by omega) hG13 (by omega) (by omega) rfl rfl ?_
  show am_E _ (14, [vR y, vI 4, vI 1, vU, vU, vU, vU], [], aq_h m s F (aq_u c_1 (y + 13) 1 0)) _
  generalize hdc_2 : aq_u c_1 (y + 13) 1 0 = c_2
  have sc_2 := aq_smu sc_1 hdc_2 rfl
  have mtc_2 := mt_1 mtc_1 hdc_2
  refine am_E.go (t2 := (17, [vR y, vI 4, vI 2, vU, vU, vU, vU], [], aq_h m s F c_2)) rfl rfl ?_
  refine am_E.go (t2 := (2, [vR y, vI 4, vI 2, vU, vU, vU, vU], [], aq_h m s F c_2)) rfl rfl ?_
  refine am_E.go (t2 := (3, [vR y, vI 4, vI 2, vU, vU, vU, vU], [vI 2], aq_h m s F c_2)) rfl rfl ?_
  refine am_E.go (t2 := (4, [vR y, vI 4, vI 2, vU, vU, vU, vU], [vI 4, vI 2], aq_h m s F c_2)) rfl rfl ?_
  refine am_E.go (t2 := (7, [vR y, vI 4, vI 2, vU, vU, vU, vU], [], aq_h m s F c_2)) rfl rfl ?_
  refine am_E.go (t2 := (8, [vR y, vI 4, vI 2, vU, vU, vU, vU], [vR y], aq_h m s F c_2)) rfl rfl ?_
  refine aq_gf (v := vR (y + 13)) rfl (by omega) hFo (by decide) rfl ?_
  show am_E _ (11, [vR y, vI 4, vI 2, vU, vU, vU, vU], [vR (y + 13)], aq_h m s F c_2) _
  refine am_E.go (t2 := (12, [vR y, vI 4, vI 2, vU, vU, vU, vU], [vI 2, vR (y + 13)], aq_h m s F c_2)) rfl rfl ?_
  refine am_E.go (t2 := (13, [vR y, vI 4, vI 2, vU, vU, vU, vU], [vI 0, vI 2, vR (y + 13)], aq_h m s F c_2)) rfl rfl ?_
  refine aq_as (kd := 1) rfl rfl (by omega) hG13 (by omega) (by omega) rfl rfl ?_
  show am_E _ (14, [vR y, vI 4, vI 2, vU, vU, vU, vU], [], aq_h m s F (aq_u c_2 (y + 13) 2 0)) _
  generalize hdc_3 : aq_u c_2 (y + 13) 2 0 = c_3
  have sc_3 := aq_smu sc_2 hdc_3 rfl
  have mtc_3 := mt_2 mtc_2 hdc_3
  refine am_E.go (t2 := (17, [vR y, vI 4, vI 3, vU, vU, vU, vU], [], aq_h m s F c_3)) rfl rfl ?_
  refine am_E.go (t2 := (2, [vR y, vI 4, vI 3, vU, vU, vU, vU], [], aq_h m s F c_3)) rfl rfl ?_
  refine am_E.go (t2 := (3, [vR y, vI 4, vI 3, vU, vU, vU, vU], [vI 3], aq_h m s F c_3)) rfl rfl ?_
  refine am_E.go (t2 := (4, [vR y, vI 4, vI 3, vU, vU, vU, vU], [vI 4, vI 3], aq_h m s F c_3)) rfl rfl ?_
  refine am_E.go (t2 := (7, [vR y, vI 4, vI 3, vU, vU, vU, vU], [], aq_h m s F c_3)) rfl rfl ?_
  refine am_E.go (t2 := (8, [vR y, vI 4, vI 3, vU, vU, vU, vU], [vR y], aq_h m s F c_3)) rfl rfl ?_
  refine aq_gf (v := vR (y + 13)) rfl (by omega) hFo (by decide) rfl ?_
  show am_E _ (11, [vR y, vI 4, vI 3, vU, vU, vU, vU], [vR (y + 13)], aq_h m s F c_3) _
  refine am_E.go (t2 := (12, [vR y, vI 4, vI 3, vU, vU, vU, vU], [vI 3, vR (y + 13)], aq_h m s F c_3)) rfl rfl ?_
  refine am_E.go (t2 := (13, [vR y, vI 4, vI 3, vU, vU, vU, vU], [vI 0, vI 3, vR (y + 13)], aq_h m s F c_3)) rfl rfl ?_
  refine aq_as (kd := 1) rfl rfl (by omega) hG13 (by omega) (by omega) rfl rfl ?_
  show am_E _ (14, [vR y, vI 4, vI 3, vU, vU, vU, vU], [], aq_h m s F (aq_u c_3 (y + 13) 3 0)) _
  generalize hdc_4 : aq_u c_3 (y + 13) 3 0 = c_4
  have sc_4 := aq_smu sc_3 hdc_4 rfl
  have mtc_4 := mt_3 mtc_3 hdc_4
  refine am_E.go (t2 := (17, [vR y, vI 4, vI 4, vU, vU, vU, vU], [], aq_h m s F c_4)) rfl rfl ?_
  refine am_E.go (t2 := (2, [vR y, vI 4, vI 4, vU, vU, vU, vU], [], aq_h m s F c_4)) rfl rfl ?_
  refine am_E.go (t2 := (3, [vR y, vI 4, vI 4, vU, vU, vU, vU], [vI 4], aq_h m s F c_4)) rfl rfl ?_
  refine am_E.go (t2 := (4, [vR y, vI 4, vI 4, vU, vU, vU, vU], [vI 4, vI 4], aq_h m s F c_4)) rfl rfl ?_
  refine am_E.go (t2 := (20, [vR y, vI 4, vI 4, vU, vU, vU, vU], [], aq_h m s F c_4)) rfl rfl ?_
  refine am_E.go (t2 := (21, [vR y, vI 4, vI 4, vU, vU, vU, vU], [vI 0], aq_h m s F c_4)) rfl rfl ?_
  refine am_E.go (t2 := (22, [vR y, vI 4, vI 0, vU, vU, vU, vU], [], aq_h m s F c_4)) rfl rfl ?_
  refine am_E.go (t2 := (23, [vR y, vI 4, vI 0, vU, vU, vU, vU], [vI 0], aq_h m s F c_4)) rfl rfl ?_
  refine am_E.go (t2 := (24, [vR y, vI 4, vI 0, vU, vU, vU, vU], [vI 4, vI 0], aq_h m s F c_4)) rfl rfl ?_
  refine am_E.go (t2 := (27, [vR y, vI 4, vI 0, vU, vU, vU, vU], [], aq_h m s F c_4)) rfl rfl ?_
  refine am_E.go (t2 := (28, [vR y, vI 4, vI 0, vU, vU, vU, vU], [vR y], aq_h m s F c_4)) rfl rfl ?_
  refine aq_gf (v := vR (y + 18)) rfl (by omega) hFo (by decide) rfl ?_
  show am_E _ (31, [vR y, vI 4, vI 0, vU, vU, vU, vU], [vR (y + 18)], aq_h m s F c_4) _
  refine am_E.go (t2 := (32, [vR y, vI 4, vI 0, vU, vU, vU, vU], [vI 0, vR (y + 18)], aq_h m s F c_4)) rfl rfl ?_
  refine aq_al (ok := fun k => k == 0) (v := vI (c_4 (y + 18) 0)) rfl rfl (by omega) hG18 rfl (by decide) (by decide) rfl ?_
  rw [sc_4 (y + 18) (by omega), hA0]
  show am_E _ (33, [vR y, vI 4, vI 0, vU, vU, vU, vU], [vI 1], aq_h m s F c_4) _
  refine am_E.go (t2 := (34, [vR y, vI 4, vI 0, vU, vU, vU, vU], [vI 4, vI 1], aq_h m s F c_4)) rfl rfl ?_
  refine am_E.go (t2 := (130, [vR y, vI 4, vI 0, vU, vU, vU, vU], [], aq_h m s F c_4)) rfl rfl ?_
  refine am_E.go (t2 := (133, [vR y, vI 4, vI 1, vU, vU, vU, vU], [], aq_h m s F c_4)) rfl rfl ?_
  refine am_E.go (t2 := (22, [vR y, vI 4, vI 1, vU, vU, vU, vU], [], aq_h m s F c_4)) rfl rfl ?_
  refine am_E.go (t2 := (23, [vR y, vI 4, vI 1, vU, vU, vU, vU], [vI 1], aq_h m s F c_4)) rfl rfl ?_
  refine am_E.go (t2 := (24, [vR y, vI 4, vI 1, vU, vU, vU, vU], [vI 4, vI 1], aq_h m s F c_4)) rfl rfl ?_
  refine am_E.go (t2 := (27, [vR y, vI 4, vI 1, vU, vU, vU, vU], [], aq_h m s F c_4)) rfl rfl ?_
  refine am_E.go (t2 := (28, [vR y, vI 4, vI 1, vU, vU, vU, vU], [vR y], aq_h m s F c_4)) rfl rfl ?_
  refine aq_gf (v := vR (y + 18)) rfl (by omega) hFo (by decide) rfl ?_
  show am_E _ (31, [vR y, vI 4, vI 1, vU, vU, vU, vU], [vR (y + 18)], aq_h m s F c_4) _
  refine am_E.go (t2 := (32, [vR y, vI 4, vI 1, vU, vU, vU, vU], [vI 1, vR (y + 18)], aq_h m s F c_4)) rfl rfl ?_
  refine aq_al (ok := fun k => k == 0) (v := vI (c_4 (y + 18) 1)) rfl rfl (by omega) hG18 rfl (by decide) (by decide) rfl ?_
  rw [sc_4 (y + 18) (by omega), hA1]
  show am_E _ (33, [vR y, vI 4, vI 1, vU, vU, vU, vU], [vI 0], aq_h m s F c_4) _
  refine am_E.go (t2 := (34, [vR y, vI 4, vI 1, vU, vU, vU, vU], [vI 4, vI 0], aq_h m s F c_4)) rfl rfl ?_
  refine am_E.go (t2 := (130, [vR y, vI 4, vI 1, vU, vU, vU, vU], [], aq_h m s F c_4)) rfl rfl ?_
  refine am_E.go (t2 := (133, [vR y, vI 4, vI 2, vU, vU, vU, vU], [], aq_h m s F c_4)) rfl rfl ?_
  refine am_E.go (t2 := (22, [vR y, vI 4, vI 2, vU, vU, vU, vU], [], aq_h m s F c_4)) rfl rfl ?_
  refine am_E.go (t2 := (23, [vR y, vI 4, vI 2, vU, vU, vU, vU], [vI 2], aq_h m s F c_4)) rfl rfl ?_
  refine am_E.go (t2 := (24, [vR y, vI 4, vI 2, vU, vU, vU, vU], [vI 4, vI 2], aq_h m s F c_4)) rfl rfl ?_
  refine am_E.go (t2 := (27, [vR y, vI 4, vI 2, vU, vU, vU, vU], [], aq_h m s F c_4)) rfl rfl ?_
  refine am_E.go (t2 := (28, [vR y, vI 4, vI 2, vU, vU, vU, vU], [vR y], aq_h m s F c_4)) rfl rfl ?_
  refine aq_gf (v := vR (y + 18)) rfl (by omega) hFo (by decide) rfl ?_
  show am_E _ (31, [vR y, vI 4, vI 2, vU, vU, vU, vU], [vR (y + 18)], aq_h m s F c_4) _
  refine am_E.go (t2 := (32, [vR y, vI 4, vI 2, vU, vU, vU, vU], [vI 2, vR (y + 18)], aq_h m s F c_4)) rfl rfl ?_
  refine aq_al (ok := fun k => k == 0) (v := vI (c_4 (y + 18) 2)) rfl rfl (by omega) hG18 rfl (by decide) (by decide) rfl ?_
  rw [sc_4 (y + 18) (by omega), hA2]
  show am_E _ (33, [vR y, vI 4, vI 2, vU, vU, vU, vU], [vI 3], aq_h m s F c_4) _
  refine am_E.go (t2 := (34, [vR y, vI 4, vI 2, vU, vU, vU, vU], [vI 4, vI 3], aq_h m s F c_4)) rfl rfl ?_
  refine am_E.go (t2 := (130, [vR y, vI 4, vI 2, vU, vU, vU, vU], [], aq_h m s F c_4)) rfl rfl ?_
  refine am_E.go (t2 := (133, [vR y, vI 4, vI 3, vU, vU, vU, vU], [], aq_h m s F c_4)) rfl rfl ?_
  refine am_E.go (t2 := (22, [vR y, vI 4, vI 3, vU, vU, vU, vU], [], aq_h m s F c_4)) rfl rfl ?_
  refine am_E.go (t2 := (23, [vR y, vI 4, vI 3, vU, vU, vU, vU], [vI 3], aq_h m s F c_4)) rfl rfl ?_
  refine am_E.go (t2 := (24, [vR y, vI 4, vI 3, vU, vU, vU, vU], [vI 4, vI 3], aq_h m s F c_4)) rfl rfl ?_
  refine am_E.go (t2 := (27, [vR y, vI 4, vI 3, vU, vU, vU, vU], [], aq_h m s F c_4)) rfl rfl ?_
  refine am_E.go (t2 := (28, [vR y, vI 4, vI 3, vU, vU, vU, vU], [vR y], aq_h m s F c_4)) rfl rfl ?_
  refine aq_gf (v := vR (y + 18)) rfl (by omega) hFo (by decide) rfl ?_
  show am_E _ (31, [vR y, vI 4, vI 3, vU, vU, vU, vU], [vR (y + 18)], aq_h m s F c_4) _
  refine am_E.go (t2 := (32, [vR y, vI 4, vI 3, vU, vU, vU, vU], [vI 3, vR (y + 18)], aq_h m s F c_4)) rfl rfl ?_
  refine aq_al (ok := fun k => k == 0) (v := vI (c_4 (y + 18) 3)) rfl rfl (by omega) hG18 rfl (by decide) (by decide) rfl ?_
  rw [sc_4 (y + 18) (by omega), hA3]
  show am_E _ (33, [vR y, vI 4, vI 3, vU, vU, vU, vU], [vI 2], aq_h m s F c_4) _
  refine am_E.go (t2 := (34, [vR y, vI 4, vI 3, vU, vU, vU, vU], [vI 4, vI 2], aq_h m s F c_4)) rfl rfl ?_
  refine am_E.go (t2 := (130, [vR y, vI 4, vI 3, vU, vU, vU, vU], [], aq_h m s F c_4)) rfl rfl ?_
  refine am_E.go (t2 := (133, [vR y, vI 4, vI 4, vU, vU, vU, vU], [], aq_h m s F c_4)) rfl rfl ?_
  refine am_E.go (t2 := (22, [vR y, vI 4, vI 4, vU, vU, vU, vU], [], aq_h m s F c_4)) rfl rfl ?_
  refine am_E.go (t2 := (23, [vR y, vI 4, vI 4, vU, vU, vU, vU], [vI 4], aq_h m s F c_4)) rfl rfl ?_
  refine am_E.go (t2 := (24, [vR y, vI 4, vI 4, vU, vU, vU, vU], [vI 4, vI 4], aq_h m s F c_4)) rfl rfl ?_
  refine am_E.go (t2 := (136, [vR y, vI 4, vI 4, vU, vU, vU, vU], [], aq_h m s F c_4)) rfl rfl ?_
  refine am_E.go (t2 := (137, [vR y, vI 4, vI 4, vU, vU, vU, vU], [vI 0], aq_h m s F c_4)) rfl rfl ?_
  refine am_E.go (t2 := (138, [vR y, vI 4, vI 0, vU, vU, vU, vU], [], aq_h m s F c_4)) rfl rfl ?_
  refine am_E.go (t2 := (139, [vR y, vI 4, vI 0, vU, vU, vU, vU], [vI 0], aq_h m s F c_4)) rfl rfl ?_
  refine am_E.go (t2 := (140, [vR y, vI 4, vI 0, vU, vU, vU, vU], [vI 4, vI 0], aq_h m s F c_4)) rfl rfl ?_
  refine am_E.go (t2 := (143, [vR y, vI 4, vI 0, vU, vU, vU, vU], [], aq_h m s F c_4)) rfl rfl ?_
  refine am_E.go (t2 := (144, [vR y, vI 4, vI 0, vU, vU, vU, vU], [vR y], aq_h m s F c_4)) rfl rfl ?_
  refine aq_gf (v := vR (y + 13)) rfl (by omega) hFo (by decide) rfl ?_
  show am_E _ (147, [vR y, vI 4, vI 0, vU, vU, vU, vU], [vR (y + 13)], aq_h m s F c_4) _
  refine am_E.go (t2 := (148, [vR y, vI 4, vI 0, vU, vU, vU, vU], [vI 0, vR (y + 13)], aq_h m s F c_4)) rfl rfl ?_
  refine aq_al (ok := fun k => k == 1) (v := vI (c_4 (y + 13) 0)) rfl rfl (by omega) hG13 rfl (by decide) (by decide) rfl ?_
  rw [mtc_4.1]
  show am_E _ (149, [vR y, vI 4, vI 0, vU, vU, vU, vU], [vI 0], aq_h m s F c_4) _
  refine am_E.go (t2 := (152, [vR y, vI 4, vI 0, vU, vU, vU, vU], [], aq_h m s F c_4)) rfl rfl ?_
  refine am_E.go (t2 := (153, [vR y, vI 4, vI 0, vU, vU, vU, vU], [vR y], aq_h m s F c_4)) rfl rfl ?_
  refine aq_gf (v := vR (y + 19)) rfl (by omega) hFo (by decide) rfl ?_
  show am_E _ (156, [vR y, vI 4, vI 0, vU, vU, vU, vU], [vR (y + 19)], aq_h m s F c_4) _
  refine am_E.go (t2 := (157, [vR y, vI 4, vI 0, vU, vU, vU, vU], [vI 0, vR (y + 19)], aq_h m s F c_4)) rfl rfl ?_
  refine aq_al (ok := fun k => k == 0) (v := vI (c_4 (y + 19) 0)) rfl rfl (by omega) hG19 rfl (by decide) (by decide) rfl ?_
  rw [sc_4 (y + 19) (by omega), hB0]
  show am_E _ (158, [vR y, vI 4, vI 0, vU, vU, vU, vU], [vI 1], aq_h m s F c_4) _
  refine am_E.go (t2 := (159, [vR y, vI 4, vI 0, vU, vU, vU, vU], [vI 4, vI 1], aq_h m s F c_4)) rfl rfl ?_
  refine am_E.go (t2 := (165, [vR y, vI 4, vI 0, vU, vU, vU, vU], [], aq_h m s F c_4)) rfl rfl ?_
  refine am_E.go (t2 := (168, [vR y, vI 4, vI 1, vU, vU, vU, vU], [], aq_h m s F c_4)) rfl rfl ?_
  refine am_E.go (t2 := (138, [vR y, vI 4, vI 1, vU, vU, vU, vU], [], aq_h m s F c_4)) rfl rfl ?_
  refine am_E.go (t2 := (139, [vR y, vI 4, vI 1, vU, vU, vU, vU], [vI 1], aq_h m s F c_4)) rfl rfl ?_
  refine am_E.go (t2 := (140, [vR y, vI 4, vI 1, vU, vU, vU, vU], [vI 4, vI 1], aq_h m s F c_4)) rfl rfl ?_
  refine am_E.go (t2 := (143, [vR y, vI 4, vI 1, vU, vU, vU, vU], [], aq_h m s F c_4)) rfl rfl ?_
  refine am_E.go (t2 := (144, [vR y, vI 4, vI 1, vU, vU, vU, vU], [vR y], aq_h m s F c_4)) rfl rfl ?_
  refine aq_gf (v := vR (y + 13)) rfl (by omega) hFo (by decide) rfl ?_
  show am_E _ (147, [vR y, vI 4, vI 1, vU, vU, vU, vU], [vR (y + 13)], aq_h m s F c_4) _
  refine am_E.go (t2 := (148, [vR y, vI 4, vI 1, vU, vU, vU, vU], [vI 1, vR (y + 13)], aq_h m s F c_4)) rfl rfl ?_
  refine aq_al (ok := fun k => k == 1) (v := vI (c_4 (y + 13) 1)) rfl rfl (by omega) hG13 rfl (by decide) (by decide) rfl ?_
  rw [mtc_4.2.1]
  show am_E _ (149, [vR y, vI 4, vI 1, vU, vU, vU, vU], [vI 0], aq_h m s F c_4) _
  refine am_E.go (t2 := (152, [vR y, vI 4, vI 1, vU, vU, vU, vU], [], aq_h m s F c_4)) rfl rfl ?_
  refine am_E.go (t2 := (153, [vR y, vI 4, vI 1, vU, vU, vU, vU], [vR y], aq_h m s F c_4)) rfl rfl ?_
  refine aq_gf (v := vR (y + 19)) rfl (by omega) hFo (by decide) rfl ?_
  show am_E _ (156, [vR y, vI 4, vI 1, vU, vU, vU, vU], [vR (y + 19)], aq_h m s F c_4) _
  refine am_E.go (t2 := (157, [vR y, vI 4, vI 1, vU, vU, vU, vU], [vI 1, vR (y + 19)], aq_h m s F c_4)) rfl rfl ?_
  refine aq_al (ok := fun k => k == 0) (v := vI (c_4 (y + 19) 1)) rfl rfl (by omega) hG19 rfl (by decide) (by decide) rfl ?_
  rw [sc_4 (y + 19) (by omega), hB1]
  show am_E _ (158, [vR y, vI 4, vI 1, vU, vU, vU, vU], [vI 0], aq_h m s F c_4) _
  refine am_E.go (t2 := (159, [vR y, vI 4, vI 1, vU, vU, vU, vU], [vI 4, vI 0], aq_h m s F c_4)) rfl rfl ?_
  refine am_E.go (t2 := (165, [vR y, vI 4, vI 1, vU, vU, vU, vU], [], aq_h m s F c_4)) rfl rfl ?_
  refine am_E.go (t2 := (168, [vR y, vI 4, vI 2, vU, vU, vU, vU], [], aq_h m s F c_4)) rfl rfl ?_
  refine am_E.go (t2 := (138, [vR y, vI 4, vI 2, vU, vU, vU, vU], [], aq_h m s F c_4)) rfl rfl ?_
  refine am_E.go (t2 := (139, [vR y, vI 4, vI 2, vU, vU, vU, vU], [vI 2], aq_h m s F c_4)) rfl rfl ?_
  refine am_E.go (t2 := (140, [vR y, vI 4, vI 2, vU, vU, vU, vU], [vI 4, vI 2], aq_h m s F c_4)) rfl rfl ?_
  refine am_E.go (t2 := (143, [vR y, vI 4, vI 2, vU, vU, vU, vU], [], aq_h m s F c_4)) rfl rfl ?_
  refine am_E.go (t2 := (144, [vR y, vI 4, vI 2, vU, vU, vU, vU], [vR y], aq_h m s F c_4)) rfl rfl ?_
  refine aq_gf (v := vR (y + 13)) rfl (by omega) hFo (by decide) rfl ?_
  show am_E _ (147, [vR y, vI 4, vI 2, vU, vU, vU, vU], [vR (y + 13)], aq_h m s F c_4) _
  refine am_E.go (t2 := (148, [vR y, vI 4, vI 2, vU, vU, vU, vU], [vI 2, vR (y + 13)], aq_h m s F c_4)) rfl rfl ?_
  refine aq_al (ok := fun k => k == 1) (v := vI (c_4 (y + 13) 2)) rfl rfl (by omega) hG13 rfl (by decide) (by decide) rfl ?_
  rw [mtc_4.2.2.1]
  show am_E _ (149, [vR y, vI 4, vI 2, vU, vU, vU, vU], [vI 0], aq_h m s F c_4) _
  refine am_E.go (t2 := (152, [vR y, vI 4, vI 2, vU, vU, vU, vU], [], aq_h m s F c_4)) rfl rfl ?_
  refine am_E.go (t2 := (153, [vR y, vI 4, vI 2, vU, vU, vU, vU], [vR y], aq_h m s F c_4)) rfl rfl ?_
  refine aq_gf (v := vR (y + 19)) rfl (by omega) hFo (by decide) rfl ?_
  show am_E _ (156, [vR y, vI 4, vI 2, vU, vU, vU, vU], [vR (y + 19)], aq_h m s F c_4) _
  refine am_E.go (t2 := (157, [vR y, vI 4, vI 2, vU, vU, vU, vU], [vI 2, vR (y + 19)], aq_h m s F c_4)) rfl rfl ?_
  refine aq_al (ok := fun k => k == 0) (v := vI (c_4 (y + 19) 2)) rfl rfl (by omega) hG19 rfl (by decide) (by decide) rfl ?_
  rw [sc_4 (y + 19) (by omega), hB2]
  show am_E _ (158, [vR y, vI 4, vI 2, vU, vU, vU, vU], [vI 3], aq_h m s F c_4) _
  refine am_E.go (t2 := (159, [vR y, vI 4, vI 2, vU, vU, vU, vU], [vI 4, vI 3], aq_h m s F c_4)) rfl rfl ?_
  refine am_E.go (t2 := (165, [vR y, vI 4, vI 2, vU, vU, vU, vU], [], aq_h m s F c_4)) rfl rfl ?_
  refine am_E.go (t2 := (168, [vR y, vI 4, vI 3, vU, vU, vU, vU], [], aq_h m s F c_4)) rfl rfl ?_
  refine am_E.go (t2 := (138, [vR y, vI 4, vI 3, vU, vU, vU, vU], [], aq_h m s F c_4)) rfl rfl ?_
  refine am_E.go (t2 := (139, [vR y, vI 4, vI 3, vU, vU, vU, vU], [vI 3], aq_h m s F c_4)) rfl rfl ?_
  refine am_E.go (t2 := (140, [vR y, vI 4, vI 3, vU, vU, vU, vU], [vI 4, vI 3], aq_h m s F c_4)) rfl rfl ?_
  refine am_E.go (t2 := (143, [vR y, vI 4, vI 3, vU, vU, vU, vU], [], aq_h m s F c_4)) rfl rfl ?_
  refine am_E.go (t2 := (144, [vR y, vI 4, vI 3, vU, vU, vU, vU], [vR y], aq_h m s F c_4)) rfl rfl ?_
  refine aq_gf (v := vR (y + 13)) rfl (by omega) hFo (by decide) rfl ?_
  show am_E _ (147, [vR y, vI 4, vI 3, vU, vU, vU, vU], [vR (y + 13)], aq_h m s F c_4) _
  refine am_E.go (t2 := (148, [vR y, vI 4, vI 3, vU, vU, vU, vU], [vI 3, vR (y + 13)], aq_h m s F c_4)) rfl rfl ?_
  refine aq_al (ok := fun k => k == 1) (v := vI (c_4 (y + 13) 3)) rfl rfl (by omega) hG13 rfl (by decide) (by decide) rfl ?_
  rw [mtc_4.2.2.2]
  show am_E _ (149, [vR y, vI 4, vI 3, vU, vU, vU, vU], [vI 0], aq_h m s F c_4) _
  refine am_E.go (t2 := (152, [vR y, vI 4, vI 3, vU, vU, vU, vU], [], aq_h m s F c_4)) rfl rfl ?_
  refine am_E.go (t2 := (153, [vR y, vI 4, vI 3, vU, vU, vU, vU], [vR y], aq_h m s F c_4)) rfl rfl ?_
  refine aq_gf (v := vR (y + 19)) rfl (by omega) hFo (by decide) rfl ?_
  show am_E _ (156, [vR y, vI 4, vI 3, vU, vU, vU, vU], [vR (y + 19)], aq_h m s F c_4) _
  refine am_E.go (t2 := (157, [vR y, vI 4, vI 3, vU, vU, vU, vU], [vI 3, vR (y + 19)], aq_h m s F c_4)) rfl rfl ?_
  refine aq_al (ok := fun k => k == 0) (v := vI (c_4 (y + 19) 3)) rfl rfl (by omega) hG19 rfl (by decide) (by decide) rfl ?_
  rw [sc_4 (y + 19) (by omega), hB3]
  show am_E _ (158, [vR y, vI 4, vI 3, vU, vU, vU, vU], [vI 2], aq_h m s F c_4) _
  refine am_E.go (t2 := (159, [vR y, vI 4, vI 3, vU, vU, vU, vU], [vI 4, vI 2], aq_h m s F c_4)) rfl rfl ?_
  refine am_E.go (t2 := (165, [vR y, vI 4, vI 3, vU, vU, vU, vU], [], aq_h m s F c_4)) rfl rfl ?_
  refine am_E.go (t2 := (168, [vR y, vI 4, vI 4, vU, vU, vU, vU], [], aq_h m s F c_4)) rfl rfl ?_
  refine am_E.go (t2 := (138, [vR y, vI 4, vI 4, vU, vU, vU, vU], [], aq_h m s F c_4)) rfl rfl ?_
  refine am_E.go (t2 := (139, [vR y, vI 4, vI 4, vU, vU, vU, vU], [vI 4], aq_h m s F c_4)) rfl rfl ?_
  refine am_E.go (t2 := (140, [vR y, vI 4, vI 4, vU, vU, vU, vU], [vI 4, vI 4], aq_h m s F c_4)) rfl rfl ?_
  refine am_E.go (t2 := (171, [vR y, vI 4, vI 4, vU, vU, vU, vU], [], aq_h m s F c_4)) rfl rfl ?_
  refine am_E.go (t2 := (172, [vR y, vI 4, vI 4, vU, vU, vU, vU], [vI 0], aq_h m s F c_4)) rfl rfl ?_
  refine am_E.go (t2 := (173, [vR y, vI 4, vI 0, vU, vU, vU, vU], [], aq_h m s F c_4)) rfl rfl ?_
  refine am_E.go (t2 := (174, [vR y, vI 4, vI 0, vU, vU, vU, vU], [vI 0], aq_h m s F c_4)) rfl rfl ?_
  refine am_E.go (t2 := (175, [vR y, vI 4, vI 0, vI 0, vU, vU, vU], [], aq_h m s F c_4)) rfl rfl ?_
  refine am_E.go (t2 := (176, [vR y, vI 4, vI 0, vI 0, vU, vU, vU], [vI 0], aq_h m s F c_4)) rfl rfl ?_
  refine am_E.go (t2 := (177, [vR y, vI 4, vI 0, vI 0, vU, vU, vU], [vI 4, vI 0], aq_h m s F c_4)) rfl rfl ?_
  refine am_E.go (t2 := (180, [vR y, vI 4, vI 0, vI 0, vU, vU, vU], [], aq_h m s F c_4)) rfl rfl ?_
  refine am_E.go (t2 := (181, [vR y, vI 4, vI 0, vI 0, vU, vU, vU], [vR y], aq_h m s F c_4)) rfl rfl ?_
  refine aq_gf (v := vR (y + 13)) rfl (by omega) hFo (by decide) rfl ?_
  show am_E _ (184, [vR y, vI 4, vI 0, vI 0, vU, vU, vU], [vR (y + 13)], aq_h m s F c_4) _
  refine am_E.go (t2 := (185, [vR y, vI 4, vI 0, vI 0, vU, vU, vU], [vI 0, vR (y + 13)], aq_h m s F c_4)) rfl rfl ?_
  refine aq_al (ok := fun k => k == 1) (v := vI (c_4 (y + 13) 0)) rfl rfl (by omega) hG13 rfl (by decide) (by decide) rfl ?_
  rw [mtc_4.1]
  show am_E _ (186, [vR y, vI 4, vI 0, vI 0, vU, vU, vU], [vI 0], aq_h m s F c_4) _
  refine am_E.go (t2 := (189, [vR y, vI 4, vI 0, vI 0, vU, vU, vU], [], aq_h m s F c_4)) rfl rfl ?_
  refine am_E.go (t2 := (192, [vR y, vI 4, vI 1, vI 0, vU, vU, vU], [], aq_h m s F c_4)) rfl rfl ?_
  refine am_E.go (t2 := (193, [vR y, vI 4, vI 1, vI 0, vU, vU, vU], [vI 0], aq_h m s F c_4)) rfl rfl ?_
  refine am_E.go (t2 := (195, [vR y, vI 4, vI 1, vI 0, vI 0, vU, vU], [], aq_h m s F c_4)) rfl rfl ?_
  refine am_E.go (t2 := (196, [vR y, vI 4, vI 1, vI 0, vI 0, vU, vU], [vI 1], aq_h m s F c_4)) rfl rfl ?_
  refine am_E.go (t2 := (198, [vR y, vI 4, vI 1, vI 0, vI 0, vI 1, vU], [], aq_h m s F c_4)) rfl rfl ?_
  refine am_E.go (t2 := (200, [vR y, vI 4, vI 1, vI 0, vI 0, vI 1, vU], [vI 1], aq_h m s F c_4)) rfl rfl ?_
  refine am_E.go (t2 := (203, [vR y, vI 4, vI 1, vI 0, vI 0, vI 1, vU], [], aq_h m s F c_4)) rfl rfl ?_
  refine am_E.go (t2 := (204, [vR y, vI 4, vI 1, vI 0, vI 0, vI 1, vU], [vR y], aq_h m s F c_4)) rfl rfl ?_
  refine aq_gf (v := vR (y + 13)) rfl (by omega) hFo (by decide) rfl ?_
  show am_E _ (207, [vR y, vI 4, vI 1, vI 0, vI 0, vI 1, vU], [vR (y + 13)], aq_h m s F c_4) _
  refine am_E.go (t2 := (209, [vR y, vI 4, vI 1, vI 0, vI 0, vI 1, vU], [vI 0, vR (y + 13)], aq_h m s F c_4)) rfl rfl ?_
  refine am_E.go (t2 := (210, [vR y, vI 4, vI 1, vI 0, vI 0, vI 1, vU], [vI 1, vI 0, vR (y + 13)], aq_h m s F c_4)) rfl rfl ?_
  refine aq_as (kd := 1) rfl rfl (by omega) hG13 (by omega) (by omega) rfl rfl ?_
  show am_E _ (211, [vR y, vI 4, vI 1, vI 0, vI 0, vI 1, vU], [], aq_h m s F (aq_u c_4 (y + 13) 0 1)) _
  generalize hdc_5 : aq_u c_4 (y + 13) 0 1 = c_5
  have sc_5 := aq_smu sc_4 hdc_5 rfl
  have mtc_5 := mt_0 mtc_4 hdc_5
  refine am_E.go (t2 := (212, [vR y, vI 4, vI 1, vI 0, vI 0, vI 1, vU], [vR y], aq_h m s F c_5)) rfl rfl ?_
  refine aq_gf (v := vR (y + 18)) rfl (by omega) hFo (by decide) rfl ?_
  show am_E _ (215, [vR y, vI 4, vI 1, vI 0, vI 0, vI 1, vU], [vR (y + 18)], aq_h m s F c_5) _
  refine am_E.go (t2 := (217, [vR y, vI 4, vI 1, vI 0, vI 0, vI 1, vU], [vI 0, vR (y + 18)], aq_h m s F c_5)) rfl rfl ?_
  refine aq_al (ok := fun k => k == 0) (v := vI (c_5 (y + 18) 0)) rfl rfl (by omega) hG18 rfl (by decide) (by decide) rfl ?_
  rw [sc_5 (y + 18) (by omega), hA0]
  show am_E _ (218, [vR y, vI 4, vI 1, vI 0, vI 0, vI 1, vU], [vI 1], aq_h m s F c_5) _
  refine am_E.go (t2 := (220, [vR y, vI 4, vI 1, vI 0, vI 1, vI 1, vU], [], aq_h m s F c_5)) rfl rfl ?_
  refine am_E.go (t2 := (221, [vR y, vI 4, vI 1, vI 0, vI 1, vI 1, vU], [vR y], aq_h m s F c_5)) rfl rfl ?_
  refine aq_gf (v := vR (y + 13)) rfl (by omega) hFo (by decide) rfl ?_
  show am_E _ (224, [vR y, vI 4, vI 1, vI 0, vI 1, vI 1, vU], [vR (y + 13)], aq_h m s F c_5) _
  refine am_E.go (t2 := (226, [vR y, vI 4, vI 1, vI 0, vI 1, vI 1, vU], [vI 1, vR (y + 13)], aq_h m s F c_5)) rfl rfl ?_
  refine am_E.go (t2 := (227, [vR y, vI 4, vI 1, vI 0, vI 1, vI 1, vU], [vI 1, vI 1, vR (y + 13)], aq_h m s F c_5)) rfl rfl ?_
  refine aq_as (kd := 1) rfl rfl (by omega) hG13 (by omega) (by omega) rfl rfl ?_
  show am_E _ (228, [vR y, vI 4, vI 1, vI 0, vI 1, vI 1, vU], [], aq_h m s F (aq_u c_5 (y + 13) 1 1)) _
  generalize hdc_6 : aq_u c_5 (y + 13) 1 1 = c_6
  have sc_6 := aq_smu sc_5 hdc_6 rfl
  have mtc_6 := mt_1 mtc_5 hdc_6
  refine am_E.go (t2 := (229, [vR y, vI 4, vI 1, vI 0, vI 1, vI 1, vU], [vR y], aq_h m s F c_6)) rfl rfl ?_
  refine aq_gf (v := vR (y + 19)) rfl (by omega) hFo (by decide) rfl ?_
  show am_E _ (232, [vR y, vI 4, vI 1, vI 0, vI 1, vI 1, vU], [vR (y + 19)], aq_h m s F c_6) _
  refine am_E.go (t2 := (234, [vR y, vI 4, vI 1, vI 0, vI 1, vI 1, vU], [vI 1, vR (y + 19)], aq_h m s F c_6)) rfl rfl ?_
  refine aq_al (ok := fun k => k == 0) (v := vI (c_6 (y + 19) 1)) rfl rfl (by omega) hG19 rfl (by decide) (by decide) rfl ?_
  rw [sc_6 (y + 19) (by omega), hB1]
  show am_E _ (235, [vR y, vI 4, vI 1, vI 0, vI 1, vI 1, vU], [vI 0], aq_h m s F c_6) _
  refine am_E.go (t2 := (237, [vR y, vI 4, vI 1, vI 0, vI 0, vI 1, vU], [], aq_h m s F c_6)) rfl rfl ?_
  refine am_E.go (t2 := (239, [vR y, vI 4, vI 1, vI 0, vI 0, vI 1, vU], [vI 0], aq_h m s F c_6)) rfl rfl ?_
  refine am_E.go (t2 := (240, [vR y, vI 4, vI 1, vI 0, vI 0, vI 1, vU], [vI 0, vI 0], aq_h m s F c_6)) rfl rfl ?_
  refine am_E.go (t2 := (247, [vR y, vI 4, vI 1, vI 0, vI 0, vI 1, vU], [], aq_h m s F c_6)) rfl rfl ?_
  refine am_E.go (t2 := (248, [vR y, vI 4, vI 1, vI 0, vI 0, vI 1, vU], [vI 0], aq_h m s F c_6)) rfl rfl ?_
  refine am_E.go (t2 := (250, [vR y, vI 4, vI 1, vI 0, vI 0, vI 0, vU], [], aq_h m s F c_6)) rfl rfl ?_
  refine am_E.go (t2 := (198, [vR y, vI 4, vI 1, vI 0, vI 0, vI 0, vU], [], aq_h m s F c_6)) rfl rfl ?_
  refine am_E.go (t2 := (200, [vR y, vI 4, vI 1, vI 0, vI 0, vI 0, vU], [vI 0], aq_h m s F c_6)) rfl rfl ?_
  refine am_E.go (t2 := (253, [vR y, vI 4, vI 1, vI 0, vI 0, vI 0, vU], [], aq_h m s F c_6)) rfl rfl ?_
  refine am_E.go (t2 := (256, [vR y, vI 4, vI 1, vI 1, vI 0, vI 0, vU], [], aq_h m s F c_6)) rfl rfl ?_
  refine am_E.go (t2 := (175, [vR y, vI 4, vI 1, vI 1, vI 0, vI 0, vU], [], aq_h m s F c_6)) rfl rfl ?_
  refine am_E.go (t2 := (176, [vR y, vI 4, vI 1, vI 1, vI 0, vI 0, vU], [vI 1], aq_h m s F c_6)) rfl rfl ?_
  refine am_E.go (t2 := (177, [vR y, vI 4, vI 1, vI 1, vI 0, vI 0, vU], [vI 4, vI 1], aq_h m s F c_6)) rfl rfl ?_
  refine am_E.go (t2 := (180, [vR y, vI 4, vI 1, vI 1, vI 0, vI 0, vU], [], aq_h m s F c_6)) rfl rfl ?_
  refine am_E.go (t2 := (181, [vR y, vI 4, vI 1, vI 1, vI 0, vI 0, vU], [vR y], aq_h m s F c_6)) rfl rfl ?_
  refine aq_gf (v := vR (y + 13)) rfl (by omega) hFo (by decide) rfl ?_
  show am_E _ (184, [vR y, vI 4, vI 1, vI 1, vI 0, vI 0, vU], [vR (y + 13)], aq_h m s F c_6) _
  refine am_E.go (t2 := (185, [vR y, vI 4, vI 1, vI 1, vI 0, vI 0, vU], [vI 1, vR (y + 13)], aq_h m s F c_6)) rfl rfl ?_
  refine aq_al (ok := fun k => k == 1) (v := vI (c_6 (y + 13) 1)) rfl rfl (by omega) hG13 rfl (by decide) (by decide) rfl ?_
  rw [mtc_6.2.1]
  show am_E _ (186, [vR y, vI 4, vI 1, vI 1, vI 0, vI 0, vU], [vI 1], aq_h m s F c_6) _
  refine am_E.go (t2 := (253, [vR y, vI 4, vI 1, vI 1, vI 0, vI 0, vU], [], aq_h m s F c_6)) rfl rfl ?_
  refine am_E.go (t2 := (256, [vR y, vI 4, vI 1, vI 2, vI 0, vI 0, vU], [], aq_h m s F c_6)) rfl rfl ?_
  refine am_E.go (t2 := (175, [vR y, vI 4, vI 1, vI 2, vI 0, vI 0, vU], [], aq_h m s F c_6)) rfl rfl ?_
  refine am_E.go (t2 := (176, [vR y, vI 4, vI 1, vI 2, vI 0, vI 0, vU], [vI 2], aq_h m s F c_6)) rfl rfl ?_
  refine am_E.go (t2 := (177, [vR y, vI 4, vI 1, vI 2, vI 0, vI 0, vU], [vI 4, vI 2], aq_h m s F c_6)) rfl rfl ?_
  refine am_E.go (t2 := (180, [vR y, vI 4, vI 1, vI 2, vI 0, vI 0, vU], [], aq_h m s F c_6)) rfl rfl ?_
  refine am_E.go (t2 := (181, [vR y, vI 4, vI 1, vI 2, vI 0, vI 0, vU], [vR y], aq_h m s F c_6)) rfl rfl ?_
  refine aq_gf (v := vR (y + 13)) rfl (by omega) hFo (by decide) rfl ?_
  show am_E _ (184, [vR y, vI 4, vI 1, vI 2, vI 0, vI 0, vU], [vR (y + 13)], aq_h m s F c_6) _
  refine am_E.go (t2 := (185, [vR y, vI 4, vI 1, vI 2, vI 0, vI 0, vU], [vI 2, vR (y + 13)], aq_h m s F c_6)) rfl rfl ?_
  refine aq_al (ok := fun k => k == 1) (v := vI (c_6 (y + 13) 2)) rfl rfl (by omega) hG13 rfl (by decide) (by decide) rfl ?_
  rw [mtc_6.2.2.1]
  show am_E _ (186, [vR y, vI 4, vI 1, vI 2, vI 0, vI 0, vU], [vI 0], aq_h m s F c_6) _
  refine am_E.go (t2 := (189, [vR y, vI 4, vI 1, vI 2, vI 0, vI 0, vU], [], aq_h m s F c_6)) rfl rfl ?_
  refine am_E.go (t2 := (192, [vR y, vI 4, vI 2, vI 2, vI 0, vI 0, vU], [], aq_h m s F c_6)) rfl rfl ?_
  refine am_E.go (t2 := (193, [vR y, vI 4, vI 2, vI 2, vI 0, vI 0, vU], [vI 2], aq_h m s F c_6)) rfl rfl ?_
  refine am_E.go (t2 := (195, [vR y, vI 4, vI 2, vI 2, vI 2, vI 0, vU], [], aq_h m s F c_6)) rfl rfl ?_
  refine am_E.go (t2 := (196, [vR y, vI 4, vI 2, vI 2, vI 2, vI 0, vU], [vI 1], aq_h m s F c_6)) rfl rfl ?_
  refine am_E.go (t2 := (198, [vR y, vI 4, vI 2, vI 2, vI 2, vI 1, vU], [], aq_h m s F c_6)) rfl rfl ?_
  refine am_E.go (t2 := (200, [vR y, vI 4, vI 2, vI 2, vI 2, vI 1, vU], [vI 1], aq_h m s F c_6)) rfl rfl ?_
  refine am_E.go (t2 := (203, [vR y, vI 4, vI 2, vI 2, vI 2, vI 1, vU], [], aq_h m s F c_6)) rfl rfl ?_
  refine am_E.go (t2 := (204, [vR y, vI 4, vI 2, vI 2, vI 2, vI 1, vU], [vR y], aq_h m s F c_6)) rfl rfl ?_
  refine aq_gf (v := vR (y + 13)) rfl (by omega) hFo (by decide) rfl ?_
  show am_E _ (207, [vR y, vI 4, vI 2, vI 2, vI 2, vI 1, vU], [vR (y + 13)], aq_h m s F c_6) _
  refine am_E.go (t2 := (209, [vR y, vI 4, vI 2, vI 2, vI 2, vI 1, vU], [vI 2, vR (y + 13)], aq_h m s F c_6)) rfl rfl ?_
  refine am_E.go (t2 := (210, [vR y, vI 4, vI 2, vI 2, vI 2, vI 1, vU], [vI 1, vI 2, vR (y + 13)], aq_h m s F c_6)) rfl rfl ?_
  refine aq_as (kd := 1) rfl rfl (by omega) hG13 (by omega) (by omega) rfl rfl ?_
  show am_E _ (211, [vR y, vI 4, vI 2, vI 2, vI 2, vI 1, vU], [], aq_h m s F (aq_u c_6 (y + 13) 2 1)) _
  generalize hdc_7 : aq_u c_6 (y + 13) 2 1 = c_7
  have sc_7 := aq_smu sc_6 hdc_7 rfl
  have mtc_7 := mt_2 mtc_6 hdc_7
  refine am_E.go (t2 := (212, [vR y, vI 4, vI 2, vI 2, vI 2, vI 1, vU], [vR y], aq_h m s F c_7)) rfl rfl ?_
  refine aq_gf (v := vR (y + 18)) rfl (by omega) hFo (by decide) rfl ?_
  show am_E _ (215, [vR y, vI 4, vI 2, vI 2, vI 2, vI 1, vU], [vR (y + 18)], aq_h m s F c_7) _
  refine am_E.go (t2 := (217, [vR y, vI 4, vI 2, vI 2, vI 2, vI 1, vU], [vI 2, vR (y + 18)], aq_h m s F c_7)) rfl rfl ?_
  refine aq_al (ok := fun k => k == 0) (v := vI (c_7 (y + 18) 2)) rfl rfl (by omega) hG18 rfl (by decide) (by decide) rfl ?_
  rw [sc_7 (y + 18) (by omega), hA2]
  show am_E _ (218, [vR y, vI 4, vI 2, vI 2, vI 2, vI 1, vU], [vI 3], aq_h m s F c_7) _
  refine am_E.go (t2 := (220, [vR y, vI 4, vI 2, vI 2, vI 3, vI 1, vU], [], aq_h m s F c_7)) rfl rfl ?_
  refine am_E.go (t2 := (221, [vR y, vI 4, vI 2, vI 2, vI 3, vI 1, vU], [vR y], aq_h m s F c_7)) rfl rfl ?_
  refine aq_gf (v := vR (y + 13)) rfl (by omega) hFo (by decide) rfl ?_
  show am_E _ (224, [vR y, vI 4, vI 2, vI 2, vI 3, vI 1, vU], [vR (y + 13)], aq_h m s F c_7) _
  refine am_E.go (t2 := (226, [vR y, vI 4, vI 2, vI 2, vI 3, vI 1, vU], [vI 3, vR (y + 13)], aq_h m s F c_7)) rfl rfl ?_
  refine am_E.go (t2 := (227, [vR y, vI 4, vI 2, vI 2, vI 3, vI 1, vU], [vI 1, vI 3, vR (y + 13)], aq_h m s F c_7)) rfl rfl ?_
  refine aq_as (kd := 1) rfl rfl (by omega) hG13 (by omega) (by omega) rfl rfl ?_
  show am_E _ (228, [vR y, vI 4, vI 2, vI 2, vI 3, vI 1, vU], [], aq_h m s F (aq_u c_7 (y + 13) 3 1)) _
  generalize hdc_8 : aq_u c_7 (y + 13) 3 1 = c_8
  have sc_8 := aq_smu sc_7 hdc_8 rfl
  have mtc_8 := mt_3 mtc_7 hdc_8
  refine am_E.go (t2 := (229, [vR y, vI 4, vI 2, vI 2, vI 3, vI 1, vU], [vR y], aq_h m s F c_8)) rfl rfl ?_
  refine aq_gf (v := vR (y + 19)) rfl (by omega) hFo (by decide) rfl ?_
  show am_E _ (232, [vR y, vI 4, vI 2, vI 2, vI 3, vI 1, vU], [vR (y + 19)], aq_h m s F c_8) _
  refine am_E.go (t2 := (234, [vR y, vI 4, vI 2, vI 2, vI 3, vI 1, vU], [vI 3, vR (y + 19)], aq_h m s F c_8)) rfl rfl ?_
  refine aq_al (ok := fun k => k == 0) (v := vI (c_8 (y + 19) 3)) rfl rfl (by omega) hG19 rfl (by decide) (by decide) rfl ?_
  rw [sc_8 (y + 19) (by omega), hB3]
  show am_E _ (235, [vR y, vI 4, vI 2, vI 2, vI 3, vI 1, vU], [vI 2], aq_h m s F c_8) _
  refine am_E.go (t2 := (237, [vR y, vI 4, vI 2, vI 2, vI 2, vI 1, vU], [], aq_h m s F c_8)) rfl rfl ?_
  refine am_E.go (t2 := (239, [vR y, vI 4, vI 2, vI 2, vI 2, vI 1, vU], [vI 2], aq_h m s F c_8)) rfl rfl ?_
  refine am_E.go (t2 := (240, [vR y, vI 4, vI 2, vI 2, vI 2, vI 1, vU], [vI 2, vI 2], aq_h m s F c_8)) rfl rfl ?_
  refine am_E.go (t2 := (247, [vR y, vI 4, vI 2, vI 2, vI 2, vI 1, vU], [], aq_h m s F c_8)) rfl rfl ?_
  refine am_E.go (t2 := (248, [vR y, vI 4, vI 2, vI 2, vI 2, vI 1, vU], [vI 0], aq_h m s F c_8)) rfl rfl ?_
  refine am_E.go (t2 := (250, [vR y, vI 4, vI 2, vI 2, vI 2, vI 0, vU], [], aq_h m s F c_8)) rfl rfl ?_
  refine am_E.go (t2 := (198, [vR y, vI 4, vI 2, vI 2, vI 2, vI 0, vU], [], aq_h m s F c_8)) rfl rfl ?_
  refine am_E.go (t2 := (200, [vR y, vI 4, vI 2, vI 2, vI 2, vI 0, vU], [vI 0], aq_h m s F c_8)) rfl rfl ?_
  refine am_E.go (t2 := (253, [vR y, vI 4, vI 2, vI 2, vI 2, vI 0, vU], [], aq_h m s F c_8)) rfl rfl ?_
  refine am_E.go (t2 := (256, [vR y, vI 4, vI 2, vI 3, vI 2, vI 0, vU], [], aq_h m s F c_8)) rfl rfl ?_
  refine am_E.go (t2 := (175, [vR y, vI 4, vI 2, vI 3, vI 2, vI 0, vU], [], aq_h m s F c_8)) rfl rfl ?_
  refine am_E.go (t2 := (176, [vR y, vI 4, vI 2, vI 3, vI 2, vI 0, vU], [vI 3], aq_h m s F c_8)) rfl rfl ?_
  refine am_E.go (t2 := (177, [vR y, vI 4, vI 2, vI 3, vI 2, vI 0, vU], [vI 4, vI 3], aq_h m s F c_8)) rfl rfl ?_
  refine am_E.go (t2 := (180, [vR y, vI 4, vI 2, vI 3, vI 2, vI 0, vU], [], aq_h m s F c_8)) rfl rfl ?_
  refine am_E.go (t2 := (181, [vR y, vI 4, vI 2, vI 3, vI 2, vI 0, vU], [vR y], aq_h m s F c_8)) rfl rfl ?_
  refine aq_gf (v := vR (y + 13)) rfl (by omega) hFo (by decide) rfl ?_
  show am_E _ (184, [vR y, vI 4, vI 2, vI 3, vI 2, vI 0, vU], [vR (y + 13)], aq_h m s F c_8) _
  refine am_E.go (t2 := (185, [vR y, vI 4, vI 2, vI 3, vI 2, vI 0, vU], [vI 3, vR (y + 13)], aq_h m s F c_8)) rfl rfl ?_
  refine aq_al (ok := fun k => k == 1) (v := vI (c_8 (y + 13) 3)) rfl rfl (by omega) hG13 rfl (by decide) (by decide) rfl ?_
  rw [mtc_8.2.2.2]
  show am_E _ (186, [vR y, vI 4, vI 2, vI 3, vI 2, vI 0, vU], [vI 1], aq_h m s F c_8) _
  refine am_E.go (t2 := (253, [vR y, vI 4, vI 2, vI 3, vI 2, vI 0, vU], [], aq_h m s F c_8)) rfl rfl ?_
  refine am_E.go (t2 := (256, [vR y, vI 4, vI 2, vI 4, vI 2, vI 0, vU], [], aq_h m s F c_8)) rfl rfl ?_
  refine am_E.go (t2 := (175, [vR y, vI 4, vI 2, vI 4, vI 2, vI 0, vU], [], aq_h m s F c_8)) rfl rfl ?_
  refine am_E.go (t2 := (176, [vR y, vI 4, vI 2, vI 4, vI 2, vI 0, vU], [vI 4], aq_h m s F c_8)) rfl rfl ?_
  refine am_E.go (t2 := (177, [vR y, vI 4, vI 2, vI 4, vI 2, vI 0, vU], [vI 4, vI 4], aq_h m s F c_8)) rfl rfl ?_
  refine am_E.go (t2 := (259, [vR y, vI 4, vI 2, vI 4, vI 2, vI 0, vU], [], aq_h m s F c_8)) rfl rfl ?_
  refine am_E.go (t2 := (260, [vR y, vI 4, vI 2, vI 4, vI 2, vI 0, vU], [vI 2], aq_h m s F c_8)) rfl rfl ?_
  refine am_E.ret rfl rfl ?_
  exact ⟨_, rfl, sc_8, rfl⟩

theorem qm_fo_4001 {m s : Nat} {F : aq_F} {c : aq_C} {y : Nat} (hO : mo_0 m F y) (hA0 : c (y + 18) 0 = 1) (hA1 : c (y + 18) 1 = 0) (hA2 : c (y + 18) 2 = 3) (hA3 : c (y + 18) 3 = 2) (hB0 : c (y + 19) 0 = 3) (hB1 : c (y + 19) 1 = 2) (hB2 : c (y + 19) 2 = 1) (hB3 : c (y + 19) 3 = 0) : am_E ac_X5_formOf (0, [vR y, vI 4, vU, vU, vU, vU, vU], [], aq_h m s F c) (aq_Z m s F (fun a => a = y + 13) c (fun r _ => r = some (vI 1))) := by
  obtain ⟨hm, hFo, hG5, hG6, hG7, hG8, hG9, hG10, hG11, hG12, hG13, hG14, hG15, hG16, hG17, hG18, hG19, hG20, hG21, hG22, hG23⟩ := hO
  have hmt : mt_ y (c (y + 13) 0) (c (y + 13) 1) (c (y + 13) 2) (c (y + 13) 3) c := ⟨rfl, rfl, rfl, rfl⟩
  refine am_E.go (t2 := (1, [vR y, vI 4, vU, vU, vU, vU, vU], [vI 0], aq_h m s F c)) rfl rfl ?_
  refine am_E.go (t2 := (2, [vR y, vI 4, vI 0, vU, vU, vU, vU], [], aq_h m s F c)) rfl rfl ?_
  refine am_E.go (t2 := (3, [vR y, vI 4, vI 0, vU, vU, vU, vU], [vI 0], aq_h m s F c)) rfl rfl ?_
  refine am_E.go (t2 := (4, [vR y, vI 4, vI 0, vU, vU, vU, vU], [vI 4, vI 0], aq_h m s F c)) rfl rfl ?_
  refine am_E.go (t2 := (7, [vR y, vI 4, vI 0, vU, vU, vU, vU], [], aq_h m s F c)) rfl rfl ?_
  refine am_E.go (t2 := (8, [vR y, vI 4, vI 0, vU, vU, vU, vU], [vR y], aq_h m s F c)) rfl rfl ?_
  refine aq_gf (v := vR (y + 13)) rfl (by omega) hFo (by decide) rfl ?_
  show am_E _ (11, [vR y, vI 4, vI 0, vU, vU, vU, vU], [vR (y + 13)], aq_h m s F c) _
  refine am_E.go (t2 := (12, [vR y, vI 4, vI 0, vU, vU, vU, vU], [vI 0, vR (y + 13)], aq_h m s F c)) rfl rfl ?_
  refine am_E.go (t2 := (13, [vR y, vI 4, vI 0, vU, vU, vU, vU], [vI 0, vI 0, vR (y + 13)], aq_h m s F c)) rfl rfl ?_
  refine aq_as (kd := 1) rfl rfl (by omega) hG13 (by omega) (by omega) rfl rfl ?_
  show am_E _ (14, [vR y, vI 4, vI 0, vU, vU, vU, vU], [], aq_h m s F (aq_u c (y + 13) 0 0)) _
  generalize hdc_1 : aq_u c (y + 13) 0 0 = c_1
  have sc_1 := aq_smu (aq_sm0 (c := c) (S := fun a => a = y + 13)) hdc_1 rfl
  have mtc_1 := mt_0 hmt hdc_1
  refine am_E.go (t2 := (17, [vR y, vI 4, vI 1, vU, vU, vU, vU], [], aq_h m s F c_1)) rfl rfl ?_
  refine am_E.go (t2 := (2, [vR y, vI 4, vI 1, vU, vU, vU, vU], [], aq_h m s F c_1)) rfl rfl ?_
  refine am_E.go (t2 := (3, [vR y, vI 4, vI 1, vU, vU, vU, vU], [vI 1], aq_h m s F c_1)) rfl rfl ?_
  refine am_E.go (t2 := (4, [vR y, vI 4, vI 1, vU, vU, vU, vU], [vI 4, vI 1], aq_h m s F c_1)) rfl rfl ?_
  refine am_E.go (t2 := (7, [vR y, vI 4, vI 1, vU, vU, vU, vU], [], aq_h m s F c_1)) rfl rfl ?_
  refine am_E.go (t2 := (8, [vR y, vI 4, vI 1, vU, vU, vU, vU], [vR y], aq_h m s F c_1)) rfl rfl ?_
  refine aq_gf (v := vR (y + 13)) rfl (by omega) hFo (by decide) rfl ?_
  show am_E _ (11, [vR y, vI 4, vI 1, vU, vU, vU, vU], [vR (y + 13)], aq_h m s F c_1) _
  refine am_E.go (t2 := (12, [vR y, vI 4, vI 1, vU, vU, vU, vU], [vI 1, vR (y + 13)], aq_h m s F c_1)) rfl rfl ?_
  refine am_E.go (t2 := (13, [vR y, vI 4, vI 1, vU, vU, vU, vU], [vI 0, vI 1, vR (y + 13)], aq_h m s F c_1)) rfl rfl ?_
  refine aq_as (kd := 1) rfl rfl (by omega) hG13 (by omega) (by omega) rfl rfl ?_
  show am_E _ (14, [vR y, vI 4, vI 1, vU, vU, vU, vU], [], aq_h m s F (aq_u c_1 (y + 13) 1 0)) _
  generalize hdc_2 : aq_u c_1 (y + 13) 1 0 = c_2
  have sc_2 := aq_smu sc_1 hdc_2 rfl
  have mtc_2 := mt_1 mtc_1 hdc_2
  refine am_E.go (t2 := (17, [vR y, vI 4, vI 2, vU, vU, vU, vU], [], aq_h m s F c_2)) rfl rfl ?_
  refine am_E.go (t2 := (2, [vR y, vI 4, vI 2, vU, vU, vU, vU], [], aq_h m s F c_2)) rfl rfl ?_
  refine am_E.go (t2 := (3, [vR y, vI 4, vI 2, vU, vU, vU, vU], [vI 2], aq_h m s F c_2)) rfl rfl ?_
  refine am_E.go (t2 := (4, [vR y, vI 4, vI 2, vU, vU, vU, vU], [vI 4, vI 2], aq_h m s F c_2)) rfl rfl ?_
  refine am_E.go (t2 := (7, [vR y, vI 4, vI 2, vU, vU, vU, vU], [], aq_h m s F c_2)) rfl rfl ?_
  refine am_E.go (t2 := (8, [vR y, vI 4, vI 2, vU, vU, vU, vU], [vR y], aq_h m s F c_2)) rfl rfl ?_
  refine aq_gf (v := vR (y + 13)) rfl (by omega) hFo (by decide) rfl ?_
  show am_E _ (11, [vR y, vI 4, vI 2, vU, vU, vU, vU], [vR (y + 13)], aq_h m s F c_2) _
  refine am_E.go (t2 := (12, [vR y, vI 4, vI 2, vU, vU, vU, vU], [vI 2, vR (y + 13)], aq_h m s F c_2)) rfl rfl ?_
  refine am_E.go (t2 := (13, [vR y, vI 4, vI 2, vU, vU, vU, vU], [vI 0, vI 2, vR (y + 13)], aq_h m s F c_2)) rfl rfl ?_
  refine aq_as (kd := 1) rfl rfl (by omega) hG13 (by omega) (by omega) rfl rfl ?_
  show am_E _ (14, [vR y, vI 4, vI 2, vU, vU, vU, vU], [], aq_h m s F (aq_u c_2 (y + 13) 2 0)) _
  generalize hdc_3 : aq_u c_2 (y + 13) 2 0 = c_3
  have sc_3 := aq_smu sc_2 hdc_3 rfl
  have mtc_3 := mt_2 mtc_2 hdc_3
  refine am_E.go (t2 := (17, [vR y, vI 4, vI 3, vU, vU, vU, vU], [], aq_h m s F c_3)) rfl rfl ?_
  refine am_E.go (t2 := (2, [vR y, vI 4, vI 3, vU, vU, vU, vU], [], aq_h m s F c_3)) rfl rfl ?_
  refine am_E.go (t2 := (3, [vR y, vI 4, vI 3, vU, vU, vU, vU], [vI 3], aq_h m s F c_3)) rfl rfl ?_
  refine am_E.go (t2 := (4, [vR y, vI 4, vI 3, vU, vU, vU, vU], [vI 4, vI 3], aq_h m s F c_3)) rfl rfl ?_
  refine am_E.go (t2 := (7, [vR y, vI 4, vI 3, vU, vU, vU, vU], [], aq_h m s F c_3)) rfl rfl ?_
  refine am_E.go (t2 := (8, [vR y, vI 4, vI 3, vU, vU, vU, vU], [vR y], aq_h m s F c_3)) rfl rfl ?_
  refine aq_gf (v := vR (y + 13)) rfl (by omega) hFo (by decide) rfl ?_
  show am_E _ (11, [vR y, vI 4, vI 3, vU, vU, vU, vU], [vR (y + 13)], aq_h m s F c_3) _
  refine am_E.go (t2 := (12, [vR y, vI 4, vI 3, vU, vU, vU, vU], [vI 3, vR (y + 13)], aq_h m s F c_3)) rfl rfl ?_
  refine am_E.go (t2 := (13, [vR y, vI 4, vI 3, vU, vU, vU, vU], [vI 0, vI 3, vR (y + 13)], aq_h m s F c_3)) rfl rfl ?_
  refine aq_as (kd := 1) rfl rfl (by omega) hG13 (by omega) (by omega) rfl rfl ?_
  show am_E _ (14, [vR y, vI 4, vI 3, vU, vU, vU, vU], [], aq_h m s F (aq_u c_3 (y + 13) 3 0)) _
  generalize hdc_4 : aq_u c_3 (y + 13) 3 0 = c_4
  have sc_4 := aq_smu sc_3 hdc_4 rfl
  have mtc_4 := mt_3 mtc_3 hdc_4
  refine am_E.go (t2 := (17, [vR y, vI 4, vI 4, vU, vU, vU, vU], [], aq_h m s F c_4)) rfl rfl ?_
  refine am_E.go (t2 := (2, [vR y, vI 4, vI 4, vU, vU, vU, vU], [], aq_h m s F c_4)) rfl rfl ?_
  refine am_E.go (t2 := (3, [vR y, vI 4, vI 4, vU, vU, vU, vU], [vI 4], aq_h m s F c_4)) rfl rfl ?_
  refine am_E.go (t2 := (4, [vR y, vI 4, vI 4, vU, vU, vU, vU], [vI 4, vI 4], aq_h m s F c_4)) rfl rfl ?_
  refine am_E.go (t2 := (20, [vR y, vI 4, vI 4, vU, vU, vU, vU], [], aq_h m s F c_4)) rfl rfl ?_
  refine am_E.go (t2 := (21, [vR y, vI 4, vI 4, vU, vU, vU, vU], [vI 0], aq_h m s F c_4)) rfl rfl ?_
  refine am_E.go (t2 := (22, [vR y, vI 4, vI 0, vU, vU, vU, vU], [], aq_h m s F c_4)) rfl rfl ?_
  refine am_E.go (t2 := (23, [vR y, vI 4, vI 0, vU, vU, vU, vU], [vI 0], aq_h m s F c_4)) rfl rfl ?_
  refine am_E.go (t2 := (24, [vR y, vI 4, vI 0, vU, vU, vU, vU], [vI 4, vI 0], aq_h m s F c_4)) rfl rfl ?_
  refine am_E.go (t2 := (27, [vR y, vI 4, vI 0, vU, vU, vU, vU], [], aq_h m s F c_4)) rfl rfl ?_
  refine am_E.go (t2 := (28, [vR y, vI 4, vI 0, vU, vU, vU, vU], [vR y], aq_h m s F c_4)) rfl rfl ?_
  refine aq_gf (v := vR (y + 18)) rfl (by omega) hFo (by decide) rfl ?_
  show am_E _ (31, [vR y, vI 4, vI 0, vU, vU, vU, vU], [vR (y + 18)], aq_h m s F c_4) _
  refine am_E.go (t2 := (32, [vR y, vI 4, vI 0, vU, vU, vU, vU], [vI 0, vR (y + 18)], aq_h m s F c_4)) rfl rfl ?_
  refine aq_al (ok := fun k => k == 0) (v := vI (c_4 (y + 18) 0)) rfl rfl (by omega) hG18 rfl (by decide) (by decide) rfl ?_
  rw [sc_4 (y + 18) (by omega), hA0]
  show am_E _ (33, [vR y, vI 4, vI 0, vU, vU, vU, vU], [vI 1], aq_h m s F c_4) _
  refine am_E.go (t2 := (34, [vR y, vI 4, vI 0, vU, vU, vU, vU], [vI 4, vI 1], aq_h m s F c_4)) rfl rfl ?_
  refine am_E.go (t2 := (130, [vR y, vI 4, vI 0, vU, vU, vU, vU], [], aq_h m s F c_4)) rfl rfl ?_
  refine am_E.go (t2 := (133, [vR y, vI 4, vI 1, vU, vU, vU, vU], [], aq_h m s F c_4)) rfl rfl ?_
  refine am_E.go (t2 := (22, [vR y, vI 4, vI 1, vU, vU, vU, vU], [], aq_h m s F c_4)) rfl rfl ?_
  refine am_E.go (t2 := (23, [vR y, vI 4, vI 1, vU, vU, vU, vU], [vI 1], aq_h m s F c_4)) rfl rfl ?_
  refine am_E.go (t2 := (24, [vR y, vI 4, vI 1, vU, vU, vU, vU], [vI 4, vI 1], aq_h m s F c_4)) rfl rfl ?_
  refine am_E.go (t2 := (27, [vR y, vI 4, vI 1, vU, vU, vU, vU], [], aq_h m s F c_4)) rfl rfl ?_
  refine am_E.go (t2 := (28, [vR y, vI 4, vI 1, vU, vU, vU, vU], [vR y], aq_h m s F c_4)) rfl rfl ?_
  refine aq_gf (v := vR (y + 18)) rfl (by omega) hFo (by decide) rfl ?_
  show am_E _ (31, [vR y, vI 4, vI 1, vU, vU, vU, vU], [vR (y + 18)], aq_h m s F c_4) _
  refine am_E.go (t2 := (32, [vR y, vI 4, vI 1, vU, vU, vU, vU], [vI 1, vR (y + 18)], aq_h m s F c_4)) rfl rfl ?_
  refine aq_al (ok := fun k => k == 0) (v := vI (c_4 (y + 18) 1)) rfl rfl (by omega) hG18 rfl (by decide) (by decide) rfl ?_
  rw [sc_4 (y + 18) (by omega), hA1]
  show am_E _ (33, [vR y, vI 4, vI 1, vU, vU, vU, vU], [vI 0], aq_h m s F c_4) _
  refine am_E.go (t2 := (34, [vR y, vI 4, vI 1, vU, vU, vU, vU], [vI 4, vI 0], aq_h m s F c_4)) rfl rfl ?_
  refine am_E.go (t2 := (130, [vR y, vI 4, vI 1, vU, vU, vU, vU], [], aq_h m s F c_4)) rfl rfl ?_
  refine am_E.go (t2 := (133, [vR y, vI 4, vI 2, vU, vU, vU, vU], [], aq_h m s F c_4)) rfl rfl ?_
  refine am_E.go (t2 := (22, [vR y, vI 4, vI 2, vU, vU, vU, vU], [], aq_h m s F c_4)) rfl rfl ?_
  refine am_E.go (t2 := (23, [vR y, vI 4, vI 2, vU, vU, vU, vU], [vI 2], aq_h m s F c_4)) rfl rfl ?_
  refine am_E.go (t2 := (24, [vR y, vI 4, vI 2, vU, vU, vU, vU], [vI 4, vI 2], aq_h m s F c_4)) rfl rfl ?_
  refine am_E.go (t2 := (27, [vR y, vI 4, vI 2, vU, vU, vU, vU], [], aq_h m s F c_4)) rfl rfl ?_
  refine am_E.go (t2 := (28, [vR y, vI 4, vI 2, vU, vU, vU, vU], [vR y], aq_h m s F c_4)) rfl rfl ?_
  refine aq_gf (v := vR (y + 18)) rfl (by omega) hFo (by decide) rfl ?_
  show am_E _ (31, [vR y, vI 4, vI 2, vU, vU, vU, vU], [vR (y + 18)], aq_h m s F c_4) _
  refine am_E.go (t2 := (32, [vR y, vI 4, vI 2, vU, vU, vU, vU], [vI 2, vR (y + 18)], aq_h m s F c_4)) rfl rfl ?_
  refine aq_al (ok := fun k => k == 0) (v := vI (c_4 (y + 18) 2)) rfl rfl (by omega) hG18 rfl (by decide) (by decide) rfl ?_
  rw [sc_4 (y + 18) (by omega), hA2]
  show am_E _ (33, [vR y, vI 4, vI 2, vU, vU, vU, vU], [vI 3], aq_h m s F c_4) _
  refine am_E.go (t2 := (34, [vR y, vI 4, vI 2, vU, vU, vU, vU], [vI 4, vI 3], aq_h m s F c_4)) rfl rfl ?_
  refine am_E.go (t2 := (130, [vR y, vI 4, vI 2, vU, vU, vU, vU], [], aq_h m s F c_4)) rfl rfl ?_
  refine am_E.go (t2 := (133, [vR y, vI 4, vI 3, vU, vU, vU, vU], [], aq_h m s F c_4)) rfl rfl ?_
  refine am_E.go (t2 := (22, [vR y, vI 4, vI 3, vU, vU, vU, vU], [], aq_h m s F c_4)) rfl rfl ?_
  refine am_E.go (t2 := (23, [vR y, vI 4, vI 3, vU, vU, vU, vU], [vI 3], aq_h m s F c_4)) rfl rfl ?_
  refine am_E.go (t2 := (24, [vR y, vI 4, vI 3, vU, vU, vU, vU], [vI 4, vI 3], aq_h m s F c_4)) rfl rfl ?_
  refine am_E.go (t2 := (27, [vR y, vI 4, vI 3, vU, vU, vU, vU], [], aq_h m s F c_4)) rfl rfl ?_
  refine am_E.go (t2 := (28, [vR y, vI 4, vI 3, vU, vU, vU, vU], [vR y], aq_h m s F c_4)) rfl rfl ?_
  refine aq_gf (v := vR (y + 18)) rfl (by omega) hFo (by decide) rfl ?_
  show am_E _ (31, [vR y, vI 4, vI 3, vU, vU, vU, vU], [vR (y + 18)], aq_h m s F c_4) _
  refine am_E.go (t2 := (32, [vR y, vI 4, vI 3, vU, vU, vU, vU], [vI 3, vR (y + 18)], aq_h m s F c_4)) rfl rfl ?_
  refine aq_al (ok := fun k => k == 0) (v := vI (c_4 (y + 18) 3)) rfl rfl (by omega) hG18 rfl (by decide) (by decide) rfl ?_
  rw [sc_4 (y + 18) (by omega), hA3]
  show am_E _ (33, [vR y, vI 4, vI 3, vU, vU, vU, vU], [vI 2], aq_h m s F c_4) _
  refine am_E.go (t2 := (34, [vR y, vI 4, vI 3, vU, vU, vU, vU], [vI 4, vI 2], aq_h m s F c_4)) rfl rfl ?_
  refine am_E.go (t2 := (130, [vR y, vI 4, vI 3, vU, vU, vU, vU], [], aq_h m s F c_4)) rfl rfl ?_
  refine am_E.go (t2 := (133, [vR y, vI 4, vI 4, vU, vU, vU, vU], [], aq_h m s F c_4)) rfl rfl ?_
  refine am_E.go (t2 := (22, [vR y, vI 4, vI 4, vU, vU, vU, vU], [], aq_h m s F c_4)) rfl rfl ?_
  refine am_E.go (t2 := (23, [vR y, vI 4, vI 4, vU, vU, vU, vU], [vI 4], aq_h m s F c_4)) rfl rfl ?_
  refine am_E.go (t2 := (24, [vR y, vI 4, vI 4, vU, vU, vU, vU], [vI 4, vI 4], aq_h m s F c_4)) rfl rfl ?_
  refine am_E.go (t2 := (136, [vR y, vI 4, vI 4, vU, vU, vU, vU], [], aq_h m s F c_4)) rfl rfl ?_
  refine am_E.go (t2 := (137, [vR y, vI 4, vI 4, vU, vU, vU, vU], [vI 0], aq_h m s F c_4)) rfl rfl ?_
  refine am_E.go (t2 := (138, [vR y, vI 4, vI 0, vU, vU, vU, vU], [], aq_h m s F c_4)) rfl rfl ?_
  refine am_E.go (t2 := (139, [vR y, vI 4, vI 0, vU, vU, vU, vU], [vI 0], aq_h m s F c_4)) rfl rfl ?_
  refine am_E.go (t2 := (140, [vR y, vI 4, vI 0, vU, vU, vU, vU], [vI 4, vI 0], aq_h m s F c_4)) rfl rfl ?_
  refine am_E.go (t2 := (143, [vR y, vI 4, vI 0, vU, vU, vU, vU], [], aq_h m s F c_4)) rfl rfl ?_
  refine am_E.go (t2 := (144, [vR y, vI 4, vI 0, vU, vU, vU, vU], [vR y], aq_h m s F c_4)) rfl rfl ?_
  refine aq_gf (v := vR (y + 13)) rfl (by omega) hFo (by decide) rfl ?_
  show am_E _ (147, [vR y, vI 4, vI 0, vU, vU, vU, vU], [vR (y + 13)], aq_h m s F c_4) _
  refine am_E.go (t2 := (148, [vR y, vI 4, vI 0, vU, vU, vU, vU], [vI 0, vR (y + 13)], aq_h m s F c_4)) rfl rfl ?_
  refine aq_al (ok := fun k => k == 1) (v := vI (c_4 (y + 13) 0)) rfl rfl (by omega) hG13 rfl (by decide) (by decide) rfl ?_
  rw [mtc_4.1]
  show am_E _ (149, [vR y, vI 4, vI 0, vU, vU, vU, vU], [vI 0], aq_h m s F c_4) _
  refine am_E.go (t2 := (152, [vR y, vI 4, vI 0, vU, vU, vU, vU], [], aq_h m s F c_4)) rfl rfl ?_
  refine am_E.go (t2 := (153, [vR y, vI 4, vI 0, vU, vU, vU, vU], [vR y], aq_h m s F c_4)) rfl rfl ?_
  refine aq_gf (v := vR (y + 19)) rfl (by omega) hFo (by decide) rfl ?_
  show am_E _ (156, [vR y, vI 4, vI 0, vU, vU, vU, vU], [vR (y + 19)], aq_h m s F c_4) _
  refine am_E.go (t2 := (157, [vR y, vI 4, vI 0, vU, vU, vU, vU], [vI 0, vR (y + 19)], aq_h m s F c_4)) rfl rfl ?_
  refine aq_al (ok := fun k => k == 0) (v := vI (c_4 (y + 19) 0)) rfl rfl (by omega) hG19 rfl (by decide) (by decide) rfl ?_
  rw [sc_4 (y + 19) (by omega), hB0]
  show am_E _ (158, [vR y, vI 4, vI 0, vU, vU, vU, vU], [vI 3], aq_h m s F c_4) _
  refine am_E.go (t2 := (159, [vR y, vI 4, vI 0, vU, vU, vU, vU], [vI 4, vI 3], aq_h m s F c_4)) rfl rfl ?_
  refine am_E.go (t2 := (165, [vR y, vI 4, vI 0, vU, vU, vU, vU], [], aq_h m s F c_4)) rfl rfl ?_
  refine am_E.go (t2 := (168, [vR y, vI 4, vI 1, vU, vU, vU, vU], [], aq_h m s F c_4)) rfl rfl ?_
  refine am_E.go (t2 := (138, [vR y, vI 4, vI 1, vU, vU, vU, vU], [], aq_h m s F c_4)) rfl rfl ?_
  refine am_E.go (t2 := (139, [vR y, vI 4, vI 1, vU, vU, vU, vU], [vI 1], aq_h m s F c_4)) rfl rfl ?_
  refine am_E.go (t2 := (140, [vR y, vI 4, vI 1, vU, vU, vU, vU], [vI 4, vI 1], aq_h m s F c_4)) rfl rfl ?_
  refine am_E.go (t2 := (143, [vR y, vI 4, vI 1, vU, vU, vU, vU], [], aq_h m s F c_4)) rfl rfl ?_
  refine am_E.go (t2 := (144, [vR y, vI 4, vI 1, vU, vU, vU, vU], [vR y], aq_h m s F c_4)) rfl rfl ?_
  refine aq_gf (v := vR (y + 13)) rfl (by omega) hFo (by decide) rfl ?_
  show am_E _ (147, [vR y, vI 4, vI 1, vU, vU, vU, vU], [vR (y + 13)], aq_h m s F c_4) _
  refine am_E.go (t2 := (148, [vR y, vI 4, vI 1, vU, vU, vU, vU], [vI 1, vR (y + 13)], aq_h m s F c_4)) rfl rfl ?_
  refine aq_al (ok := fun k => k == 1) (v := vI (c_4 (y + 13) 1)) rfl rfl (by omega) hG13 rfl (by decide) (by decide) rfl ?_
  rw [mtc_4.2.1]
  show am_E _ (149, [vR y, vI 4, vI 1, vU, vU, vU, vU], [vI 0], aq_h m s F c_4) _
  refine am_E.go (t2 := (152, [vR y, vI 4, vI 1, vU, vU, vU, vU], [], aq_h m s F c_4)) rfl rfl ?_
  refine am_E.go (t2 := (153, [vR y, vI 4, vI 1, vU, vU, vU, vU], [vR y], aq_h m s F c_4)) rfl rfl ?_
  refine aq_gf (v := vR (y + 19)) rfl (by omega) hFo (by decide) rfl ?_
  show am_E _ (156, [vR y, vI 4, vI 1, vU, vU, vU, vU], [vR (y + 19)], aq_h m s F c_4) _
  refine am_E.go (t2 := (157, [vR y, vI 4, vI 1, vU, vU, vU, vU], [vI 1, vR (y + 19)], aq_h m s F c_4)) rfl rfl ?_
  refine aq_al (ok := fun k => k == 0) (v := vI (c_4 (y + 19) 1)) rfl rfl (by omega) hG19 rfl (by decide) (by decide) rfl ?_
  rw [sc_4 (y + 19) (by omega), hB1]
  show am_E _ (158, [vR y, vI 4, vI 1, vU, vU, vU, vU], [vI 2], aq_h m s F c_4) _
  refine am_E.go (t2 := (159, [vR y, vI 4, vI 1, vU, vU, vU, vU], [vI 4, vI 2], aq_h m s F c_4)) rfl rfl ?_
  refine am_E.go (t2 := (165, [vR y, vI 4, vI 1, vU, vU, vU, vU], [], aq_h m s F c_4)) rfl rfl ?_
  refine am_E.go (t2 := (168, [vR y, vI 4, vI 2, vU, vU, vU, vU], [], aq_h m s F c_4)) rfl rfl ?_
  refine am_E.go (t2 := (138, [vR y, vI 4, vI 2, vU, vU, vU, vU], [], aq_h m s F c_4)) rfl rfl ?_
  refine am_E.go (t2 := (139, [vR y, vI 4, vI 2, vU, vU, vU, vU], [vI 2], aq_h m s F c_4)) rfl rfl ?_
  refine am_E.go (t2 := (140, [vR y, vI 4, vI 2, vU, vU, vU, vU], [vI 4, vI 2], aq_h m s F c_4)) rfl rfl ?_
  refine am_E.go (t2 := (143, [vR y, vI 4, vI 2, vU, vU, vU, vU], [], aq_h m s F c_4)) rfl rfl ?_
  refine am_E.go (t2 := (144, [vR y, vI 4, vI 2, vU, vU, vU, vU], [vR y], aq_h m s F c_4)) rfl rfl ?_
  refine aq_gf (v := vR (y + 13)) rfl (by omega) hFo (by decide) rfl ?_
  show am_E _ (147, [vR y, vI 4, vI 2, vU, vU, vU, vU], [vR (y + 13)], aq_h m s F c_4) _
  refine am_E.go (t2 := (148, [vR y, vI 4, vI 2, vU, vU, vU, vU], [vI 2, vR (y + 13)], aq_h m s F c_4)) rfl rfl ?_
  refine aq_al (ok := fun k => k == 1) (v := vI (c_4 (y + 13) 2)) rfl rfl (by omega) hG13 rfl (by decide) (by decide) rfl ?_
  rw [mtc_4.2.2.1]
  show am_E _ (149, [vR y, vI 4, vI 2, vU, vU, vU, vU], [vI 0], aq_h m s F c_4) _
  refine am_E.go (t2 := (152, [vR y, vI 4, vI 2, vU, vU, vU, vU], [], aq_h m s F c_4)) rfl rfl ?_
  refine am_E.go (t2 := (153, [vR y, vI 4, vI 2, vU, vU, vU, vU], [vR y], aq_h m s F c_4)) rfl rfl ?_
  refine aq_gf (v := vR (y + 19)) rfl (by omega) hFo (by decide) rfl ?_
  show am_E _ (156, [vR y, vI 4, vI 2, vU, vU, vU, vU], [vR (y + 19)], aq_h m s F c_4) _
  refine am_E.go (t2 := (157, [vR y, vI 4, vI 2, vU, vU, vU, vU], [vI 2, vR (y + 19)], aq_h m s F c_4)) rfl rfl ?_
  refine aq_al (ok := fun k => k == 0) (v := vI (c_4 (y + 19) 2)) rfl rfl (by omega) hG19 rfl (by decide) (by decide) rfl ?_
  rw [sc_4 (y + 19) (by omega), hB2]
  show am_E _ (158, [vR y, vI 4, vI 2, vU, vU, vU, vU], [vI 1], aq_h m s F c_4) _
  refine am_E.go (t2 := (159, [vR y, vI 4, vI 2, vU, vU, vU, vU], [vI 4, vI 1], aq_h m s F c_4)) rfl rfl ?_
  refine am_E.go (t2 := (165, [vR y, vI 4, vI 2, vU, vU, vU, vU], [], aq_h m s F c_4)) rfl rfl ?_
  refine am_E.go (t2 := (168, [vR y, vI 4, vI 3, vU, vU, vU, vU], [], aq_h m s F c_4)) rfl rfl ?_
  refine am_E.go (t2 := (138, [vR y, vI 4, vI 3, vU, vU, vU, vU], [], aq_h m s F c_4)) rfl rfl ?_
  refine am_E.go (t2 := (139, [vR y, vI 4, vI 3, vU, vU, vU, vU], [vI 3], aq_h m s F c_4)) rfl rfl ?_
  refine am_E.go (t2 := (140, [vR y, vI 4, vI 3, vU, vU, vU, vU], [vI 4, vI 3], aq_h m s F c_4)) rfl rfl ?_
  refine am_E.go (t2 := (143, [vR y, vI 4, vI 3, vU, vU, vU, vU], [], aq_h m s F c_4)) rfl rfl ?_
  refine am_E.go (t2 := (144, [vR y, vI 4, vI 3, vU, vU, vU, vU], [vR y], aq_h m s F c_4)) rfl rfl ?_
  refine aq_gf (v := vR (y + 13)) rfl (by omega) hFo (by decide) rfl ?_
  show am_E _ (147, [vR y, vI 4, vI 3, vU, vU, vU, vU], [vR (y + 13)], aq_h m s F c_4) _
  refine am_E.go (t2 := (148, [vR y, vI 4, vI 3, vU, vU, vU, vU], [vI 3, vR (y + 13)], aq_h m s F c_4)) rfl rfl ?_
  refine aq_al (ok := fun k => k == 1) (v := vI (c_4 (y + 13) 3)) rfl rfl (by omega) hG13 rfl (by decide) (by decide) rfl ?_
  rw [mtc_4.2.2.2]
  show am_E _ (149, [vR y, vI 4, vI 3, vU, vU, vU, vU], [vI 0], aq_h m s F c_4) _
  refine am_E.go (t2 := (152, [vR y, vI 4, vI 3, vU, vU, vU, vU], [], aq_h m s F c_4)) rfl rfl ?_
  refine am_E.go (t2 := (153, [vR y, vI 4, vI 3, vU, vU, vU, vU], [vR y], aq_h m s F c_4)) rfl rfl ?_
  refine aq_gf (v := vR (y + 19)) rfl (by omega) hFo (by decide) rfl ?_
  show am_E _ (156, [vR y, vI 4, vI 3, vU, vU, vU, vU], [vR (y + 19)], aq_h m s F c_4) _
  refine am_E.go (t2 := (157, [vR y, vI 4, vI 3, vU, vU, vU, vU], [vI 3, vR (y + 19)], aq_h m s F c_4)) rfl rfl ?_
  refine aq_al (ok := fun k => k == 0) (v := vI (c_4 (y + 19) 3)) rfl rfl (by omega) hG19 rfl (by decide) (by decide) rfl ?_
  rw [sc_4 (y + 19) (by omega), hB3]
  show am_E _ (158, [vR y, vI 4, vI 3, vU, vU, vU, vU], [vI 0], aq_h m s F c_4) _
  refine am_E.go (t2 := (159, [vR y, vI 4, vI 3, vU, vU, vU, vU], [vI 4, vI 0], aq_h m s F c_4)) rfl rfl ?_
  refine am_E.go (t2 := (165, [vR y, vI 4, vI 3, vU, vU, vU, vU], [], aq_h m s F c_4)) rfl rfl ?_
  refine am_E.go (t2 := (168, [vR y, vI 4, vI 4, vU, vU, vU, vU], [], aq_h m s F c_4)) rfl rfl ?_
  refine am_E.go (t2 := (138, [vR y, vI 4, vI 4, vU, vU, vU, vU], [], aq_h m s F c_4)) rfl rfl ?_
  refine am_E.go (t2 := (139, [vR y, vI 4, vI 4, vU, vU, vU, vU], [vI 4], aq_h m s F c_4)) rfl rfl ?_
  refine am_E.go (t2 := (140, [vR y, vI 4, vI 4, vU, vU, vU, vU], [vI 4, vI 4], aq_h m s F c_4)) rfl rfl ?_
  refine am_E.go (t2 := (171, [vR y, vI 4, vI 4, vU, vU, vU, vU], [], aq_h m s F c_4)) rfl rfl ?_
  refine am_E.go (t2 := (172, [vR y, vI 4, vI 4, vU, vU, vU, vU], [vI 0], aq_h m s F c_4)) rfl rfl ?_
  refine am_E.go (t2 := (173, [vR y, vI 4, vI 0, vU, vU, vU, vU], [], aq_h m s F c_4)) rfl rfl ?_
  refine am_E.go (t2 := (174, [vR y, vI 4, vI 0, vU, vU, vU, vU], [vI 0], aq_h m s F c_4)) rfl rfl ?_
  refine am_E.go (t2 := (175, [vR y, vI 4, vI 0, vI 0, vU, vU, vU], [], aq_h m s F c_4)) rfl rfl ?_
  refine am_E.go (t2 := (176, [vR y, vI 4, vI 0, vI 0, vU, vU, vU], [vI 0], aq_h m s F c_4)) rfl rfl ?_
  refine am_E.go (t2 := (177, [vR y, vI 4, vI 0, vI 0, vU, vU, vU], [vI 4, vI 0], aq_h m s F c_4)) rfl rfl ?_
  refine am_E.go (t2 := (180, [vR y, vI 4, vI 0, vI 0, vU, vU, vU], [], aq_h m s F c_4)) rfl rfl ?_
  refine am_E.go (t2 := (181, [vR y, vI 4, vI 0, vI 0, vU, vU, vU], [vR y], aq_h m s F c_4)) rfl rfl ?_
  refine aq_gf (v := vR (y + 13)) rfl (by omega) hFo (by decide) rfl ?_
  show am_E _ (184, [vR y, vI 4, vI 0, vI 0, vU, vU, vU], [vR (y + 13)], aq_h m s F c_4) _
  refine am_E.go (t2 := (185, [vR y, vI 4, vI 0, vI 0, vU, vU, vU], [vI 0, vR (y + 13)], aq_h m s F c_4)) rfl rfl ?_
  refine aq_al (ok := fun k => k == 1) (v := vI (c_4 (y + 13) 0)) rfl rfl (by omega) hG13 rfl (by decide) (by decide) rfl ?_
  rw [mtc_4.1]
  show am_E _ (186, [vR y, vI 4, vI 0, vI 0, vU, vU, vU], [vI 0], aq_h m s F c_4) _
  refine am_E.go (t2 := (189, [vR y, vI 4, vI 0, vI 0, vU, vU, vU], [], aq_h m s F c_4)) rfl rfl ?_
  refine am_E.go (t2 := (192, [vR y, vI 4, vI 1, vI 0, vU, vU, vU], [], aq_h m s F c_4)) rfl rfl ?_
  refine am_E.go (t2 := (193, [vR y, vI 4, vI 1, vI 0, vU, vU, vU], [vI 0], aq_h m s F c_4)) rfl rfl ?_
  refine am_E.go (t2 := (195, [vR y, vI 4, vI 1, vI 0, vI 0, vU, vU], [], aq_h m s F c_4)) rfl rfl ?_
  refine am_E.go (t2 := (196, [vR y, vI 4, vI 1, vI 0, vI 0, vU, vU], [vI 1], aq_h m s F c_4)) rfl rfl ?_
  refine am_E.go (t2 := (198, [vR y, vI 4, vI 1, vI 0, vI 0, vI 1, vU], [], aq_h m s F c_4)) rfl rfl ?_
  refine am_E.go (t2 := (200, [vR y, vI 4, vI 1, vI 0, vI 0, vI 1, vU], [vI 1], aq_h m s F c_4)) rfl rfl ?_
  refine am_E.go (t2 := (203, [vR y, vI 4, vI 1, vI 0, vI 0, vI 1, vU], [], aq_h m s F c_4)) rfl rfl ?_
  refine am_E.go (t2 := (204, [vR y, vI 4, vI 1, vI 0, vI 0, vI 1, vU], [vR y], aq_h m s F c_4)) rfl rfl ?_
  refine aq_gf (v := vR (y + 13)) rfl (by omega) hFo (by decide) rfl ?_
  show am_E _ (207, [vR y, vI 4, vI 1, vI 0, vI 0, vI 1, vU], [vR (y + 13)], aq_h m s F c_4) _
  refine am_E.go (t2 := (209, [vR y, vI 4, vI 1, vI 0, vI 0, vI 1, vU], [vI 0, vR (y + 13)], aq_h m s F c_4)) rfl rfl ?_
  refine am_E.go (t2 := (210, [vR y, vI 4, vI 1, vI 0, vI 0, vI 1, vU], [vI 1, vI 0, vR (y + 13)], aq_h m s F c_4)) rfl rfl ?_
  refine aq_as (kd := 1) rfl rfl (by omega) hG13 (by omega) (by omega) rfl rfl ?_
  show am_E _ (211, [vR y, vI 4, vI 1, vI 0, vI 0, vI 1, vU], [], aq_h m s F (aq_u c_4 (y + 13) 0 1)) _
  generalize hdc_5 : aq_u c_4 (y + 13) 0 1 = c_5
  have sc_5 := aq_smu sc_4 hdc_5 rfl
  have mtc_5 := mt_0 mtc_4 hdc_5
  refine am_E.go (t2 := (212, [vR y, vI 4, vI 1, vI 0, vI 0, vI 1, vU], [vR y], aq_h m s F c_5)) rfl rfl ?_
  refine aq_gf (v := vR (y + 18)) rfl (by omega) hFo (by decide) rfl ?_
  show am_E _ (215, [vR y, vI 4, vI 1, vI 0, vI 0, vI 1, vU], [vR (y + 18)], aq_h m s F c_5) _
  refine am_E.go (t2 := (217, [vR y, vI 4, vI 1, vI 0, vI 0, vI 1, vU], [vI 0, vR (y + 18)], aq_h m s F c_5)) rfl rfl ?_
  refine aq_al (ok := fun k => k == 0) (v := vI (c_5 (y + 18) 0)) rfl rfl (by omega) hG18 rfl (by decide) (by decide) rfl ?_
  rw [sc_5 (y + 18) (by omega), hA0]
  show am_E _ (218, [vR y, vI 4, vI 1, vI 0, vI 0, vI 1, vU], [vI 1], aq_h m s F c_5) _
  refine am_E.go (t2 := (220, [vR y, vI 4, vI 1, vI 0, vI 1, vI 1, vU], [], aq_h m s F c_5)) rfl rfl ?_
  refine am_E.go (t2 := (221, [vR y, vI 4, vI 1, vI 0, vI 1, vI 1, vU], [vR y], aq_h m s F c_5)) rfl rfl ?_
  refine aq_gf (v := vR (y + 13)) rfl (by omega) hFo (by decide) rfl ?_
  show am_E _ (224, [vR y, vI 4, vI 1, vI 0, vI 1, vI 1, vU], [vR (y + 13)], aq_h m s F c_5) _
  refine am_E.go (t2 := (226, [vR y, vI 4, vI 1, vI 0, vI 1, vI 1, vU], [vI 1, vR (y + 13)], aq_h m s F c_5)) rfl rfl ?_
  refine am_E.go (t2 := (227, [vR y, vI 4, vI 1, vI 0, vI 1, vI 1, vU], [vI 1, vI 1, vR (y + 13)], aq_h m s F c_5)) rfl rfl ?_
  refine aq_as (kd := 1) rfl rfl (by omega) hG13 (by omega) (by omega) rfl rfl ?_
  show am_E _ (228, [vR y, vI 4, vI 1, vI 0, vI 1, vI 1, vU], [], aq_h m s F (aq_u c_5 (y + 13) 1 1)) _
  generalize hdc_6 : aq_u c_5 (y + 13) 1 1 = c_6
  have sc_6 := aq_smu sc_5 hdc_6 rfl
  have mtc_6 := mt_1 mtc_5 hdc_6
  refine am_E.go (t2 := (229, [vR y, vI 4, vI 1, vI 0, vI 1, vI 1, vU], [vR y], aq_h m s F c_6)) rfl rfl ?_
  refine aq_gf (v := vR (y + 19)) rfl (by omega) hFo (by decide) rfl ?_
  show am_E _ (232, [vR y, vI 4, vI 1, vI 0, vI 1, vI 1, vU], [vR (y + 19)], aq_h m s F c_6) _
  refine am_E.go (t2 := (234, [vR y, vI 4, vI 1, vI 0, vI 1, vI 1, vU], [vI 1, vR (y + 19)], aq_h m s F c_6)) rfl rfl ?_
  refine aq_al (ok := fun k => k == 0) (v := vI (c_6 (y + 19) 1)) rfl rfl (by omega) hG19 rfl (by decide) (by decide) rfl ?_
  rw [sc_6 (y + 19) (by omega), hB1]
  show am_E _ (235, [vR y, vI 4, vI 1, vI 0, vI 1, vI 1, vU], [vI 2], aq_h m s F c_6) _
  refine am_E.go (t2 := (237, [vR y, vI 4, vI 1, vI 0, vI 2, vI 1, vU], [], aq_h m s F c_6)) rfl rfl ?_
  refine am_E.go (t2 := (239, [vR y, vI 4, vI 1, vI 0, vI 2, vI 1, vU], [vI 2], aq_h m s F c_6)) rfl rfl ?_
  refine am_E.go (t2 := (240, [vR y, vI 4, vI 1, vI 0, vI 2, vI 1, vU], [vI 0, vI 2], aq_h m s F c_6)) rfl rfl ?_
  refine am_E.go (t2 := (243, [vR y, vI 4, vI 1, vI 0, vI 2, vI 1, vU], [], aq_h m s F c_6)) rfl rfl ?_
  refine am_E.go (t2 := (244, [vR y, vI 4, vI 1, vI 0, vI 2, vI 1, vU], [vI 1], aq_h m s F c_6)) rfl rfl ?_
  refine am_E.go (t2 := (248, [vR y, vI 4, vI 1, vI 0, vI 2, vI 1, vU], [vI 1], aq_h m s F c_6)) rfl rfl ?_
  refine am_E.go (t2 := (250, [vR y, vI 4, vI 1, vI 0, vI 2, vI 1, vU], [], aq_h m s F c_6)) rfl rfl ?_
  refine am_E.go (t2 := (198, [vR y, vI 4, vI 1, vI 0, vI 2, vI 1, vU], [], aq_h m s F c_6)) rfl rfl ?_
  refine am_E.go (t2 := (200, [vR y, vI 4, vI 1, vI 0, vI 2, vI 1, vU], [vI 1], aq_h m s F c_6)) rfl rfl ?_
  refine am_E.go (t2 := (203, [vR y, vI 4, vI 1, vI 0, vI 2, vI 1, vU], [], aq_h m s F c_6)) rfl rfl ?_
  refine am_E.go (t2 := (204, [vR y, vI 4, vI 1, vI 0, vI 2, vI 1, vU], [vR y], aq_h m s F c_6)) rfl rfl ?_
  refine aq_gf (v := vR (y + 13)) rfl (by omega) hFo (by decide) rfl ?_
  show am_E _ (207, [vR y, vI 4, vI 1, vI 0, vI 2, vI 1, vU], [vR (y + 13)], aq_h m s F c_6) _
  refine am_E.go (t2 := (209, [vR y, vI 4, vI 1, vI 0, vI 2, vI 1, vU], [vI 2, vR (y + 13)], aq_h m s F c_6)) rfl rfl ?_
  refine am_E.go (t2 := (210, [vR y, vI 4, vI 1, vI 0, vI 2, vI 1, vU], [vI 1, vI 2, vR (y + 13)], aq_h m s F c_6)) rfl rfl ?_
  refine aq_as (kd := 1) rfl rfl (by omega) hG13 (by omega) (by omega) rfl rfl ?_
  show am_E _ (211, [vR y, vI 4, vI 1, vI 0, vI 2, vI 1, vU], [], aq_h m s F (aq_u c_6 (y + 13) 2 1)) _
  generalize hdc_7 : aq_u c_6 (y + 13) 2 1 = c_7
  have sc_7 := aq_smu sc_6 hdc_7 rfl
  have mtc_7 := mt_2 mtc_6 hdc_7
  refine am_E.go (t2 := (212, [vR y, vI 4, vI 1, vI 0, vI 2, vI 1, vU], [vR y], aq_h m s F c_7)) rfl rfl ?_
  refine aq_gf (v := vR (y + 18)) rfl (by omega) hFo (by decide) rfl ?_
  show am_E _ (215, [vR y, vI 4, vI 1, vI 0, vI 2, vI 1, vU], [vR (y + 18)], aq_h m s F c_7) _
  refine am_E.go (t2 := (217, [vR y, vI 4, vI 1, vI 0, vI 2, vI 1, vU], [vI 2, vR (y + 18)], aq_h m s F c_7)) rfl rfl ?_
  refine aq_al (ok := fun k => k == 0) (v := vI (c_7 (y + 18) 2)) rfl rfl (by omega) hG18 rfl (by decide) (by decide) rfl ?_
  rw [sc_7 (y + 18) (by omega), hA2]
  show am_E _ (218, [vR y, vI 4, vI 1, vI 0, vI 2, vI 1, vU], [vI 3], aq_h m s F c_7) _
  refine am_E.go (t2 := (220, [vR y, vI 4, vI 1, vI 0, vI 3, vI 1, vU], [], aq_h m s F c_7)) rfl rfl ?_
  refine am_E.go (t2 := (221, [vR y, vI 4, vI 1, vI 0, vI 3, vI 1, vU], [vR y], aq_h m s F c_7)) rfl rfl ?_
  refine aq_gf (v := vR (y + 13)) rfl (by omega) hFo (by decide) rfl ?_
  show am_E _ (224, [vR y, vI 4, vI 1, vI 0, vI 3, vI 1, vU], [vR (y + 13)], aq_h m s F c_7) _
  refine am_E.go (t2 := (226, [vR y, vI 4, vI 1, vI 0, vI 3, vI 1, vU], [vI 3, vR (y + 13)], aq_h m s F c_7)) rfl rfl ?_
  refine am_E.go (t2 := (227, [vR y, vI 4, vI 1, vI 0, vI 3, vI 1, vU], [vI 1, vI 3, vR (y + 13)], aq_h m s F c_7)) rfl rfl ?_
  refine aq_as (kd := 1) rfl rfl (by omega) hG13 (by omega) (by omega) rfl rfl ?_
  show am_E _ (228, [vR y, vI 4, vI 1, vI 0, vI 3, vI 1, vU], [], aq_h m s F (aq_u c_7 (y + 13) 3 1)) _
  generalize hdc_8 : aq_u c_7 (y + 13) 3 1 = c_8
  have sc_8 := aq_smu sc_7 hdc_8 rfl
  have mtc_8 := mt_3 mtc_7 hdc_8
  refine am_E.go (t2 := (229, [vR y, vI 4, vI 1, vI 0, vI 3, vI 1, vU], [vR y], aq_h m s F c_8)) rfl rfl ?_
  refine aq_gf (v := vR (y + 19)) rfl (by omega) hFo (by decide) rfl ?_
  show am_E _ (232, [vR y, vI 4, vI 1, vI 0, vI 3, vI 1, vU], [vR (y + 19)], aq_h m s F c_8) _
  refine am_E.go (t2 := (234, [vR y, vI 4, vI 1, vI 0, vI 3, vI 1, vU], [vI 3, vR (y + 19)], aq_h m s F c_8)) rfl rfl ?_
  refine aq_al (ok := fun k => k == 0) (v := vI (c_8 (y + 19) 3)) rfl rfl (by omega) hG19 rfl (by decide) (by decide) rfl ?_
  rw [sc_8 (y + 19) (by omega), hB3]
  show am_E _ (235, [vR y, vI 4, vI 1, vI 0, vI 3, vI 1, vU], [vI 0], aq_h m s F c_8) _
  refine am_E.go (t2 := (237, [vR y, vI 4, vI 1, vI 0, vI 0, vI 1, vU], [], aq_h m s F c_8)) rfl rfl ?_
  refine am_E.go (t2 := (239, [vR y, vI 4, vI 1, vI 0, vI 0, vI 1, vU], [vI 0], aq_h m s F c_8)) rfl rfl ?_
  refine am_E.go (t2 := (240, [vR y, vI 4, vI 1, vI 0, vI 0, vI 1, vU], [vI 0, vI 0], aq_h m s F c_8)) rfl rfl ?_
  refine am_E.go (t2 := (247, [vR y, vI 4, vI 1, vI 0, vI 0, vI 1, vU], [], aq_h m s F c_8)) rfl rfl ?_
  refine am_E.go (t2 := (248, [vR y, vI 4, vI 1, vI 0, vI 0, vI 1, vU], [vI 0], aq_h m s F c_8)) rfl rfl ?_
  refine am_E.go (t2 := (250, [vR y, vI 4, vI 1, vI 0, vI 0, vI 0, vU], [], aq_h m s F c_8)) rfl rfl ?_
  refine am_E.go (t2 := (198, [vR y, vI 4, vI 1, vI 0, vI 0, vI 0, vU], [], aq_h m s F c_8)) rfl rfl ?_
  refine am_E.go (t2 := (200, [vR y, vI 4, vI 1, vI 0, vI 0, vI 0, vU], [vI 0], aq_h m s F c_8)) rfl rfl ?_
  refine am_E.go (t2 := (253, [vR y, vI 4, vI 1, vI 0, vI 0, vI 0, vU], [], aq_h m s F c_8)) rfl rfl ?_
  refine am_E.go (t2 := (256, [vR y, vI 4, vI 1, vI 1, vI 0, vI 0, vU], [], aq_h m s F c_8)) rfl rfl ?_
  refine am_E.go (t2 := (175, [vR y, vI 4, vI 1, vI 1, vI 0, vI 0, vU], [], aq_h m s F c_8)) rfl rfl ?_
  refine am_E.go (t2 := (176, [vR y, vI 4, vI 1, vI 1, vI 0, vI 0, vU], [vI 1], aq_h m s F c_8)) rfl rfl ?_
  refine am_E.go (t2 := (177, [vR y, vI 4, vI 1, vI 1, vI 0, vI 0, vU], [vI 4, vI 1], aq_h m s F c_8)) rfl rfl ?_
  refine am_E.go (t2 := (180, [vR y, vI 4, vI 1, vI 1, vI 0, vI 0, vU], [], aq_h m s F c_8)) rfl rfl ?_
  refine am_E.go (t2 := (181, [vR y, vI 4, vI 1, vI 1, vI 0, vI 0, vU], [vR y], aq_h m s F c_8)) rfl rfl ?_
  refine aq_gf (v := vR (y + 13)) rfl (by omega) hFo (by decide) rfl ?_
  show am_E _ (184, [vR y, vI 4, vI 1, vI 1, vI 0, vI 0, vU], [vR (y + 13)], aq_h m s F c_8) _
  refine am_E.go (t2 := (185, [vR y, vI 4, vI 1, vI 1, vI 0, vI 0, vU], [vI 1, vR (y + 13)], aq_h m s F c_8)) rfl rfl ?_
  refine aq_al (ok := fun k => k == 1) (v := vI (c_8 (y + 13) 1)) rfl rfl (by omega) hG13 rfl (by decide) (by decide) rfl ?_
  rw [mtc_8.2.1]
  show am_E _ (186, [vR y, vI 4, vI 1, vI 1, vI 0, vI 0, vU], [vI 1], aq_h m s F c_8) _
  refine am_E.go (t2 := (253, [vR y, vI 4, vI 1, vI 1, vI 0, vI 0, vU], [], aq_h m s F c_8)) rfl rfl ?_
  refine am_E.go (t2 := (256, [vR y, vI 4, vI 1, vI 2, vI 0, vI 0, vU], [], aq_h m s F c_8)) rfl rfl ?_
  refine am_E.go (t2 := (175, [vR y, vI 4, vI 1, vI 2, vI 0, vI 0, vU], [], aq_h m s F c_8)) rfl rfl ?_
  refine am_E.go (t2 := (176, [vR y, vI 4, vI 1, vI 2, vI 0, vI 0, vU], [vI 2], aq_h m s F c_8)) rfl rfl ?_
  refine am_E.go (t2 := (177, [vR y, vI 4, vI 1, vI 2, vI 0, vI 0, vU], [vI 4, vI 2], aq_h m s F c_8)) rfl rfl ?_
  refine am_E.go (t2 := (180, [vR y, vI 4, vI 1, vI 2, vI 0, vI 0, vU], [], aq_h m s F c_8)) rfl rfl ?_
  refine am_E.go (t2 := (181, [vR y, vI 4, vI 1, vI 2, vI 0, vI 0, vU], [vR y], aq_h m s F c_8)) rfl rfl ?_
  refine aq_gf (v := vR (y + 13)) rfl (by omega) hFo (by decide) rfl ?_
  show am_E _ (184, [vR y, vI 4, vI 1, vI 2, vI 0, vI 0, vU], [vR (y + 13)], aq_h m s F c_8) _
  refine am_E.go (t2 := (185, [vR y, vI 4, vI 1, vI 2, vI 0, vI 0, vU], [vI 2, vR (y + 13)], aq_h m s F c_8)) rfl rfl ?_
  refine aq_al (ok := fun k => k == 1) (v := vI (c_8 (y + 13) 2)) rfl rfl (by omega) hG13 rfl (by decide) (by decide) rfl ?_
  rw [mtc_8.2.2.1]
  show am_E _ (186, [vR y, vI 4, vI 1, vI 2, vI 0, vI 0, vU], [vI 1], aq_h m s F c_8) _
  refine am_E.go (t2 := (253, [vR y, vI 4, vI 1, vI 2, vI 0, vI 0, vU], [], aq_h m s F c_8)) rfl rfl ?_
  refine am_E.go (t2 := (256, [vR y, vI 4, vI 1, vI 3, vI 0, vI 0, vU], [], aq_h m s F c_8)) rfl rfl ?_
  refine am_E.go (t2 := (175, [vR y, vI 4, vI 1, vI 3, vI 0, vI 0, vU], [], aq_h m s F c_8)) rfl rfl ?_
  refine am_E.go (t2 := (176, [vR y, vI 4, vI 1, vI 3, vI 0, vI 0, vU], [vI 3], aq_h m s F c_8)) rfl rfl ?_
  refine am_E.go (t2 := (177, [vR y, vI 4, vI 1, vI 3, vI 0, vI 0, vU], [vI 4, vI 3], aq_h m s F c_8)) rfl rfl ?_
  refine am_E.go (t2 := (180, [vR y, vI 4, vI 1, vI 3, vI 0, vI 0, vU], [], aq_h m s F c_8)) rfl rfl ?_
  refine am_E.go (t2 := (181, [vR y, vI 4, vI 1, vI 3, vI 0, vI 0, vU], [vR y], aq_h m s F c_8)) rfl rfl ?_
  refine aq_gf (v := vR (y + 13)) rfl (by omega) hFo (by decide) rfl ?_
  show am_E _ (184, [vR y, vI 4, vI 1, vI 3, vI 0, vI 0, vU], [vR (y + 13)], aq_h m s F c_8) _
  refine am_E.go (t2 := (185, [vR y, vI 4, vI 1, vI 3, vI 0, vI 0, vU], [vI 3, vR (y + 13)], aq_h m s F c_8)) rfl rfl ?_
  refine aq_al (ok := fun k => k == 1) (v := vI (c_8 (y + 13) 3)) rfl rfl (by omega) hG13 rfl (by decide) (by decide) rfl ?_
  rw [mtc_8.2.2.2]
  show am_E _ (186, [vR y, vI 4, vI 1, vI 3, vI 0, vI 0, vU], [vI 1], aq_h m s F c_8) _
  refine am_E.go (t2 := (253, [vR y, vI 4, vI 1, vI 3, vI 0, vI 0, vU], [], aq_h m s F c_8)) rfl rfl ?_
  refine am_E.go (t2 := (256, [vR y, vI 4, vI 1, vI 4, vI 0, vI 0, vU], [], aq_h m s F c_8)) rfl rfl ?_
  refine am_E.go (t2 := (175, [vR y, vI 4, vI 1, vI 4, vI 0, vI 0, vU], [], aq_h m s F c_8)) rfl rfl ?_
  refine am_E.go (t2 := (176, [vR y, vI 4, vI 1, vI 4, vI 0, vI 0, vU], [vI 4], aq_h m s F c_8)) rfl rfl ?_
  refine am_E.go (t2 := (177, [vR y, vI 4, vI 1, vI 4, vI 0, vI 0, vU], [vI 4, vI 4], aq_h m s F c_8)) rfl rfl ?_
  refine am_E.go (t2 := (259, [vR y, vI 4, vI 1, vI 4, vI 0, vI 0, vU], [], aq_h m s F c_8)) rfl rfl ?_
  refine am_E.go (t2 := (260, [vR y, vI 4, vI 1, vI 4, vI 0, vI 0, vU], [vI 1], aq_h m s F c_8)) rfl rfl ?_
  refine am_E.ret rfl rfl ?_
  exact ⟨_, rfl, sc_8, rfl⟩

theorem qm_fo_4010 {m s : Nat} {F : aq_F} {c : aq_C} {y : Nat} (hO : mo_0 m F y) (hA0 : c (y + 18) 0 = 3) (hA1 : c (y + 18) 1 = 2) (hA2 : c (y + 18) 2 = 1) (hA3 : c (y + 18) 3 = 0) (hB0 : c (y + 19) 0 = 1) (hB1 : c (y + 19) 1 = 0) (hB2 : c (y + 19) 2 = 3) (hB3 : c (y + 19) 3 = 2) : am_E ac_X5_formOf (0, [vR y, vI 4, vU, vU, vU, vU, vU], [], aq_h m s F c) (aq_Z m s F (fun a => a = y + 13) c (fun r _ => r = some (vI 1))) := by
  obtain ⟨hm, hFo, hG5, hG6, hG7, hG8, hG9, hG10, hG11, hG12, hG13, hG14, hG15, hG16, hG17, hG18, hG19, hG20, hG21, hG22, hG23⟩ := hO
  have hmt : mt_ y (c (y + 13) 0) (c (y + 13) 1) (c (y + 13) 2) (c (y + 13) 3) c := ⟨rfl, rfl, rfl, rfl⟩
  refine am_E.go (t2 := (1, [vR y, vI 4, vU, vU, vU, vU, vU], [vI 0], aq_h m s F c)) rfl rfl ?_
  refine am_E.go (t2 := (2, [vR y, vI 4, vI 0, vU, vU, vU, vU], [], aq_h m s F c)) rfl rfl ?_
  refine am_E.go (t2 := (3, [vR y, vI 4, vI 0, vU, vU, vU, vU], [vI 0], aq_h m s F c)) rfl rfl ?_
  refine am_E.go (t2 := (4, [vR y, vI 4, vI 0, vU, vU, vU, vU], [vI 4, vI 0], aq_h m s F c)) rfl rfl ?_
  refine am_E.go (t2 := (7, [vR y, vI 4, vI 0, vU, vU, vU, vU], [], aq_h m s F c)) rfl rfl ?_
  refine am_E.go (t2 := (8, [vR y, vI 4, vI 0, vU, vU, vU, vU], [vR y], aq_h m s F c)) rfl rfl ?_
  refine aq_gf (v := vR (y + 13)) rfl (by omega) hFo (by decide) rfl ?_
  show am_E _ (11, [vR y, vI 4, vI 0, vU, vU, vU, vU], [vR (y + 13)], aq_h m s F c) _
  refine am_E.go (t2 := (12, [vR y, vI 4, vI 0, vU, vU, vU, vU], [vI 0, vR (y + 13)], aq_h m s F c)) rfl rfl ?_
  refine am_E.go (t2 := (13, [vR y, vI 4, vI 0, vU, vU, vU, vU], [vI 0, vI 0, vR (y + 13)], aq_h m s F c)) rfl rfl ?_
  refine aq_as (kd := 1) rfl rfl (by omega) hG13 (by omega) (by omega) rfl rfl ?_
  show am_E _ (14, [vR y, vI 4, vI 0, vU, vU, vU, vU], [], aq_h m s F (aq_u c (y + 13) 0 0)) _
  generalize hdc_1 : aq_u c (y + 13) 0 0 = c_1
  have sc_1 := aq_smu (aq_sm0 (c := c) (S := fun a => a = y + 13)) hdc_1 rfl
  have mtc_1 := mt_0 hmt hdc_1
  refine am_E.go (t2 := (17, [vR y, vI 4, vI 1, vU, vU, vU, vU], [], aq_h m s F c_1)) rfl rfl ?_
  refine am_E.go (t2 := (2, [vR y, vI 4, vI 1, vU, vU, vU, vU], [], aq_h m s F c_1)) rfl rfl ?_
  refine am_E.go (t2 := (3, [vR y, vI 4, vI 1, vU, vU, vU, vU], [vI 1], aq_h m s F c_1)) rfl rfl ?_
  refine am_E.go (t2 := (4, [vR y, vI 4, vI 1, vU, vU, vU, vU], [vI 4, vI 1], aq_h m s F c_1)) rfl rfl ?_
  refine am_E.go (t2 := (7, [vR y, vI 4, vI 1, vU, vU, vU, vU], [], aq_h m s F c_1)) rfl rfl ?_
  refine am_E.go (t2 := (8, [vR y, vI 4, vI 1, vU, vU, vU, vU], [vR y], aq_h m s F c_1)) rfl rfl ?_
  refine aq_gf (v := vR (y + 13)) rfl (by omega) hFo (by decide) rfl ?_
  show am_E _ (11, [vR y, vI 4, vI 1, vU, vU, vU, vU], [vR (y + 13)], aq_h m s F c_1) _
  refine am_E.go (t2 := (12, [vR y, vI 4, vI 1, vU, vU, vU, vU], [vI 1, vR (y + 13)], aq_h m s F c_1)) rfl rfl ?_
  refine am_E.go (t2 := (13, [vR y, vI 4, vI 1, vU, vU, vU, vU], [vI 0, vI 1, vR (y + 13)], aq_h m s F c_1)) rfl rfl ?_
  refine aq_as (kd := 1) rfl rfl (by omega) hG13 (by omega) (by omega) rfl rfl ?_
  show am_E _ (14, [vR y, vI 4, vI 1, vU, vU, vU, vU], [], aq_h m s F (aq_u c_1 (y + 13) 1 0)) _
  generalize hdc_2 : aq_u c_1 (y + 13) 1 0 = c_2
  have sc_2 := aq_smu sc_1 hdc_2 rfl
  have mtc_2 := mt_1 mtc_1 hdc_2
  refine am_E.go (t2 := (17, [vR y, vI 4, vI 2, vU, vU, vU, vU], [], aq_h m s F c_2)) rfl rfl ?_
  refine am_E.go (t2 := (2, [vR y, vI 4, vI 2, vU, vU, vU, vU], [], aq_h m s F c_2)) rfl rfl ?_
  refine am_E.go (t2 := (3, [vR y, vI 4, vI 2, vU, vU, vU, vU], [vI 2], aq_h m s F c_2)) rfl rfl ?_
  refine am_E.go (t2 := (4, [vR y, vI 4, vI 2, vU, vU, vU, vU], [vI 4, vI 2], aq_h m s F c_2)) rfl rfl ?_
  refine am_E.go (t2 := (7, [vR y, vI 4, vI 2, vU, vU, vU, vU], [], aq_h m s F c_2)) rfl rfl ?_
  refine am_E.go (t2 := (8, [vR y, vI 4, vI 2, vU, vU, vU, vU], [vR y], aq_h m s F c_2)) rfl rfl ?_
  refine aq_gf (v := vR (y + 13)) rfl (by omega) hFo (by decide) rfl ?_
  show am_E _ (11, [vR y, vI 4, vI 2, vU, vU, vU, vU], [vR (y + 13)], aq_h m s F c_2) _
  refine am_E.go (t2 := (12, [vR y, vI 4, vI 2, vU, vU, vU, vU], [vI 2, vR (y + 13)], aq_h m s F c_2)) rfl rfl ?_
  refine am_E.go (t2 := (13, [vR y, vI 4, vI 2, vU, vU, vU, vU], [vI 0, vI 2, vR (y + 13)], aq_h m s F c_2)) rfl rfl ?_
  refine aq_as (kd := 1) rfl rfl (by omega) hG13 (by omega) (by omega) rfl rfl ?_
  show am_E _ (14, [vR y, vI 4, vI 2, vU, vU, vU, vU], [], aq_h m s F (aq_u c_2 (y + 13) 2 0)) _
  generalize hdc_3 : aq_u c_2 (y + 13) 2 0 = c_3
  have sc_3 := aq_smu sc_2 hdc_3 rfl
  have mtc_3 := mt_2 mtc_2 hdc_3
  refine am_E.go (t2 := (17, [vR y, vI 4, vI 3, vU, vU, vU, vU], [], aq_h m s F c_3)) rfl rfl ?_
  refine am_E.go (t2 := (2, [vR y, vI 4, vI 3, vU, vU, vU, vU], [], aq_h m s F c_3)) rfl rfl ?_
  refine am_E.go (t2 := (3, [vR y, vI 4, vI 3, vU, vU, vU, vU], [vI 3], aq_h m s F c_3)) rfl rfl ?_
  refine am_E.go (t2 := (4, [vR y, vI 4, vI 3, vU, vU, vU, vU], [vI 4, vI 3], aq_h m s F c_3)) rfl rfl ?_
  refine am_E.go (t2 := (7, [vR y, vI 4, vI 3, vU, vU, vU, vU], [], aq_h m s F c_3)) rfl rfl ?_
  refine am_E.go (t2 := (8, [vR y, vI 4, vI 3, vU, vU, vU, vU], [vR y], aq_h m s F c_3)) rfl rfl ?_
  refine aq_gf (v := vR (y + 13)) rfl (by omega) hFo (by decide) rfl ?_
  show am_E _ (11, [vR y, vI 4, vI 3, vU, vU, vU, vU], [vR (y + 13)], aq_h m s F c_3) _
  refine am_E.go (t2 := (12, [vR y, vI 4, vI 3, vU, vU, vU, vU], [vI 3, vR (y + 13)], aq_h m s F c_3)) rfl rfl ?_
  refine am_E.go (t2 := (13, [vR y, vI 4, vI 3, vU, vU, vU, vU], [vI 0, vI 3, vR (y + 13)], aq_h m s F c_3)) rfl rfl ?_
  refine aq_as (kd := 1) rfl rfl (by omega) hG13 (by omega) (by omega) rfl rfl ?_
  show am_E _ (14, [vR y, vI 4, vI 3, vU, vU, vU, vU], [], aq_h m s F (aq_u c_3 (y + 13) 3 0)) _
  generalize hdc_4 : aq_u c_3 (y + 13) 3 0 = c_4
  have sc_4 := aq_smu sc_3 hdc_4 rfl
  have mtc_4 := mt_3 mtc_3 hdc_4
  refine am_E.go (t2 := (17, [vR y, vI 4, vI 4, vU, vU, vU, vU], [], aq_h m s F c_4)) rfl rfl ?_
  refine am_E.go (t2 := (2, [vR y, vI 4, vI 4, vU, vU, vU, vU], [], aq_h m s F c_4)) rfl rfl ?_
  refine am_E.go (t2 := (3, [vR y, vI 4, vI 4, vU, vU, vU, vU], [vI 4], aq_h m s F c_4)) rfl rfl ?_
  refine am_E.go (t2 := (4, [vR y, vI 4, vI 4, vU, vU, vU, vU], [vI 4, vI 4], aq_h m s F c_4)) rfl rfl ?_
  refine am_E.go (t2 := (20, [vR y, vI 4, vI 4, vU, vU, vU, vU], [], aq_h m s F c_4)) rfl rfl ?_
  refine am_E.go (t2 := (21, [vR y, vI 4, vI 4, vU, vU, vU, vU], [vI 0], aq_h m s F c_4)) rfl rfl ?_
  refine am_E.go (t2 := (22, [vR y, vI 4, vI 0, vU, vU, vU, vU], [], aq_h m s F c_4)) rfl rfl ?_
  refine am_E.go (t2 := (23, [vR y, vI 4, vI 0, vU, vU, vU, vU], [vI 0], aq_h m s F c_4)) rfl rfl ?_
  refine am_E.go (t2 := (24, [vR y, vI 4, vI 0, vU, vU, vU, vU], [vI 4, vI 0], aq_h m s F c_4)) rfl rfl ?_
  refine am_E.go (t2 := (27, [vR y, vI 4, vI 0, vU, vU, vU, vU], [], aq_h m s F c_4)) rfl rfl ?_
  refine am_E.go (t2 := (28, [vR y, vI 4, vI 0, vU, vU, vU, vU], [vR y], aq_h m s F c_4)) rfl rfl ?_
  refine aq_gf (v := vR (y + 18)) rfl (by omega) hFo (by decide) rfl ?_
  show am_E _ (31, [vR y, vI 4, vI 0, vU, vU, vU, vU], [vR (y + 18)], aq_h m s F c_4) _
  refine am_E.go (t2 := (32, [vR y, vI 4, vI 0, vU, vU, vU, vU], [vI 0, vR (y + 18)], aq_h m s F c_4)) rfl rfl ?_
  refine aq_al (ok := fun k => k == 0) (v := vI (c_4 (y + 18) 0)) rfl rfl (by omega) hG18 rfl (by decide) (by decide) rfl ?_
  rw [sc_4 (y + 18) (by omega), hA0]
  show am_E _ (33, [vR y, vI 4, vI 0, vU, vU, vU, vU], [vI 3], aq_h m s F c_4) _
  refine am_E.go (t2 := (34, [vR y, vI 4, vI 0, vU, vU, vU, vU], [vI 4, vI 3], aq_h m s F c_4)) rfl rfl ?_
  refine am_E.go (t2 := (130, [vR y, vI 4, vI 0, vU, vU, vU, vU], [], aq_h m s F c_4)) rfl rfl ?_
  refine am_E.go (t2 := (133, [vR y, vI 4, vI 1, vU, vU, vU, vU], [], aq_h m s F c_4)) rfl rfl ?_
  refine am_E.go (t2 := (22, [vR y, vI 4, vI 1, vU, vU, vU, vU], [], aq_h m s F c_4)) rfl rfl ?_
  refine am_E.go (t2 := (23, [vR y, vI 4, vI 1, vU, vU, vU, vU], [vI 1], aq_h m s F c_4)) rfl rfl ?_
  refine am_E.go (t2 := (24, [vR y, vI 4, vI 1, vU, vU, vU, vU], [vI 4, vI 1], aq_h m s F c_4)) rfl rfl ?_
  refine am_E.go (t2 := (27, [vR y, vI 4, vI 1, vU, vU, vU, vU], [], aq_h m s F c_4)) rfl rfl ?_
  refine am_E.go (t2 := (28, [vR y, vI 4, vI 1, vU, vU, vU, vU], [vR y], aq_h m s F c_4)) rfl rfl ?_
  refine aq_gf (v := vR (y + 18)) rfl (by omega) hFo (by decide) rfl ?_
  show am_E _ (31, [vR y, vI 4, vI 1, vU, vU, vU, vU], [vR (y + 18)], aq_h m s F c_4) _
  refine am_E.go (t2 := (32, [vR y, vI 4, vI 1, vU, vU, vU, vU], [vI 1, vR (y + 18)], aq_h m s F c_4)) rfl rfl ?_
  refine aq_al (ok := fun k => k == 0) (v := vI (c_4 (y + 18) 1)) rfl rfl (by omega) hG18 rfl (by decide) (by decide) rfl ?_
  rw [sc_4 (y + 18) (by omega), hA1]
  show am_E _ (33, [vR y, vI 4, vI 1, vU, vU, vU, vU], [vI 2], aq_h m s F c_4) _
  refine am_E.go (t2 := (34, [vR y, vI 4, vI 1, vU, vU, vU, vU], [vI 4, vI 2], aq_h m s F c_4)) rfl rfl ?_
  refine am_E.go (t2 := (130, [vR y, vI 4, vI 1, vU, vU, vU, vU], [], aq_h m s F c_4)) rfl rfl ?_
  refine am_E.go (t2 := (133, [vR y, vI 4, vI 2, vU, vU, vU, vU], [], aq_h m s F c_4)) rfl rfl ?_
  refine am_E.go (t2 := (22, [vR y, vI 4, vI 2, vU, vU, vU, vU], [], aq_h m s F c_4)) rfl rfl ?_
  refine am_E.go (t2 := (23, [vR y, vI 4, vI 2, vU, vU, vU, vU], [vI 2], aq_h m s F c_4)) rfl rfl ?_
  refine am_E.go (t2 := (24, [vR y, vI 4, vI 2, vU, vU, vU, vU], [vI 4, vI 2], aq_h m s F c_4)) rfl rfl ?_
  refine am_E.go (t2 := (27, [vR y, vI 4, vI 2, vU, vU, vU, vU], [], aq_h m s F c_4)) rfl rfl ?_
  refine am_E.go (t2 := (28, [vR y, vI 4, vI 2, vU, vU, vU, vU], [vR y], aq_h m s F c_4)) rfl rfl ?_
  refine aq_gf (v := vR (y + 18)) rfl (by omega) hFo (by decide) rfl ?_
  show am_E _ (31, [vR y, vI 4, vI 2, vU, vU, vU, vU], [vR (y + 18)], aq_h m s F c_4) _
  refine am_E.go (t2 := (32, [vR y, vI 4, vI 2, vU, vU, vU, vU], [vI 2, vR (y + 18)], aq_h m s F c_4)) rfl rfl ?_
  refine aq_al (ok := fun k => k == 0) (v := vI (c_4 (y + 18) 2)) rfl rfl (by omega) hG18 rfl (by decide) (by decide) rfl ?_
  rw [sc_4 (y + 18) (by omega), hA2]
  show am_E _ (33, [vR y, vI 4, vI 2, vU, vU, vU, vU], [vI 1], aq_h m s F c_4) _
  refine am_E.go (t2 := (34, [vR y, vI 4, vI 2, vU, vU, vU, vU], [vI 4, vI 1], aq_h m s F c_4)) rfl rfl ?_
  refine am_E.go (t2 := (130, [vR y, vI 4, vI 2, vU, vU, vU, vU], [], aq_h m s F c_4)) rfl rfl ?_
  refine am_E.go (t2 := (133, [vR y, vI 4, vI 3, vU, vU, vU, vU], [], aq_h m s F c_4)) rfl rfl ?_
  refine am_E.go (t2 := (22, [vR y, vI 4, vI 3, vU, vU, vU, vU], [], aq_h m s F c_4)) rfl rfl ?_
  refine am_E.go (t2 := (23, [vR y, vI 4, vI 3, vU, vU, vU, vU], [vI 3], aq_h m s F c_4)) rfl rfl ?_
  refine am_E.go (t2 := (24, [vR y, vI 4, vI 3, vU, vU, vU, vU], [vI 4, vI 3], aq_h m s F c_4)) rfl rfl ?_
  refine am_E.go (t2 := (27, [vR y, vI 4, vI 3, vU, vU, vU, vU], [], aq_h m s F c_4)) rfl rfl ?_
  refine am_E.go (t2 := (28, [vR y, vI 4, vI 3, vU, vU, vU, vU], [vR y], aq_h m s F c_4)) rfl rfl ?_
  refine aq_gf (v := vR (y + 18)) rfl (by omega) hFo (by decide) rfl ?_
  show am_E _ (31, [vR y, vI 4, vI 3, vU, vU, vU, vU], [vR (y + 18)], aq_h m s F c_4) _
  refine am_E.go (t2 := (32, [vR y, vI 4, vI 3, vU, vU, vU, vU], [vI 3, vR (y + 18)], aq_h m s F c_4)) rfl rfl ?_
  refine aq_al (ok := fun k => k == 0) (v := vI (c_4 (y + 18) 3)) rfl rfl (by omega) hG18 rfl (by decide) (by decide) rfl ?_
  rw [sc_4 (y + 18) (by omega), hA3]
  show am_E _ (33, [vR y, vI 4, vI 3, vU, vU, vU, vU], [vI 0], aq_h m s F c_4) _
  refine am_E.go (t2 := (34, [vR y, vI 4, vI 3, vU, vU, vU, vU], [vI 4, vI 0], aq_h m s F c_4)) rfl rfl ?_
  refine am_E.go (t2 := (130, [vR y, vI 4, vI 3, vU, vU, vU, vU], [], aq_h m s F c_4)) rfl rfl ?_
  refine am_E.go (t2 := (133, [vR y, vI 4, vI 4, vU, vU, vU, vU], [], aq_h m s F c_4)) rfl rfl ?_
  refine am_E.go (t2 := (22, [vR y, vI 4, vI 4, vU, vU, vU, vU], [], aq_h m s F c_4)) rfl rfl ?_
  refine am_E.go (t2 := (23, [vR y, vI 4, vI 4, vU, vU, vU, vU], [vI 4], aq_h m s F c_4)) rfl rfl ?_
  refine am_E.go (t2 := (24, [vR y, vI 4, vI 4, vU, vU, vU, vU], [vI 4, vI 4], aq_h m s F c_4)) rfl rfl ?_
  refine am_E.go (t2 := (136, [vR y, vI 4, vI 4, vU, vU, vU, vU], [], aq_h m s F c_4)) rfl rfl ?_
  refine am_E.go (t2 := (137, [vR y, vI 4, vI 4, vU, vU, vU, vU], [vI 0], aq_h m s F c_4)) rfl rfl ?_
  refine am_E.go (t2 := (138, [vR y, vI 4, vI 0, vU, vU, vU, vU], [], aq_h m s F c_4)) rfl rfl ?_
  refine am_E.go (t2 := (139, [vR y, vI 4, vI 0, vU, vU, vU, vU], [vI 0], aq_h m s F c_4)) rfl rfl ?_
  refine am_E.go (t2 := (140, [vR y, vI 4, vI 0, vU, vU, vU, vU], [vI 4, vI 0], aq_h m s F c_4)) rfl rfl ?_
  refine am_E.go (t2 := (143, [vR y, vI 4, vI 0, vU, vU, vU, vU], [], aq_h m s F c_4)) rfl rfl ?_
  refine am_E.go (t2 := (144, [vR y, vI 4, vI 0, vU, vU, vU, vU], [vR y], aq_h m s F c_4)) rfl rfl ?_
  refine aq_gf (v := vR (y + 13)) rfl (by omega) hFo (by decide) rfl ?_
  show am_E _ (147, [vR y, vI 4, vI 0, vU, vU, vU, vU], [vR (y + 13)], aq_h m s F c_4) _
  refine am_E.go (t2 := (148, [vR y, vI 4, vI 0, vU, vU, vU, vU], [vI 0, vR (y + 13)], aq_h m s F c_4)) rfl rfl ?_
  refine aq_al (ok := fun k => k == 1) (v := vI (c_4 (y + 13) 0)) rfl rfl (by omega) hG13 rfl (by decide) (by decide) rfl ?_
  rw [mtc_4.1]
  show am_E _ (149, [vR y, vI 4, vI 0, vU, vU, vU, vU], [vI 0], aq_h m s F c_4) _
  refine am_E.go (t2 := (152, [vR y, vI 4, vI 0, vU, vU, vU, vU], [], aq_h m s F c_4)) rfl rfl ?_
  refine am_E.go (t2 := (153, [vR y, vI 4, vI 0, vU, vU, vU, vU], [vR y], aq_h m s F c_4)) rfl rfl ?_
  refine aq_gf (v := vR (y + 19)) rfl (by omega) hFo (by decide) rfl ?_
  show am_E _ (156, [vR y, vI 4, vI 0, vU, vU, vU, vU], [vR (y + 19)], aq_h m s F c_4) _
  refine am_E.go (t2 := (157, [vR y, vI 4, vI 0, vU, vU, vU, vU], [vI 0, vR (y + 19)], aq_h m s F c_4)) rfl rfl ?_
  refine aq_al (ok := fun k => k == 0) (v := vI (c_4 (y + 19) 0)) rfl rfl (by omega) hG19 rfl (by decide) (by decide) rfl ?_
  rw [sc_4 (y + 19) (by omega), hB0]
  show am_E _ (158, [vR y, vI 4, vI 0, vU, vU, vU, vU], [vI 1], aq_h m s F c_4) _
  refine am_E.go (t2 := (159, [vR y, vI 4, vI 0, vU, vU, vU, vU], [vI 4, vI 1], aq_h m s F c_4)) rfl rfl ?_
  refine am_E.go (t2 := (165, [vR y, vI 4, vI 0, vU, vU, vU, vU], [], aq_h m s F c_4)) rfl rfl ?_
  refine am_E.go (t2 := (168, [vR y, vI 4, vI 1, vU, vU, vU, vU], [], aq_h m s F c_4)) rfl rfl ?_
  refine am_E.go (t2 := (138, [vR y, vI 4, vI 1, vU, vU, vU, vU], [], aq_h m s F c_4)) rfl rfl ?_
  refine am_E.go (t2 := (139, [vR y, vI 4, vI 1, vU, vU, vU, vU], [vI 1], aq_h m s F c_4)) rfl rfl ?_
  refine am_E.go (t2 := (140, [vR y, vI 4, vI 1, vU, vU, vU, vU], [vI 4, vI 1], aq_h m s F c_4)) rfl rfl ?_
  refine am_E.go (t2 := (143, [vR y, vI 4, vI 1, vU, vU, vU, vU], [], aq_h m s F c_4)) rfl rfl ?_
  refine am_E.go (t2 := (144, [vR y, vI 4, vI 1, vU, vU, vU, vU], [vR y], aq_h m s F c_4)) rfl rfl ?_
  refine aq_gf (v := vR (y + 13)) rfl (by omega) hFo (by decide) rfl ?_
  show am_E _ (147, [vR y, vI 4, vI 1, vU, vU, vU, vU], [vR (y + 13)], aq_h m s F c_4) _
  refine am_E.go (t2 := (148, [vR y, vI 4, vI 1, vU, vU, vU, vU], [vI 1, vR (y + 13)], aq_h m s F c_4)) rfl rfl ?_
  refine aq_al (ok := fun k => k == 1) (v := vI (c_4 (y + 13) 1)) rfl rfl (by omega) hG13 rfl (by decide) (by decide) rfl ?_
  rw [mtc_4.2.1]
  show am_E _ (149, [vR y, vI 4, vI 1, vU, vU, vU, vU], [vI 0], aq_h m s F c_4) _
  refine am_E.go (t2 := (152, [vR y, vI 4, vI 1, vU, vU, vU, vU], [], aq_h m s F c_4)) rfl rfl ?_
  refine am_E.go (t2 := (153, [vR y, vI 4, vI 1, vU, vU, vU, vU], [vR y], aq_h m s F c_4)) rfl rfl ?_
  refine aq_gf (v := vR (y + 19)) rfl (by omega) hFo (by decide) rfl ?_
  show am_E _ (156, [vR y, vI 4, vI 1, vU, vU, vU, vU], [vR (y + 19)], aq_h m s F c_4) _
  refine am_E.go (t2 := (157, [vR y, vI 4, vI 1, vU, vU, vU, vU], [vI 1, vR (y + 19)], aq_h m s F c_4)) rfl rfl ?_
  refine aq_al (ok := fun k => k == 0) (v := vI (c_4 (y + 19) 1)) rfl rfl (by omega) hG19 rfl (by decide) (by decide) rfl ?_
  rw [sc_4 (y + 19) (by omega), hB1]
  show am_E _ (158, [vR y, vI 4, vI 1, vU, vU, vU, vU], [vI 0], aq_h m s F c_4) _
  refine am_E.go (t2 := (159, [vR y, vI 4, vI 1, vU, vU, vU, vU], [vI 4, vI 0], aq_h m s F c_4)) rfl rfl ?_
  refine am_E.go (t2 := (165, [vR y, vI 4, vI 1, vU, vU, vU, vU], [], aq_h m s F c_4)) rfl rfl ?_
  refine am_E.go (t2 := (168, [vR y, vI 4, vI 2, vU, vU, vU, vU], [], aq_h m s F c_4)) rfl rfl ?_
  refine am_E.go (t2 := (138, [vR y, vI 4, vI 2, vU, vU, vU, vU], [], aq_h m s F c_4)) rfl rfl ?_
  refine am_E.go (t2 := (139, [vR y, vI 4, vI 2, vU, vU, vU, vU], [vI 2], aq_h m s F c_4)) rfl rfl ?_
  refine am_E.go (t2 := (140, [vR y, vI 4, vI 2, vU, vU, vU, vU], [vI 4, vI 2], aq_h m s F c_4)) rfl rfl ?_
  refine am_E.go (t2 := (143, [vR y, vI 4, vI 2, vU, vU, vU, vU], [], aq_h m s F c_4)) rfl rfl ?_
  refine am_E.go (t2 := (144, [vR y, vI 4, vI 2, vU, vU, vU, vU], [vR y], aq_h m s F c_4)) rfl rfl ?_
  refine aq_gf (v := vR (y + 13)) rfl (by omega) hFo (by decide) rfl ?_
  show am_E _ (147, [vR y, vI 4, vI 2, vU, vU, vU, vU], [vR (y + 13)], aq_h m s F c_4) _
  refine am_E.go (t2 := (148, [vR y, vI 4, vI 2, vU, vU, vU, vU], [vI 2, vR (y + 13)], aq_h m s F c_4)) rfl rfl ?_
  refine aq_al (ok := fun k => k == 1) (v := vI (c_4 (y + 13) 2)) rfl rfl (by omega) hG13 rfl (by decide) (by decide) rfl ?_
  rw [mtc_4.2.2.1]
  show am_E _ (149, [vR y, vI 4, vI 2, vU, vU, vU, vU], [vI 0], aq_h m s F c_4) _
  refine am_E.go (t2 := (152, [vR y, vI 4, vI 2, vU, vU, vU, vU], [], aq_h m s F c_4)) rfl rfl ?_
  refine am_E.go (t2 := (153, [vR y, vI 4, vI 2, vU, vU, vU, vU], [vR y], aq_h m s F c_4)) rfl rfl ?_
  refine aq_gf (v := vR (y + 19)) rfl (by omega) hFo (by decide) rfl ?_
  show am_E _ (156, [vR y, vI 4, vI 2, vU, vU, vU, vU], [vR (y + 19)], aq_h m s F c_4) _
  refine am_E.go (t2 := (157, [vR y, vI 4, vI 2, vU, vU, vU, vU], [vI 2, vR (y + 19)], aq_h m s F c_4)) rfl rfl ?_
  refine aq_al (ok := fun k => k == 0) (v := vI (c_4 (y + 19) 2)) rfl rfl (by omega) hG19 rfl (by decide) (by decide) rfl ?_
  rw [sc_4 (y + 19) (by omega), hB2]
  show am_E _ (158, [vR y, vI 4, vI 2, vU, vU, vU, vU], [vI 3], aq_h m s F c_4) _
  refine am_E.go (t2 := (159, [vR y, vI 4, vI 2, vU, vU, vU, vU], [vI 4, vI 3], aq_h m s F c_4)) rfl rfl ?_
  refine am_E.go (t2 := (165, [vR y, vI 4, vI 2, vU, vU, vU, vU], [], aq_h m s F c_4)) rfl rfl ?_
  refine am_E.go (t2 := (168, [vR y, vI 4, vI 3, vU, vU, vU, vU], [], aq_h m s F c_4)) rfl rfl ?_
  refine am_E.go (t2 := (138, [vR y, vI 4, vI 3, vU, vU, vU, vU], [], aq_h m s F c_4)) rfl rfl ?_
  refine am_E.go (t2 := (139, [vR y, vI 4, vI 3, vU, vU, vU, vU], [vI 3], aq_h m s F c_4)) rfl rfl ?_
  refine am_E.go (t2 := (140, [vR y, vI 4, vI 3, vU, vU, vU, vU], [vI 4, vI 3], aq_h m s F c_4)) rfl rfl ?_
  refine am_E.go (t2 := (143, [vR y, vI 4, vI 3, vU, vU, vU, vU], [], aq_h m s F c_4)) rfl rfl ?_
  refine am_E.go (t2 := (144, [vR y, vI 4, vI 3, vU, vU, vU, vU], [vR y], aq_h m s F c_4)) rfl rfl ?_
  refine aq_gf (v := vR (y + 13)) rfl (by omega) hFo (by decide) rfl ?_
  show am_E _ (147, [vR y, vI 4, vI 3, vU, vU, vU, vU], [vR (y + 13)], aq_h m s F c_4) _
  refine am_E.go (t2 := (148, [vR y, vI 4, vI 3, vU, vU, vU, vU], [vI 3, vR (y + 13)], aq_h m s F c_4)) rfl rfl ?_
  refine aq_al (ok := fun k => k == 1) (v := vI (c_4 (y + 13) 3)) rfl rfl (by omega) hG13 rfl (by decide) (by decide) rfl ?_
  rw [mtc_4.2.2.2]
  show am_E _ (149, [vR y, vI 4, vI 3, vU, vU, vU, vU], [vI 0], aq_h m s F c_4) _
  refine am_E.go (t2 := (152, [vR y, vI 4, vI 3, vU, vU, vU, vU], [], aq_h m s F c_4)) rfl rfl ?_
  refine am_E.go (t2 := (153, [vR y, vI 4, vI 3, vU, vU, vU, vU], [vR y], aq_h m s F c_4)) rfl rfl ?_
  refine aq_gf (v := vR (y + 19)) rfl (by omega) hFo (by decide) rfl ?_
  show am_E _ (156, [vR y, vI 4, vI 3, vU, vU, vU, vU], [vR (y + 19)], aq_h m s F c_4) _
  refine am_E.go (t2 := (157, [vR y, vI 4, vI 3, vU, vU, vU, vU], [vI 3, vR (y + 19)], aq_h m s F c_4)) rfl rfl ?_
  refine aq_al (ok := fun k => k == 0) (v := vI (c_4 (y + 19) 3)) rfl rfl (by omega) hG19 rfl (by decide) (by decide) rfl ?_
  rw [sc_4 (y + 19) (by omega), hB3]
  show am_E _ (158, [vR y, vI 4, vI 3, vU, vU, vU, vU], [vI 2], aq_h m s F c_4) _
  refine am_E.go (t2 := (159, [vR y, vI 4, vI 3, vU, vU, vU, vU], [vI 4, vI 2], aq_h m s F c_4)) rfl rfl ?_
  refine am_E.go (t2 := (165, [vR y, vI 4, vI 3, vU, vU, vU, vU], [], aq_h m s F c_4)) rfl rfl ?_
  refine am_E.go (t2 := (168, [vR y, vI 4, vI 4, vU, vU, vU, vU], [], aq_h m s F c_4)) rfl rfl ?_
  refine am_E.go (t2 := (138, [vR y, vI 4, vI 4, vU, vU, vU, vU], [], aq_h m s F c_4)) rfl rfl ?_
  refine am_E.go (t2 := (139, [vR y, vI 4, vI 4, vU, vU, vU, vU], [vI 4], aq_h m s F c_4)) rfl rfl ?_
  refine am_E.go (t2 := (140, [vR y, vI 4, vI 4, vU, vU, vU, vU], [vI 4, vI 4], aq_h m s F c_4)) rfl rfl ?_
  refine am_E.go (t2 := (171, [vR y, vI 4, vI 4, vU, vU, vU, vU], [], aq_h m s F c_4)) rfl rfl ?_
  refine am_E.go (t2 := (172, [vR y, vI 4, vI 4, vU, vU, vU, vU], [vI 0], aq_h m s F c_4)) rfl rfl ?_
  refine am_E.go (t2 := (173, [vR y, vI 4, vI 0, vU, vU, vU, vU], [], aq_h m s F c_4)) rfl rfl ?_
  refine am_E.go (t2 := (174, [vR y, vI 4, vI 0, vU, vU, vU, vU], [vI 0], aq_h m s F c_4)) rfl rfl ?_
  refine am_E.go (t2 := (175, [vR y, vI 4, vI 0, vI 0, vU, vU, vU], [], aq_h m s F c_4)) rfl rfl ?_
  refine am_E.go (t2 := (176, [vR y, vI 4, vI 0, vI 0, vU, vU, vU], [vI 0], aq_h m s F c_4)) rfl rfl ?_
  refine am_E.go (t2 := (177, [vR y, vI 4, vI 0, vI 0, vU, vU, vU], [vI 4, vI 0], aq_h m s F c_4)) rfl rfl ?_
  refine am_E.go (t2 := (180, [vR y, vI 4, vI 0, vI 0, vU, vU, vU], [], aq_h m s F c_4)) rfl rfl ?_
  refine am_E.go (t2 := (181, [vR y, vI 4, vI 0, vI 0, vU, vU, vU], [vR y], aq_h m s F c_4)) rfl rfl ?_
  refine aq_gf (v := vR (y + 13)) rfl (by omega) hFo (by decide) rfl ?_
  show am_E _ (184, [vR y, vI 4, vI 0, vI 0, vU, vU, vU], [vR (y + 13)], aq_h m s F c_4) _
  refine am_E.go (t2 := (185, [vR y, vI 4, vI 0, vI 0, vU, vU, vU], [vI 0, vR (y + 13)], aq_h m s F c_4)) rfl rfl ?_
  refine aq_al (ok := fun k => k == 1) (v := vI (c_4 (y + 13) 0)) rfl rfl (by omega) hG13 rfl (by decide) (by decide) rfl ?_
  rw [mtc_4.1]
  show am_E _ (186, [vR y, vI 4, vI 0, vI 0, vU, vU, vU], [vI 0], aq_h m s F c_4) _
  refine am_E.go (t2 := (189, [vR y, vI 4, vI 0, vI 0, vU, vU, vU], [], aq_h m s F c_4)) rfl rfl ?_
  refine am_E.go (t2 := (192, [vR y, vI 4, vI 1, vI 0, vU, vU, vU], [], aq_h m s F c_4)) rfl rfl ?_
  refine am_E.go (t2 := (193, [vR y, vI 4, vI 1, vI 0, vU, vU, vU], [vI 0], aq_h m s F c_4)) rfl rfl ?_
  refine am_E.go (t2 := (195, [vR y, vI 4, vI 1, vI 0, vI 0, vU, vU], [], aq_h m s F c_4)) rfl rfl ?_
  refine am_E.go (t2 := (196, [vR y, vI 4, vI 1, vI 0, vI 0, vU, vU], [vI 1], aq_h m s F c_4)) rfl rfl ?_
  refine am_E.go (t2 := (198, [vR y, vI 4, vI 1, vI 0, vI 0, vI 1, vU], [], aq_h m s F c_4)) rfl rfl ?_
  refine am_E.go (t2 := (200, [vR y, vI 4, vI 1, vI 0, vI 0, vI 1, vU], [vI 1], aq_h m s F c_4)) rfl rfl ?_
  refine am_E.go (t2 := (203, [vR y, vI 4, vI 1, vI 0, vI 0, vI 1, vU], [], aq_h m s F c_4)) rfl rfl ?_
  refine am_E.go (t2 := (204, [vR y, vI 4, vI 1, vI 0, vI 0, vI 1, vU], [vR y], aq_h m s F c_4)) rfl rfl ?_
  refine aq_gf (v := vR (y + 13)) rfl (by omega) hFo (by decide) rfl ?_
  show am_E _ (207, [vR y, vI 4, vI 1, vI 0, vI 0, vI 1, vU], [vR (y + 13)], aq_h m s F c_4) _
  refine am_E.go (t2 := (209, [vR y, vI 4, vI 1, vI 0, vI 0, vI 1, vU], [vI 0, vR (y + 13)], aq_h m s F c_4)) rfl rfl ?_
  refine am_E.go (t2 := (210, [vR y, vI 4, vI 1, vI 0, vI 0, vI 1, vU], [vI 1, vI 0, vR (y + 13)], aq_h m s F c_4)) rfl rfl ?_
  refine aq_as (kd := 1) rfl rfl (by omega) hG13 (by omega) (by omega) rfl rfl ?_
  show am_E _ (211, [vR y, vI 4, vI 1, vI 0, vI 0, vI 1, vU], [], aq_h m s F (aq_u c_4 (y + 13) 0 1)) _
  generalize hdc_5 : aq_u c_4 (y + 13) 0 1 = c_5
  have sc_5 := aq_smu sc_4 hdc_5 rfl
  have mtc_5 := mt_0 mtc_4 hdc_5
  refine am_E.go (t2 := (212, [vR y, vI 4, vI 1, vI 0, vI 0, vI 1, vU], [vR y], aq_h m s F c_5)) rfl rfl ?_
  refine aq_gf (v := vR (y + 18)) rfl (by omega) hFo (by decide) rfl ?_
  show am_E _ (215, [vR y, vI 4, vI 1, vI 0, vI 0, vI 1, vU], [vR (y + 18)], aq_h m s F c_5) _
  refine am_E.go (t2 := (217, [vR y, vI 4, vI 1, vI 0, vI 0, vI 1, vU], [vI 0, vR (y + 18)], aq_h m s F c_5)) rfl rfl ?_
  refine aq_al (ok := fun k => k == 0) (v := vI (c_5 (y + 18) 0)) rfl rfl (by omega) hG18 rfl (by decide) (by decide) rfl ?_
  rw [sc_5 (y + 18) (by omega), hA0]
  show am_E _ (218, [vR y, vI 4, vI 1, vI 0, vI 0, vI 1, vU], [vI 3], aq_h m s F c_5) _
  refine am_E.go (t2 := (220, [vR y, vI 4, vI 1, vI 0, vI 3, vI 1, vU], [], aq_h m s F c_5)) rfl rfl ?_
  refine am_E.go (t2 := (221, [vR y, vI 4, vI 1, vI 0, vI 3, vI 1, vU], [vR y], aq_h m s F c_5)) rfl rfl ?_
  refine aq_gf (v := vR (y + 13)) rfl (by omega) hFo (by decide) rfl ?_
  show am_E _ (224, [vR y, vI 4, vI 1, vI 0, vI 3, vI 1, vU], [vR (y + 13)], aq_h m s F c_5) _
  refine am_E.go (t2 := (226, [vR y, vI 4, vI 1, vI 0, vI 3, vI 1, vU], [vI 3, vR (y + 13)], aq_h m s F c_5)) rfl rfl ?_
  refine am_E.go (t2 := (227, [vR y, vI 4, vI 1, vI 0, vI 3, vI 1, vU], [vI 1, vI 3, vR (y + 13)], aq_h m s F c_5)) rfl rfl ?_
  refine aq_as (kd := 1) rfl rfl (by omega) hG13 (by omega) (by omega) rfl rfl ?_
  show am_E _ (228, [vR y, vI 4, vI 1, vI 0, vI 3, vI 1, vU], [], aq_h m s F (aq_u c_5 (y + 13) 3 1)) _
  generalize hdc_6 : aq_u c_5 (y + 13) 3 1 = c_6
  have sc_6 := aq_smu sc_5 hdc_6 rfl
  have mtc_6 := mt_3 mtc_5 hdc_6
  refine am_E.go (t2 := (229, [vR y, vI 4, vI 1, vI 0, vI 3, vI 1, vU], [vR y], aq_h m s F c_6)) rfl rfl ?_
  refine aq_gf (v := vR (y + 19)) rfl (by omega) hFo (by decide) rfl ?_
  show am_E _ (232, [vR y, vI 4, vI 1, vI 0, vI 3, vI 1, vU], [vR (y + 19)], aq_h m s F c_6) _
  refine am_E.go (t2 := (234, [vR y, vI 4, vI 1, vI 0, vI 3, vI 1, vU], [vI 3, vR (y + 19)], aq_h m s F c_6)) rfl rfl ?_
  refine aq_al (ok := fun k => k == 0) (v := vI (c_6 (y + 19) 3)) rfl rfl (by omega) hG19 rfl (by decide) (by decide) rfl ?_
  rw [sc_6 (y + 19) (by omega), hB3]
  show am_E _ (235, [vR y, vI 4, vI 1, vI 0, vI 3, vI 1, vU], [vI 2], aq_h m s F c_6) _
  refine am_E.go (t2 := (237, [vR y, vI 4, vI 1, vI 0, vI 2, vI 1, vU], [], aq_h m s F c_6)) rfl rfl ?_
  refine am_E.go (t2 := (239, [vR y, vI 4, vI 1, vI 0, vI 2, vI 1, vU], [vI 2], aq_h m s F c_6)) rfl rfl ?_
  refine am_E.go (t2 := (240, [vR y, vI 4, vI 1, vI 0, vI 2, vI 1, vU], [vI 0, vI 2], aq_h m s F c_6)) rfl rfl ?_
  refine am_E.go (t2 := (243, [vR y, vI 4, vI 1, vI 0, vI 2, vI 1, vU], [], aq_h m s F c_6)) rfl rfl ?_
  refine am_E.go (t2 := (244, [vR y, vI 4, vI 1, vI 0, vI 2, vI 1, vU], [vI 1], aq_h m s F c_6)) rfl rfl ?_
  refine am_E.go (t2 := (248, [vR y, vI 4, vI 1, vI 0, vI 2, vI 1, vU], [vI 1], aq_h m s F c_6)) rfl rfl ?_
  refine am_E.go (t2 := (250, [vR y, vI 4, vI 1, vI 0, vI 2, vI 1, vU], [], aq_h m s F c_6)) rfl rfl ?_
  refine am_E.go (t2 := (198, [vR y, vI 4, vI 1, vI 0, vI 2, vI 1, vU], [], aq_h m s F c_6)) rfl rfl ?_
  refine am_E.go (t2 := (200, [vR y, vI 4, vI 1, vI 0, vI 2, vI 1, vU], [vI 1], aq_h m s F c_6)) rfl rfl ?_
  refine am_E.go (t2 := (203, [vR y, vI 4, vI 1, vI 0, vI 2, vI 1, vU], [], aq_h m s F c_6)) rfl rfl ?_
  refine am_E.go (t2 := (204, [vR y, vI 4, vI 1, vI 0, vI 2, vI 1, vU], [vR y], aq_h m s F c_6)) rfl rfl ?_
  refine aq_gf (v := vR (y + 13)) rfl (by omega) hFo (by decide) rfl ?_
  show am_E _ (207, [vR y, vI 4, vI 1, vI 0, vI 2, vI 1, vU], [vR (y + 13)], aq_h m s F c_6) _
  refine am_E.go (t2 := (209, [vR y, vI 4, vI 1, vI 0, vI 2, vI 1, vU], [vI 2, vR (y + 13)], aq_h m s F c_6)) rfl rfl ?_
  refine am_E.go (t2 := (210, [vR y, vI 4, vI 1, vI 0, vI 2, vI 1, vU], [vI 1, vI 2, vR (y + 13)], aq_h m s F c_6)) rfl rfl ?_
  refine aq_as (kd := 1) rfl rfl (by omega) hG13 (by omega) (by omega) rfl rfl ?_
  show am_E _ (211, [vR y, vI 4, vI 1, vI 0, vI 2, vI 1, vU], [], aq_h m s F (aq_u c_6 (y + 13) 2 1)) _
  generalize hdc_7 : aq_u c_6 (y + 13) 2 1 = c_7
  have sc_7 := aq_smu sc_6 hdc_7 rfl
  have mtc_7 := mt_2 mtc_6 hdc_7
  refine am_E.go (t2 := (212, [vR y, vI 4, vI 1, vI 0, vI 2, vI 1, vU], [vR y], aq_h m s F c_7)) rfl rfl ?_
  refine aq_gf (v := vR (y + 18)) rfl (by omega) hFo (by decide) rfl ?_
  show am_E _ (215, [vR y, vI 4, vI 1, vI 0, vI 2, vI 1, vU], [vR (y + 18)], aq_h m s F c_7) _
  refine am_E.go (t2 := (217, [vR y, vI 4, vI 1, vI 0, vI 2, vI 1, vU], [vI 2, vR (y + 18)], aq_h m s F c_7)) rfl rfl ?_
  refine aq_al (ok := fun k => k == 0) (v := vI (c_7 (y + 18) 2)) rfl rfl (by omega) hG18 rfl (by decide) (by decide) rfl ?_
  rw [sc_7 (y + 18) (by omega), hA2]
  show am_E _ (218, [vR y, vI 4, vI 1, vI 0, vI 2, vI 1, vU], [vI 1], aq_h m s F c_7) _
  refine am_E.go (t2 := (220, [vR y, vI 4, vI 1, vI 0, vI 1, vI 1, vU], [], aq_h m s F c_7)) rfl rfl ?_
  refine am_E.go (t2 := (221, [vR y, vI 4, vI 1, vI 0, vI 1, vI 1, vU], [vR y], aq_h m s F c_7)) rfl rfl ?_
  refine aq_gf (v := vR (y + 13)) rfl (by omega) hFo (by decide) rfl ?_
  show am_E _ (224, [vR y, vI 4, vI 1, vI 0, vI 1, vI 1, vU], [vR (y + 13)], aq_h m s F c_7) _
  refine am_E.go (t2 := (226, [vR y, vI 4, vI 1, vI 0, vI 1, vI 1, vU], [vI 1, vR (y + 13)], aq_h m s F c_7)) rfl rfl ?_
  refine am_E.go (t2 := (227, [vR y, vI 4, vI 1, vI 0, vI 1, vI 1, vU], [vI 1, vI 1, vR (y + 13)], aq_h m s F c_7)) rfl rfl ?_
  refine aq_as (kd := 1) rfl rfl (by omega) hG13 (by omega) (by omega) rfl rfl ?_
  show am_E _ (228, [vR y, vI 4, vI 1, vI 0, vI 1, vI 1, vU], [], aq_h m s F (aq_u c_7 (y + 13) 1 1)) _
  generalize hdc_8 : aq_u c_7 (y + 13) 1 1 = c_8
  have sc_8 := aq_smu sc_7 hdc_8 rfl
  have mtc_8 := mt_1 mtc_7 hdc_8
  refine am_E.go (t2 := (229, [vR y, vI 4, vI 1, vI 0, vI 1, vI 1, vU], [vR y], aq_h m s F c_8)) rfl rfl ?_
  refine aq_gf (v := vR (y + 19)) rfl (by omega) hFo (by decide) rfl ?_
  show am_E _ (232, [vR y, vI 4, vI 1, vI 0, vI 1, vI 1, vU], [vR (y + 19)], aq_h m s F c_8) _
  refine am_E.go (t2 := (234, [vR y, vI 4, vI 1, vI 0, vI 1, vI 1, vU], [vI 1, vR (y + 19)], aq_h m s F c_8)) rfl rfl ?_
  refine aq_al (ok := fun k => k == 0) (v := vI (c_8 (y + 19) 1)) rfl rfl (by omega) hG19 rfl (by decide) (by decide) rfl ?_
  rw [sc_8 (y + 19) (by omega), hB1]
  show am_E _ (235, [vR y, vI 4, vI 1, vI 0, vI 1, vI 1, vU], [vI 0], aq_h m s F c_8) _
  refine am_E.go (t2 := (237, [vR y, vI 4, vI 1, vI 0, vI 0, vI 1, vU], [], aq_h m s F c_8)) rfl rfl ?_
  refine am_E.go (t2 := (239, [vR y, vI 4, vI 1, vI 0, vI 0, vI 1, vU], [vI 0], aq_h m s F c_8)) rfl rfl ?_
  refine am_E.go (t2 := (240, [vR y, vI 4, vI 1, vI 0, vI 0, vI 1, vU], [vI 0, vI 0], aq_h m s F c_8)) rfl rfl ?_
  refine am_E.go (t2 := (247, [vR y, vI 4, vI 1, vI 0, vI 0, vI 1, vU], [], aq_h m s F c_8)) rfl rfl ?_
  refine am_E.go (t2 := (248, [vR y, vI 4, vI 1, vI 0, vI 0, vI 1, vU], [vI 0], aq_h m s F c_8)) rfl rfl ?_
  refine am_E.go (t2 := (250, [vR y, vI 4, vI 1, vI 0, vI 0, vI 0, vU], [], aq_h m s F c_8)) rfl rfl ?_
  refine am_E.go (t2 := (198, [vR y, vI 4, vI 1, vI 0, vI 0, vI 0, vU], [], aq_h m s F c_8)) rfl rfl ?_
  refine am_E.go (t2 := (200, [vR y, vI 4, vI 1, vI 0, vI 0, vI 0, vU], [vI 0], aq_h m s F c_8)) rfl rfl ?_
  refine am_E.go (t2 := (253, [vR y, vI 4, vI 1, vI 0, vI 0, vI 0, vU], [], aq_h m s F c_8)) rfl rfl ?_
  refine am_E.go (t2 := (256, [vR y, vI 4, vI 1, vI 1, vI 0, vI 0, vU], [], aq_h m s F c_8)) rfl rfl ?_
  refine am_E.go (t2 := (175, [vR y, vI 4, vI 1, vI 1, vI 0, vI 0, vU], [], aq_h m s F c_8)) rfl rfl ?_
  refine am_E.go (t2 := (176, [vR y, vI 4, vI 1, vI 1, vI 0, vI 0, vU], [vI 1], aq_h m s F c_8)) rfl rfl ?_
  refine am_E.go (t2 := (177, [vR y, vI 4, vI 1, vI 1, vI 0, vI 0, vU], [vI 4, vI 1], aq_h m s F c_8)) rfl rfl ?_
  refine am_E.go (t2 := (180, [vR y, vI 4, vI 1, vI 1, vI 0, vI 0, vU], [], aq_h m s F c_8)) rfl rfl ?_
  refine am_E.go (t2 := (181, [vR y, vI 4, vI 1, vI 1, vI 0, vI 0, vU], [vR y], aq_h m s F c_8)) rfl rfl ?_
  refine aq_gf (v := vR (y + 13)) rfl (by omega) hFo (by decide) rfl ?_
  show am_E _ (184, [vR y, vI 4, vI 1, vI 1, vI 0, vI 0, vU], [vR (y + 13)], aq_h m s F c_8) _
  refine am_E.go (t2 := (185, [vR y, vI 4, vI 1, vI 1, vI 0, vI 0, vU], [vI 1, vR (y + 13)], aq_h m s F c_8)) rfl rfl ?_
  refine aq_al (ok := fun k => k == 1) (v := vI (c_8 (y + 13) 1)) rfl rfl (by omega) hG13 rfl (by decide) (by decide) rfl ?_
  rw [mtc_8.2.1]
  show am_E _ (186, [vR y, vI 4, vI 1, vI 1, vI 0, vI 0, vU], [vI 1], aq_h m s F c_8) _
  refine am_E.go (t2 := (253, [vR y, vI 4, vI 1, vI 1, vI 0, vI 0, vU], [], aq_h m s F c_8)) rfl rfl ?_
  refine am_E.go (t2 := (256, [vR y, vI 4, vI 1, vI 2, vI 0, vI 0, vU], [], aq_h m s F c_8)) rfl rfl ?_
  refine am_E.go (t2 := (175, [vR y, vI 4, vI 1, vI 2, vI 0, vI 0, vU], [], aq_h m s F c_8)) rfl rfl ?_
  refine am_E.go (t2 := (176, [vR y, vI 4, vI 1, vI 2, vI 0, vI 0, vU], [vI 2], aq_h m s F c_8)) rfl rfl ?_
  refine am_E.go (t2 := (177, [vR y, vI 4, vI 1, vI 2, vI 0, vI 0, vU], [vI 4, vI 2], aq_h m s F c_8)) rfl rfl ?_
  refine am_E.go (t2 := (180, [vR y, vI 4, vI 1, vI 2, vI 0, vI 0, vU], [], aq_h m s F c_8)) rfl rfl ?_
  refine am_E.go (t2 := (181, [vR y, vI 4, vI 1, vI 2, vI 0, vI 0, vU], [vR y], aq_h m s F c_8)) rfl rfl ?_
  refine aq_gf (v := vR (y + 13)) rfl (by omega) hFo (by decide) rfl ?_
  show am_E _ (184, [vR y, vI 4, vI 1, vI 2, vI 0, vI 0, vU], [vR (y + 13)], aq_h m s F c_8) _
  refine am_E.go (t2 := (185, [vR y, vI 4, vI 1, vI 2, vI 0, vI 0, vU], [vI 2, vR (y + 13)], aq_h m s F c_8)) rfl rfl ?_
  refine aq_al (ok := fun k => k == 1) (v := vI (c_8 (y + 13) 2)) rfl rfl (by omega) hG13 rfl (by decide) (by decide) rfl ?_
  rw [mtc_8.2.2.1]
  show am_E _ (186, [vR y, vI 4, vI 1, vI 2, vI 0, vI 0, vU], [vI 1], aq_h m s F c_8) _
  refine am_E.go (t2 := (253, [vR y, vI 4, vI 1, vI 2, vI 0, vI 0, vU], [], aq_h m s F c_8)) rfl rfl ?_
  refine am_E.go (t2 := (256, [vR y, vI 4, vI 1, vI 3, vI 0, vI 0, vU], [], aq_h m s F c_8)) rfl rfl ?_
  refine am_E.go (t2 := (175, [vR y, vI 4, vI 1, vI 3, vI 0, vI 0, vU], [], aq_h m s F c_8)) rfl rfl ?_
  refine am_E.go (t2 := (176, [vR y, vI 4, vI 1, vI 3, vI 0, vI 0, vU], [vI 3], aq_h m s F c_8)) rfl rfl ?_
  refine am_E.go (t2 := (177, [vR y, vI 4, vI 1, vI 3, vI 0, vI 0, vU], [vI 4, vI 3], aq_h m s F c_8)) rfl rfl ?_
  refine am_E.go (t2 := (180, [vR y, vI 4, vI 1, vI 3, vI 0, vI 0, vU], [], aq_h m s F c_8)) rfl rfl ?_
  refine am_E.go (t2 := (181, [vR y, vI 4, vI 1, vI 3, vI 0, vI 0, vU], [vR y], aq_h m s F c_8)) rfl rfl ?_
  refine aq_gf (v := vR (y + 13)) rfl (by omega) hFo (by decide) rfl ?_
  show am_E _ (184, [vR y, vI 4, vI 1, vI 3, vI 0, vI 0, vU], [vR (y + 13)], aq_h m s F c_8) _
  refine am_E.go (t2 := (185, [vR y, vI 4, vI 1, vI 3, vI 0, vI 0, vU], [vI 3, vR (y + 13)], aq_h m s F c_8)) rfl rfl ?_
  refine aq_al (ok := fun k => k == 1) (v := vI (c_8 (y + 13) 3)) rfl rfl (by omega) hG13 rfl (by decide) (by decide) rfl ?_
  rw [mtc_8.2.2.2]
  show am_E _ (186, [vR y, vI 4, vI 1, vI 3, vI 0, vI 0, vU], [vI 1], aq_h m s F c_8) _
  refine am_E.go (t2 := (253, [vR y, vI 4, vI 1, vI 3, vI 0, vI 0, vU], [], aq_h m s F c_8)) rfl rfl ?_
  refine am_E.go (t2 := (256, [vR y, vI 4, vI 1, vI 4, vI 0, vI 0, vU], [], aq_h m s F c_8)) rfl rfl ?_
  refine am_E.go (t2 := (175, [vR y, vI 4, vI 1, vI 4, vI 0, vI 0, vU], [], aq_h m s F c_8)) rfl rfl ?_
  refine am_E.go (t2 := (176, [vR y, vI 4, vI 1, vI 4, vI 0, vI 0, vU], [vI 4], aq_h m s F c_8)) rfl rfl ?_
  refine am_E.go (t2 := (177, [vR y, vI 4, vI 1, vI 4, vI 0, vI 0, vU], [vI 4, vI 4], aq_h m s F c_8)) rfl rfl ?_
  refine am_E.go (t2 := (259, [vR y, vI 4, vI 1, vI 4, vI 0, vI 0, vU], [], aq_h m s F c_8)) rfl rfl ?_
  refine am_E.go (t2 := (260, [vR y, vI 4, vI 1, vI 4, vI 0, vI 0, vU], [vI 1], aq_h m s F c_8)) rfl rfl ?_
  refine am_E.ret rfl rfl ?_
  exact ⟨_, rfl, sc_8, rfl⟩

theorem qm_fo_4011 {m s : Nat} {F : aq_F} {c : aq_C} {y : Nat} (hO : mo_0 m F y) (hA0 : c (y + 18) 0 = 3) (hA1 : c (y + 18) 1 = 2) (hA2 : c (y + 18) 2 = 1) (hA3 : c (y + 18) 3 = 0) (hB0 : c (y + 19) 0 = 3) (hB1 : c (y + 19) 1 = 2) (hB2 : c (y + 19) 2 = 1) (hB3 : c (y + 19) 3 = 0) : am_E ac_X5_formOf (0, [vR y, vI 4, vU, vU, vU, vU, vU], [], aq_h m s F c) (aq_Z m s F (fun a => a = y + 13) c (fun r _ => r = some (vI 2))) := by
  obtain ⟨hm, hFo, hG5, hG6, hG7, hG8, hG9, hG10, hG11, hG12, hG13, hG14, hG15, hG16, hG17, hG18, hG19, hG20, hG21, hG22, hG23⟩ := hO
  have hmt : mt_ y (c (y + 13) 0) (c (y + 13) 1) (c (y + 13) 2) (c (y + 13) 3) c := ⟨rfl, rfl, rfl, rfl⟩
  refine am_E.go (t2 := (1, [vR y, vI 4, vU, vU, vU, vU, vU], [vI 0], aq_h m s F c)) rfl rfl ?_
  refine am_E.go (t2 := (2, [vR y, vI 4, vI 0, vU, vU, vU, vU], [], aq_h m s F c)) rfl rfl ?_
  refine am_E.go (t2 := (3, [vR y, vI 4, vI 0, vU, vU, vU, vU], [vI 0], aq_h m s F c)) rfl rfl ?_
  refine am_E.go (t2 := (4, [vR y, vI 4, vI 0, vU, vU, vU, vU], [vI 4, vI 0], aq_h m s F c)) rfl rfl ?_
  refine am_E.go (t2 := (7, [vR y, vI 4, vI 0, vU, vU, vU, vU], [], aq_h m s F c)) rfl rfl ?_
  refine am_E.go (t2 := (8, [vR y, vI 4, vI 0, vU, vU, vU, vU], [vR y], aq_h m s F c)) rfl rfl ?_
  refine aq_gf (v := vR (y + 13)) rfl (by omega) hFo (by decide) rfl ?_
  show am_E _ (11, [vR y, vI 4, vI 0, vU, vU, vU, vU], [vR (y + 13)], aq_h m s F c) _
  refine am_E.go (t2 := (12, [vR y, vI 4, vI 0, vU, vU, vU, vU], [vI 0, vR (y + 13)], aq_h m s F c)) rfl rfl ?_
  refine am_E.go (t2 := (13, [vR y, vI 4, vI 0, vU, vU, vU, vU], [vI 0, vI 0, vR (y + 13)], aq_h m s F c)) rfl rfl ?_
  refine aq_as (kd := 1) rfl rfl (by omega) hG13 (by omega) (by omega) rfl rfl ?_
  show am_E _ (14, [vR y, vI 4, vI 0, vU, vU, vU, vU], [], aq_h m s F (aq_u c (y + 13) 0 0)) _
  generalize hdc_1 : aq_u c (y + 13) 0 0 = c_1
  have sc_1 := aq_smu (aq_sm0 (c := c) (S := fun a => a = y + 13)) hdc_1 rfl
  have mtc_1 := mt_0 hmt hdc_1
  refine am_E.go (t2 := (17, [vR y, vI 4, vI 1, vU, vU, vU, vU], [], aq_h m s F c_1)) rfl rfl ?_
  refine am_E.go (t2 := (2, [vR y, vI 4, vI 1, vU, vU, vU, vU], [], aq_h m s F c_1)) rfl rfl ?_
  refine am_E.go (t2 := (3, [vR y, vI 4, vI 1, vU, vU, vU, vU], [vI 1], aq_h m s F c_1)) rfl rfl ?_
  refine am_E.go (t2 := (4, [vR y, vI 4, vI 1, vU, vU, vU, vU], [vI 4, vI 1], aq_h m s F c_1)) rfl rfl ?_
  refine am_E.go (t2 := (7, [vR y, vI 4, vI 1, vU, vU, vU, vU], [], aq_h m s F c_1)) rfl rfl ?_
  refine am_E.go (t2 := (8, [vR y, vI 4, vI 1, vU, vU, vU, vU], [vR y], aq_h m s F c_1)) rfl rfl ?_
  refine aq_gf (v := vR (y + 13)) rfl (by omega) hFo (by decide) rfl ?_
  show am_E _ (11, [vR y, vI 4, vI 1, vU, vU, vU, vU], [vR (y + 13)], aq_h m s F c_1) _
  refine am_E.go (t2 := (12, [vR y, vI 4, vI 1, vU, vU, vU, vU], [vI 1, vR (y + 13)], aq_h m s F c_1)) rfl rfl ?_
  refine am_E.go (t2 := (13, [vR y, vI 4, vI 1, vU, vU, vU, vU], [vI 0, vI 1, vR (y + 13)], aq_h m s F c_1)) rfl rfl ?_
  refine aq_as (kd := 1) rfl rfl (by omega) hG13 (by omega) (by omega) rfl rfl ?_
  show am_E _ (14, [vR y, vI 4, vI 1, vU, vU, vU, vU], [], aq_h m s F (aq_u c_1 (y + 13) 1 0)) _
  generalize hdc_2 : aq_u c_1 (y + 13) 1 0 = c_2
  have sc_2 := aq_smu sc_1 hdc_2 rfl
  have mtc_2 := mt_1 mtc_1 hdc_2
  refine am_E.go (t2 := (17, [vR y, vI 4, vI 2, vU, vU, vU, vU], [], aq_h m s F c_2)) rfl rfl ?_
  refine am_E.go (t2 := (2, [vR y, vI 4, vI 2, vU, vU, vU, vU], [], aq_h m s F c_2)) rfl rfl ?_
  refine am_E.go (t2 := (3, [vR y, vI 4, vI 2, vU, vU, vU, vU], [vI 2], aq_h m s F c_2)) rfl rfl ?_
  refine am_E.go (t2 := (4, [vR y, vI 4, vI 2, vU, vU, vU, vU], [vI 4, vI 2], aq_h m s F c_2)) rfl rfl ?_
  refine am_E.go (t2 := (7, [vR y, vI 4, vI 2, vU, vU, vU, vU], [], aq_h m s F c_2)) rfl rfl ?_
  refine am_E.go (t2 := (8, [vR y, vI 4, vI 2, vU, vU, vU, vU], [vR y], aq_h m s F c_2)) rfl rfl ?_
  refine aq_gf (v := vR (y + 13)) rfl (by omega) hFo (by decide) rfl ?_
  show am_E _ (11, [vR y, vI 4, vI 2, vU, vU, vU, vU], [vR (y + 13)], aq_h m s F c_2) _
  refine am_E.go (t2 := (12, [vR y, vI 4, vI 2, vU, vU, vU, vU], [vI 2, vR (y + 13)], aq_h m s F c_2)) rfl rfl ?_
  refine am_E.go (t2 := (13, [vR y, vI 4, vI 2, vU, vU, vU, vU], [vI 0, vI 2, vR (y + 13)], aq_h m s F c_2)) rfl rfl ?_
  refine aq_as (kd := 1) rfl rfl (by omega) hG13 (by omega) (by omega) rfl rfl ?_
  show am_E _ (14, [vR y, vI 4, vI 2, vU, vU, vU, vU], [], aq_h m s F (aq_u c_2 (y + 13) 2 0)) _
  generalize hdc_3 : aq_u c_2 (y + 13) 2 0 = c_3
  have sc_3 := aq_smu sc_2 hdc_3 rfl
  have mtc_3 := mt_2 mtc_2 hdc_3
  refine am_E.go (t2 := (17, [vR y, vI 4, vI 3, vU, vU, vU, vU], [], aq_h m s F c_3)) rfl rfl ?_
  refine am_E.go (t2 := (2, [vR y, vI 4, vI 3, vU, vU, vU, vU], [], aq_h m s F c_3)) rfl rfl ?_
  refine am_E.go (t2 := (3, [vR y, vI 4, vI 3, vU, vU, vU, vU], [vI 3], aq_h m s F c_3)) rfl rfl ?_
  refine am_E.go (t2 := (4, [vR y, vI 4, vI 3, vU, vU, vU, vU], [vI 4, vI 3], aq_h m s F c_3)) rfl rfl ?_
  refine am_E.go (t2 := (7, [vR y, vI 4, vI 3, vU, vU, vU, vU], [], aq_h m s F c_3)) rfl rfl ?_
  refine am_E.go (t2 := (8, [vR y, vI 4, vI 3, vU, vU, vU, vU], [vR y], aq_h m s F c_3)) rfl rfl ?_
  refine aq_gf (v := vR (y + 13)) rfl (by omega) hFo (by decide) rfl ?_
  show am_E _ (11, [vR y, vI 4, vI 3, vU, vU, vU, vU], [vR (y + 13)], aq_h m s F c_3) _
  refine am_E.go (t2 := (12, [vR y, vI 4, vI 3, vU, vU, vU, vU], [vI 3, vR (y + 13)], aq_h m s F c_3)) rfl rfl ?_
  refine am_E.go (t2 := (13, [vR y, vI 4, vI 3, vU, vU, vU, vU], [vI 0, vI 3, vR (y + 13)], aq_h m s F c_3)) rfl rfl ?_
  refine aq_as (kd := 1) rfl rfl (by omega) hG13 (by omega) (by omega) rfl rfl ?_
  show am_E _ (14, [vR y, vI 4, vI 3, vU, vU, vU, vU], [], aq_h m s F (aq_u c_3 (y + 13) 3 0)) _
  generalize hdc_4 : aq_u c_3 (y + 13) 3 0 = c_4
  have sc_4 := aq_smu sc_3 hdc_4 rfl
  have mtc_4 := mt_3 mtc_3 hdc_4
  refine am_E.go (t2 := (17, [vR y, vI 4, vI 4, vU, vU, vU, vU], [], aq_h m s F c_4)) rfl rfl ?_
  refine am_E.go (t2 := (2, [vR y, vI 4, vI 4, vU, vU, vU, vU], [], aq_h m s F c_4)) rfl rfl ?_
  refine am_E.go (t2 := (3, [vR y, vI 4, vI 4, vU, vU, vU, vU], [vI 4], aq_h m s F c_4)) rfl rfl ?_
  refine am_E.go (t2 := (4, [vR y, vI 4, vI 4, vU, vU, vU, vU], [vI 4, vI 4], aq_h m s F c_4)) rfl rfl ?_
  refine am_E.go (t2 := (20, [vR y, vI 4, vI 4, vU, vU, vU, vU], [], aq_h m s F c_4)) rfl rfl ?_
  refine am_E.go (t2 := (21, [vR y, vI 4, vI 4, vU, vU, vU, vU], [vI 0], aq_h m s F c_4)) rfl rfl ?_
  refine am_E.go (t2 := (22, [vR y, vI 4, vI 0, vU, vU, vU, vU], [], aq_h m s F c_4)) rfl rfl ?_
  refine am_E.go (t2 := (23, [vR y, vI 4, vI 0, vU, vU, vU, vU], [vI 0], aq_h m s F c_4)) rfl rfl ?_
  refine am_E.go (t2 := (24, [vR y, vI 4, vI 0, vU, vU, vU, vU], [vI 4, vI 0], aq_h m s F c_4)) rfl rfl ?_
  refine am_E.go (t2 := (27, [vR y, vI 4, vI 0, vU, vU, vU, vU], [], aq_h m s F c_4)) rfl rfl ?_
  refine am_E.go (t2 := (28, [vR y, vI 4, vI 0, vU, vU, vU, vU], [vR y], aq_h m s F c_4)) rfl rfl ?_
  refine aq_gf (v := vR (y + 18)) rfl (by omega) hFo (by decide) rfl ?_
  show am_E _ (31, [vR y, vI 4, vI 0, vU, vU, vU, vU], [vR (y + 18)], aq_h m s F c_4) _
  refine am_E.go (t2 := (32, [vR y, vI 4, vI 0, vU, vU, vU, vU], [vI 0, vR (y + 18)], aq_h m s F c_4)) rfl rfl ?_
  refine aq_al (ok := fun k => k == 0) (v := vI (c_4 (y + 18) 0)) rfl rfl (by omega) hG18 rfl (by decide) (by decide) rfl ?_
  rw [sc_4 (y + 18) (by omega), hA0]
  show am_E _ (33, [vR y, vI 4, vI 0, vU, vU, vU, vU], [vI 3], aq_h m s F c_4) _
  refine am_E.go (t2 := (34, [vR y, vI 4, vI 0, vU, vU, vU, vU], [vI 4, vI 3], aq_h m s F c_4)) rfl rfl ?_
  refine am_E.go (t2 := (130, [vR y, vI 4, vI 0, vU, vU, vU, vU], [], aq_h m s F c_4)) rfl rfl ?_
  refine am_E.go (t2 := (133, [vR y, vI 4, vI 1, vU, vU, vU, vU], [], aq_h m s F c_4)) rfl rfl ?_
  refine am_E.go (t2 := (22, [vR y, vI 4, vI 1, vU, vU, vU, vU], [], aq_h m s F c_4)) rfl rfl ?_
  refine am_E.go (t2 := (23, [vR y, vI 4, vI 1, vU, vU, vU, vU], [vI 1], aq_h m s F c_4)) rfl rfl ?_
  refine am_E.go (t2 := (24, [vR y, vI 4, vI 1, vU, vU, vU, vU], [vI 4, vI 1], aq_h m s F c_4)) rfl rfl ?_
  refine am_E.go (t2 := (27, [vR y, vI 4, vI 1, vU, vU, vU, vU], [], aq_h m s F c_4)) rfl rfl ?_
  refine am_E.go (t2 := (28, [vR y, vI 4, vI 1, vU, vU, vU, vU], [vR y], aq_h m s F c_4)) rfl rfl ?_
  refine aq_gf (v := vR (y + 18)) rfl (by omega) hFo (by decide) rfl ?_
  show am_E _ (31, [vR y, vI 4, vI 1, vU, vU, vU, vU], [vR (y + 18)], aq_h m s F c_4) _
  refine am_E.go (t2 := (32, [vR y, vI 4, vI 1, vU, vU, vU, vU], [vI 1, vR (y + 18)], aq_h m s F c_4)) rfl rfl ?_
  refine aq_al (ok := fun k => k == 0) (v := vI (c_4 (y + 18) 1)) rfl rfl (by omega) hG18 rfl (by decide) (by decide) rfl ?_
  rw [sc_4 (y + 18) (by omega), hA1]
  show am_E _ (33, [vR y, vI 4, vI 1, vU, vU, vU, vU], [vI 2], aq_h m s F c_4) _
  refine am_E.go (t2 := (34, [vR y, vI 4, vI 1, vU, vU, vU, vU], [vI 4, vI 2], aq_h m s F c_4)) rfl rfl ?_
  refine am_E.go (t2 := (130, [vR y, vI 4, vI 1, vU, vU, vU, vU], [], aq_h m s F c_4)) rfl rfl ?_
  refine am_E.go (t2 := (133, [vR y, vI 4, vI 2, vU, vU, vU, vU], [], aq_h m s F c_4)) rfl rfl ?_
  refine am_E.go (t2 := (22, [vR y, vI 4, vI 2, vU, vU, vU, vU], [], aq_h m s F c_4)) rfl rfl ?_
  refine am_E.go (t2 := (23, [vR y, vI 4, vI 2, vU, vU, vU, vU], [vI 2], aq_h m s F c_4)) rfl rfl ?_
  refine am_E.go (t2 := (24, [vR y, vI 4, vI 2, vU, vU, vU, vU], [vI 4, vI 2], aq_h m s F c_4)) rfl rfl ?_
  refine am_E.go (t2 := (27, [vR y, vI 4, vI 2, vU, vU, vU, vU], [], aq_h m s F c_4)) rfl rfl ?_
  refine am_E.go (t2 := (28, [vR y, vI 4, vI 2, vU, vU, vU, vU], [vR y], aq_h m s F c_4)) rfl rfl ?_
  refine aq_gf (v := vR (y + 18)) rfl (by omega) hFo (by decide) rfl ?_
  show am_E _ (31, [vR y, vI 4, vI 2, vU, vU, vU, vU], [vR (y + 18)], aq_h m s F c_4) _
  refine am_E.go (t2 := (32, [vR y, vI 4, vI 2, vU, vU, vU, vU], [vI 2, vR (y + 18)], aq_h m s F c_4)) rfl rfl ?_
  refine aq_al (ok := fun k => k == 0) (v := vI (c_4 (y + 18) 2)) rfl rfl (by omega) hG18 rfl (by decide) (by decide) rfl ?_
  rw [sc_4 (y + 18) (by omega), hA2]
  show am_E _ (33, [vR y, vI 4, vI 2, vU, vU, vU, vU], [vI 1], aq_h m s F c_4) _
  refine am_E.go (t2 := (34, [vR y, vI 4, vI 2, vU, vU, vU, vU], [vI 4, vI 1], aq_h m s F c_4)) rfl rfl ?_
  refine am_E.go (t2 := (130, [vR y, vI 4, vI 2, vU, vU, vU, vU], [], aq_h m s F c_4)) rfl rfl ?_
  refine am_E.go (t2 := (133, [vR y, vI 4, vI 3, vU, vU, vU, vU], [], aq_h m s F c_4)) rfl rfl ?_
  refine am_E.go (t2 := (22, [vR y, vI 4, vI 3, vU, vU, vU, vU], [], aq_h m s F c_4)) rfl rfl ?_
  refine am_E.go (t2 := (23, [vR y, vI 4, vI 3, vU, vU, vU, vU], [vI 3], aq_h m s F c_4)) rfl rfl ?_
  refine am_E.go (t2 := (24, [vR y, vI 4, vI 3, vU, vU, vU, vU], [vI 4, vI 3], aq_h m s F c_4)) rfl rfl ?_
  refine am_E.go (t2 := (27, [vR y, vI 4, vI 3, vU, vU, vU, vU], [], aq_h m s F c_4)) rfl rfl ?_
  refine am_E.go (t2 := (28, [vR y, vI 4, vI 3, vU, vU, vU, vU], [vR y], aq_h m s F c_4)) rfl rfl ?_
  refine aq_gf (v := vR (y + 18)) rfl (by omega) hFo (by decide) rfl ?_
  show am_E _ (31, [vR y, vI 4, vI 3, vU, vU, vU, vU], [vR (y + 18)], aq_h m s F c_4) _
  refine am_E.go (t2 := (32, [vR y, vI 4, vI 3, vU, vU, vU, vU], [vI 3, vR (y + 18)], aq_h m s F c_4)) rfl rfl ?_
  refine aq_al (ok := fun k => k == 0) (v := vI (c_4 (y + 18) 3)) rfl rfl (by omega) hG18 rfl (by decide) (by decide) rfl ?_
  rw [sc_4 (y + 18) (by omega), hA3]
  show am_E _ (33, [vR y, vI 4, vI 3, vU, vU, vU, vU], [vI 0], aq_h m s F c_4) _
  refine am_E.go (t2 := (34, [vR y, vI 4, vI 3, vU, vU, vU, vU], [vI 4, vI 0], aq_h m s F c_4)) rfl rfl ?_
  refine am_E.go (t2 := (130, [vR y, vI 4, vI 3, vU, vU, vU, vU], [], aq_h m s F c_4)) rfl rfl ?_
  refine am_E.go (t2 := (133, [vR y, vI 4, vI 4, vU, vU, vU, vU], [], aq_h m s F c_4)) rfl rfl ?_
  refine am_E.go (t2 := (22, [vR y, vI 4, vI 4, vU, vU, vU, vU], [], aq_h m s F c_4)) rfl rfl ?_
  refine am_E.go (t2 := (23, [vR y, vI 4, vI 4, vU, vU, vU, vU], [vI 4], aq_h m s F c_4)) rfl rfl ?_
  refine am_E.go (t2 := (24, [vR y, vI 4, vI 4, vU, vU, vU, vU], [vI 4, vI 4], aq_h m s F c_4)) rfl rfl ?_
  refine am_E.go (t2 := (136, [vR y, vI 4, vI 4, vU, vU, vU, vU], [], aq_h m s F c_4)) rfl rfl ?_
  refine am_E.go (t2 := (137, [vR y, vI 4, vI 4, vU, vU, vU, vU], [vI 0], aq_h m s F c_4)) rfl rfl ?_
  refine am_E.go (t2 := (138, [vR y, vI 4, vI 0, vU, vU, vU, vU], [], aq_h m s F c_4)) rfl rfl ?_
  refine am_E.go (t2 := (139, [vR y, vI 4, vI 0, vU, vU, vU, vU], [vI 0], aq_h m s F c_4)) rfl rfl ?_
  refine am_E.go (t2 := (140, [vR y, vI 4, vI 0, vU, vU, vU, vU], [vI 4, vI 0], aq_h m s F c_4)) rfl rfl ?_
  refine am_E.go (t2 := (143, [vR y, vI 4, vI 0, vU, vU, vU, vU], [], aq_h m s F c_4)) rfl rfl ?_
  refine am_E.go (t2 := (144, [vR y, vI 4, vI 0, vU, vU, vU, vU], [vR y], aq_h m s F c_4)) rfl rfl ?_
  refine aq_gf (v := vR (y + 13)) rfl (by omega) hFo (by decide) rfl ?_
  show am_E _ (147, [vR y, vI 4, vI 0, vU, vU, vU, vU], [vR (y + 13)], aq_h m s F c_4) _
  refine am_E.go (t2 := (148, [vR y, vI 4, vI 0, vU, vU, vU, vU], [vI 0, vR (y + 13)], aq_h m s F c_4)) rfl rfl ?_
  refine aq_al (ok := fun k => k == 1) (v := vI (c_4 (y + 13) 0)) rfl rfl (by omega) hG13 rfl (by decide) (by decide) rfl ?_
  rw [mtc_4.1]
  show am_E _ (149, [vR y, vI 4, vI 0, vU, vU, vU, vU], [vI 0], aq_h m s F c_4) _
  refine am_E.go (t2 := (152, [vR y, vI 4, vI 0, vU, vU, vU, vU], [], aq_h m s F c_4)) rfl rfl ?_
  refine am_E.go (t2 := (153, [vR y, vI 4, vI 0, vU, vU, vU, vU], [vR y], aq_h m s F c_4)) rfl rfl ?_
  refine aq_gf (v := vR (y + 19)) rfl (by omega) hFo (by decide) rfl ?_
  show am_E _ (156, [vR y, vI 4, vI 0, vU, vU, vU, vU], [vR (y + 19)], aq_h m s F c_4) _
  refine am_E.go (t2 := (157, [vR y, vI 4, vI 0, vU, vU, vU, vU], [vI 0, vR (y + 19)], aq_h m s F c_4)) rfl rfl ?_
  refine aq_al (ok := fun k => k == 0) (v := vI (c_4 (y + 19) 0)) rfl rfl (by omega) hG19 rfl (by decide) (by decide) rfl ?_
  rw [sc_4 (y + 19) (by omega), hB0]
  show am_E _ (158, [vR y, vI 4, vI 0, vU, vU, vU, vU], [vI 3], aq_h m s F c_4) _
  refine am_E.go (t2 := (159, [vR y, vI 4, vI 0, vU, vU, vU, vU], [vI 4, vI 3], aq_h m s F c_4)) rfl rfl ?_
  refine am_E.go (t2 := (165, [vR y, vI 4, vI 0, vU, vU, vU, vU], [], aq_h m s F c_4)) rfl rfl ?_
  refine am_E.go (t2 := (168, [vR y, vI 4, vI 1, vU, vU, vU, vU], [], aq_h m s F c_4)) rfl rfl ?_
  refine am_E.go (t2 := (138, [vR y, vI 4, vI 1, vU, vU, vU, vU], [], aq_h m s F c_4)) rfl rfl ?_
  refine am_E.go (t2 := (139, [vR y, vI 4, vI 1, vU, vU, vU, vU], [vI 1], aq_h m s F c_4)) rfl rfl ?_
  refine am_E.go (t2 := (140, [vR y, vI 4, vI 1, vU, vU, vU, vU], [vI 4, vI 1], aq_h m s F c_4)) rfl rfl ?_
  refine am_E.go (t2 := (143, [vR y, vI 4, vI 1, vU, vU, vU, vU], [], aq_h m s F c_4)) rfl rfl ?_
  refine am_E.go (t2 := (144, [vR y, vI 4, vI 1, vU, vU, vU, vU], [vR y], aq_h m s F c_4)) rfl rfl ?_
  refine aq_gf (v := vR (y + 13)) rfl (by omega) hFo (by decide) rfl ?_
  show am_E _ (147, [vR y, vI 4, vI 1, vU, vU, vU, vU], [vR (y + 13)], aq_h m s F c_4) _
  refine am_E.go (t2 := (148, [vR y, vI 4, vI 1, vU, vU, vU, vU], [vI 1, vR (y + 13)], aq_h m s F c_4)) rfl rfl ?_
  refine aq_al (ok := fun k => k == 1) (v := vI (c_4 (y + 13) 1)) rfl rfl (by omega) hG13 rfl (by decide) (by decide) rfl ?_
  rw [mtc_4.2.1]
  show am_E _ (149, [vR y, vI 4, vI 1, vU, vU, vU, vU], [vI 0], aq_h m s F c_4) _
  refine am_E.go (t2 := (152, [vR y, vI 4, vI 1, vU, vU, vU, vU], [], aq_h m s F c_4)) rfl rfl ?_
  refine am_E.go (t2 := (153, [vR y, vI 4, vI 1, vU, vU, vU, vU], [vR y], aq_h m s F c_4)) rfl rfl ?_
  refine aq_gf (v := vR (y + 19)) rfl (by omega) hFo (by decide) rfl ?_
  show am_E _ (156, [vR y, vI 4, vI 1, vU, vU, vU, vU], [vR (y + 19)], aq_h m s F c_4) _
  refine am_E.go (t2 := (157, [vR y, vI 4, vI 1, vU, vU, vU, vU], [vI 1, vR (y + 19)], aq_h m s F c_4)) rfl rfl ?_
  refine aq_al (ok := fun k => k == 0) (v := vI (c_4 (y + 19) 1)) rfl rfl (by omega) hG19 rfl (by decide) (by decide) rfl ?_
  rw [sc_4 (y + 19) (by omega), hB1]
  show am_E _ (158, [vR y, vI 4, vI 1, vU, vU, vU, vU], [vI 2], aq_h m s F c_4) _
  refine am_E.go (t2 := (159, [vR y, vI 4, vI 1, vU, vU, vU, vU], [vI 4, vI 2], aq_h m s F c_4)) rfl rfl ?_
  refine am_E.go (t2 := (165, [vR y, vI 4, vI 1, vU, vU, vU, vU], [], aq_h m s F c_4)) rfl rfl ?_
  refine am_E.go (t2 := (168, [vR y, vI 4, vI 2, vU, vU, vU, vU], [], aq_h m s F c_4)) rfl rfl ?_
  refine am_E.go (t2 := (138, [vR y, vI 4, vI 2, vU, vU, vU, vU], [], aq_h m s F c_4)) rfl rfl ?_
  refine am_E.go (t2 := (139, [vR y, vI 4, vI 2, vU, vU, vU, vU], [vI 2], aq_h m s F c_4)) rfl rfl ?_
  refine am_E.go (t2 := (140, [vR y, vI 4, vI 2, vU, vU, vU, vU], [vI 4, vI 2], aq_h m s F c_4)) rfl rfl ?_
  refine am_E.go (t2 := (143, [vR y, vI 4, vI 2, vU, vU, vU, vU], [], aq_h m s F c_4)) rfl rfl ?_
  refine am_E.go (t2 := (144, [vR y, vI 4, vI 2, vU, vU, vU, vU], [vR y], aq_h m s F c_4)) rfl rfl ?_
  refine aq_gf (v := vR (y + 13)) rfl (by omega) hFo (by decide) rfl ?_
  show am_E _ (147, [vR y, vI 4, vI 2, vU, vU, vU, vU], [vR (y + 13)], aq_h m s F c_4) _
  refine am_E.go (t2 := (148, [vR y, vI 4, vI 2, vU, vU, vU, vU], [vI 2, vR (y + 13)], aq_h m s F c_4)) rfl rfl ?_
  refine aq_al (ok := fun k => k == 1) (v := vI (c_4 (y + 13) 2)) rfl rfl (by omega) hG13 rfl (by decide) (by decide) rfl ?_
  rw [mtc_4.2.2.1]
  show am_E _ (149, [vR y, vI 4, vI 2, vU, vU, vU, vU], [vI 0], aq_h m s F c_4) _
  refine am_E.go (t2 := (152, [vR y, vI 4, vI 2, vU, vU, vU, vU], [], aq_h m s F c_4)) rfl rfl ?_
  refine am_E.go (t2 := (153, [vR y, vI 4, vI 2, vU, vU, vU, vU], [vR y], aq_h m s F c_4)) rfl rfl ?_
  refine aq_gf (v := vR (y + 19)) rfl (by omega) hFo (by decide) rfl ?_
  show am_E _ (156, [vR y, vI 4, vI 2, vU, vU, vU, vU], [vR (y + 19)], aq_h m s F c_4) _
  refine am_E.go (t2 := (157, [vR y, vI 4, vI 2, vU, vU, vU, vU], [vI 2, vR (y + 19)], aq_h m s F c_4)) rfl rfl ?_
  refine aq_al (ok := fun k => k == 0) (v := vI (c_4 (y + 19) 2)) rfl rfl (by omega) hG19 rfl (by decide) (by decide) rfl ?_
  rw [sc_4 (y + 19) (by omega), hB2]
  show am_E _ (158, [vR y, vI 4, vI 2, vU, vU, vU, vU], [vI 1], aq_h m s F c_4) _
  refine am_E.go (t2 := (159, [vR y, vI 4, vI 2, vU, vU, vU, vU], [vI 4, vI 1], aq_h m s F c_4)) rfl rfl ?_
  refine am_E.go (t2 := (165, [vR y, vI 4, vI 2, vU, vU, vU, vU], [], aq_h m s F c_4)) rfl rfl ?_
  refine am_E.go (t2 := (168, [vR y, vI 4, vI 3, vU, vU, vU, vU], [], aq_h m s F c_4)) rfl rfl ?_
  refine am_E.go (t2 := (138, [vR y, vI 4, vI 3, vU, vU, vU, vU], [], aq_h m s F c_4)) rfl rfl ?_
  refine am_E.go (t2 := (139, [vR y, vI 4, vI 3, vU, vU, vU, vU], [vI 3], aq_h m s F c_4)) rfl rfl ?_
  refine am_E.go (t2 := (140, [vR y, vI 4, vI 3, vU, vU, vU, vU], [vI 4, vI 3], aq_h m s F c_4)) rfl rfl ?_
  refine am_E.go (t2 := (143, [vR y, vI 4, vI 3, vU, vU, vU, vU], [], aq_h m s F c_4)) rfl rfl ?_
  refine am_E.go (t2 := (144, [vR y, vI 4, vI 3, vU, vU, vU, vU], [vR y], aq_h m s F c_4)) rfl rfl ?_
  refine aq_gf (v := vR (y + 13)) rfl (by omega) hFo (by decide) rfl ?_
  show am_E _ (147, [vR y, vI 4, vI 3, vU, vU, vU, vU], [vR (y + 13)], aq_h m s F c_4) _
  refine am_E.go (t2 := (148, [vR y, vI 4, vI 3, vU, vU, vU, vU], [vI 3, vR (y + 13)], aq_h m s F c_4)) rfl rfl ?_
  refine aq_al (ok := fun k => k == 1) (v := vI (c_4 (y + 13) 3)) rfl rfl (by omega) hG13 rfl (by decide) (by decide) rfl ?_
  rw [mtc_4.2.2.2]
  show am_E _ (149, [vR y, vI 4, vI 3, vU, vU, vU, vU], [vI 0], aq_h m s F c_4) _
  refine am_E.go (t2 := (152, [vR y, vI 4, vI 3, vU, vU, vU, vU], [], aq_h m s F c_4)) rfl rfl ?_
  refine am_E.go (t2 := (153, [vR y, vI 4, vI 3, vU, vU, vU, vU], [vR y], aq_h m s F c_4)) rfl rfl ?_
  refine aq_gf (v := vR (y + 19)) rfl (by omega) hFo (by decide) rfl ?_
  show am_E _ (156, [vR y, vI 4, vI 3, vU, vU, vU, vU], [vR (y + 19)], aq_h m s F c_4) _
  refine am_E.go (t2 := (157, [vR y, vI 4, vI 3, vU, vU, vU, vU], [vI 3, vR (y + 19)], aq_h m s F c_4)) rfl rfl ?_
  refine aq_al (ok := fun k => k == 0) (v := vI (c_4 (y + 19) 3)) rfl rfl (by omega) hG19 rfl (by decide) (by decide) rfl ?_
  rw [sc_4 (y + 19) (by omega), hB3]
  show am_E _ (158, [vR y, vI 4, vI 3, vU, vU, vU, vU], [vI 0], aq_h m s F c_4) _
  refine am_E.go (t2 := (159, [vR y, vI 4, vI 3, vU, vU, vU, vU], [vI 4, vI 0], aq_h m s F c_4)) rfl rfl ?_
  refine am_E.go (t2 := (165, [vR y, vI 4, vI 3, vU, vU, vU, vU], [], aq_h m s F c_4)) rfl rfl ?_
  refine am_E.go (t2 := (168, [vR y, vI 4, vI 4, vU, vU, vU, vU], [], aq_h m s F c_4)) rfl rfl ?_
  refine am_E.go (t2 := (138, [vR y, vI 4, vI 4, vU, vU, vU, vU], [], aq_h m s F c_4)) rfl rfl ?_
  refine am_E.go (t2 := (139, [vR y, vI 4, vI 4, vU, vU, vU, vU], [vI 4], aq_h m s F c_4)) rfl rfl ?_
  refine am_E.go (t2 := (140, [vR y, vI 4, vI 4, vU, vU, vU, vU], [vI 4, vI 4], aq_h m s F c_4)) rfl rfl ?_
  refine am_E.go (t2 := (171, [vR y, vI 4, vI 4, vU, vU, vU, vU], [], aq_h m s F c_4)) rfl rfl ?_
  refine am_E.go (t2 := (172, [vR y, vI 4, vI 4, vU, vU, vU, vU], [vI 0], aq_h m s F c_4)) rfl rfl ?_
  refine am_E.go (t2 := (173, [vR y, vI 4, vI 0, vU, vU, vU, vU], [], aq_h m s F c_4)) rfl rfl ?_
  refine am_E.go (t2 := (174, [vR y, vI 4, vI 0, vU, vU, vU, vU], [vI 0], aq_h m s F c_4)) rfl rfl ?_
  refine am_E.go (t2 := (175, [vR y, vI 4, vI 0, vI 0, vU, vU, vU], [], aq_h m s F c_4)) rfl rfl ?_
  refine am_E.go (t2 := (176, [vR y, vI 4, vI 0, vI 0, vU, vU, vU], [vI 0], aq_h m s F c_4)) rfl rfl ?_
  refine am_E.go (t2 := (177, [vR y, vI 4, vI 0, vI 0, vU, vU, vU], [vI 4, vI 0], aq_h m s F c_4)) rfl rfl ?_
  refine am_E.go (t2 := (180, [vR y, vI 4, vI 0, vI 0, vU, vU, vU], [], aq_h m s F c_4)) rfl rfl ?_
  refine am_E.go (t2 := (181, [vR y, vI 4, vI 0, vI 0, vU, vU, vU], [vR y], aq_h m s F c_4)) rfl rfl ?_
  refine aq_gf (v := vR (y + 13)) rfl (by omega) hFo (by decide) rfl ?_
  show am_E _ (184, [vR y, vI 4, vI 0, vI 0, vU, vU, vU], [vR (y + 13)], aq_h m s F c_4) _
  refine am_E.go (t2 := (185, [vR y, vI 4, vI 0, vI 0, vU, vU, vU], [vI 0, vR (y + 13)], aq_h m s F c_4)) rfl rfl ?_
  refine aq_al (ok := fun k => k == 1) (v := vI (c_4 (y + 13) 0)) rfl rfl (by omega) hG13 rfl (by decide) (by decide) rfl ?_
  rw [mtc_4.1]
  show am_E _ (186, [vR y, vI 4, vI 0, vI 0, vU, vU, vU], [vI 0], aq_h m s F c_4) _
  refine am_E.go (t2 := (189, [vR y, vI 4, vI 0, vI 0, vU, vU, vU], [], aq_h m s F c_4)) rfl rfl ?_
  refine am_E.go (t2 := (192, [vR y, vI 4, vI 1, vI 0, vU, vU, vU], [], aq_h m s F c_4)) rfl rfl ?_
  refine am_E.go (t2 := (193, [vR y, vI 4, vI 1, vI 0, vU, vU, vU], [vI 0], aq_h m s F c_4)) rfl rfl ?_
  refine am_E.go (t2 := (195, [vR y, vI 4, vI 1, vI 0, vI 0, vU, vU], [], aq_h m s F c_4)) rfl rfl ?_
  refine am_E.go (t2 := (196, [vR y, vI 4, vI 1, vI 0, vI 0, vU, vU], [vI 1], aq_h m s F c_4)) rfl rfl ?_
  refine am_E.go (t2 := (198, [vR y, vI 4, vI 1, vI 0, vI 0, vI 1, vU], [], aq_h m s F c_4)) rfl rfl ?_
  refine am_E.go (t2 := (200, [vR y, vI 4, vI 1, vI 0, vI 0, vI 1, vU], [vI 1], aq_h m s F c_4)) rfl rfl ?_
  refine am_E.go (t2 := (203, [vR y, vI 4, vI 1, vI 0, vI 0, vI 1, vU], [], aq_h m s F c_4)) rfl rfl ?_
  refine am_E.go (t2 := (204, [vR y, vI 4, vI 1, vI 0, vI 0, vI 1, vU], [vR y], aq_h m s F c_4)) rfl rfl ?_
  refine aq_gf (v := vR (y + 13)) rfl (by omega) hFo (by decide) rfl ?_
  show am_E _ (207, [vR y, vI 4, vI 1, vI 0, vI 0, vI 1, vU], [vR (y + 13)], aq_h m s F c_4) _
  refine am_E.go (t2 := (209, [vR y, vI 4, vI 1, vI 0, vI 0, vI 1, vU], [vI 0, vR (y + 13)], aq_h m s F c_4)) rfl rfl ?_
  refine am_E.go (t2 := (210, [vR y, vI 4, vI 1, vI 0, vI 0, vI 1, vU], [vI 1, vI 0, vR (y + 13)], aq_h m s F c_4)) rfl rfl ?_
  refine aq_as (kd := 1) rfl rfl (by omega) hG13 (by omega) (by omega) rfl rfl ?_
  show am_E _ (211, [vR y, vI 4, vI 1, vI 0, vI 0, vI 1, vU], [], aq_h m s F (aq_u c_4 (y + 13) 0 1)) _
  generalize hdc_5 : aq_u c_4 (y + 13) 0 1 = c_5
  have sc_5 := aq_smu sc_4 hdc_5 rfl
  have mtc_5 := mt_0 mtc_4 hdc_5
  refine am_E.go (t2 := (212, [vR y, vI 4, vI 1, vI 0, vI 0, vI 1, vU], [vR y], aq_h m s F c_5)) rfl rfl ?_
  refine aq_gf (v := vR (y + 18)) rfl (by omega) hFo (by decide) rfl ?_
  show am_E _ (215, [vR y, vI 4, vI 1, vI 0, vI 0, vI 1, vU], [vR (y + 18)], aq_h m s F c_5) _
  refine am_E.go (t2 := (217, [vR y, vI 4, vI 1, vI 0, vI 0, vI 1, vU], [vI 0, vR (y + 18)], aq_h m s F c_5)) rfl rfl ?_
  refine aq_al (ok := fun k => k == 0) (v := vI (c_5 (y + 18) 0)) rfl rfl (by omega) hG18 rfl (by decide) (by decide) rfl ?_
  rw [sc_5 (y + 18) (by omega), hA0]
  show am_E _ (218, [vR y, vI 4, vI 1, vI 0, vI 0, vI 1, vU], [vI 3], aq_h m s F c_5) _
  refine am_E.go (t2 := (220, [vR y, vI 4, vI 1, vI 0, vI 3, vI 1, vU], [], aq_h m s F c_5)) rfl rfl ?_
  refine am_E.go (t2 := (221, [vR y, vI 4, vI 1, vI 0, vI 3, vI 1, vU], [vR y], aq_h m s F c_5)) rfl rfl ?_
  refine aq_gf (v := vR (y + 13)) rfl (by omega) hFo (by decide) rfl ?_
  show am_E _ (224, [vR y, vI 4, vI 1, vI 0, vI 3, vI 1, vU], [vR (y + 13)], aq_h m s F c_5) _
  refine am_E.go (t2 := (226, [vR y, vI 4, vI 1, vI 0, vI 3, vI 1, vU], [vI 3, vR (y + 13)], aq_h m s F c_5)) rfl rfl ?_
  refine am_E.go (t2 := (227, [vR y, vI 4, vI 1, vI 0, vI 3, vI 1, vU], [vI 1, vI 3, vR (y + 13)], aq_h m s F c_5)) rfl rfl ?_
  refine aq_as (kd := 1) rfl rfl (by omega) hG13 (by omega) (by omega) rfl rfl ?_
  show am_E _ (228, [vR y, vI 4, vI 1, vI 0, vI 3, vI 1, vU], [], aq_h m s F (aq_u c_5 (y + 13) 3 1)) _
  generalize hdc_6 : aq_u c_5 (y + 13) 3 1 = c_6
  have sc_6 := aq_smu sc_5 hdc_6 rfl
  have mtc_6 := mt_3 mtc_5 hdc_6
  refine am_E.go (t2 := (229, [vR y, vI 4, vI 1, vI 0, vI 3, vI 1, vU], [vR y], aq_h m s F c_6)) rfl rfl ?_
  refine aq_gf (v := vR (y + 19)) rfl (by omega) hFo (by decide) rfl ?_
  show am_E _ (232, [vR y, vI 4, vI 1, vI 0, vI 3, vI 1, vU], [vR (y + 19)], aq_h m s F c_6) _
  refine am_E.go (t2 := (234, [vR y, vI 4, vI 1, vI 0, vI 3, vI 1, vU], [vI 3, vR (y + 19)], aq_h m s F c_6)) rfl rfl ?_
  refine aq_al (ok := fun k => k == 0) (v := vI (c_6 (y + 19) 3)) rfl rfl (by omega) hG19 rfl (by decide) (by decide) rfl ?_
  rw [sc_6 (y + 19) (by omega), hB3]
  show am_E _ (235, [vR y, vI 4, vI 1, vI 0, vI 3, vI 1, vU], [vI 0], aq_h m s F c_6) _
  refine am_E.go (t2 := (237, [vR y, vI 4, vI 1, vI 0, vI 0, vI 1, vU], [], aq_h m s F c_6)) rfl rfl ?_
  refine am_E.go (t2 := (239, [vR y, vI 4, vI 1, vI 0, vI 0, vI 1, vU], [vI 0], aq_h m s F c_6)) rfl rfl ?_
  refine am_E.go (t2 := (240, [vR y, vI 4, vI 1, vI 0, vI 0, vI 1, vU], [vI 0, vI 0], aq_h m s F c_6)) rfl rfl ?_
  refine am_E.go (t2 := (247, [vR y, vI 4, vI 1, vI 0, vI 0, vI 1, vU], [], aq_h m s F c_6)) rfl rfl ?_
  refine am_E.go (t2 := (248, [vR y, vI 4, vI 1, vI 0, vI 0, vI 1, vU], [vI 0], aq_h m s F c_6)) rfl rfl ?_
  refine am_E.go (t2 := (250, [vR y, vI 4, vI 1, vI 0, vI 0, vI 0, vU], [], aq_h m s F c_6)) rfl rfl ?_
  refine am_E.go (t2 := (198, [vR y, vI 4, vI 1, vI 0, vI 0, vI 0, vU], [], aq_h m s F c_6)) rfl rfl ?_
  refine am_E.go (t2 := (200, [vR y, vI 4, vI 1, vI 0, vI 0, vI 0, vU], [vI 0], aq_h m s F c_6)) rfl rfl ?_
  refine am_E.go (t2 := (253, [vR y, vI 4, vI 1, vI 0, vI 0, vI 0, vU], [], aq_h m s F c_6)) rfl rfl ?_
  refine am_E.go (t2 := (256, [vR y, vI 4, vI 1, vI 1, vI 0, vI 0, vU], [], aq_h m s F c_6)) rfl rfl ?_
  refine am_E.go (t2 := (175, [vR y, vI 4, vI 1, vI 1, vI 0, vI 0, vU], [], aq_h m s F c_6)) rfl rfl ?_
  refine am_E.go (t2 := (176, [vR y, vI 4, vI 1, vI 1, vI 0, vI 0, vU], [vI 1], aq_h m s F c_6)) rfl rfl ?_
  refine am_E.go (t2 := (177, [vR y, vI 4, vI 1, vI 1, vI 0, vI 0, vU], [vI 4, vI 1], aq_h m s F c_6)) rfl rfl ?_
  refine am_E.go (t2 := (180, [vR y, vI 4, vI 1, vI 1, vI 0, vI 0, vU], [], aq_h m s F c_6)) rfl rfl ?_
  refine am_E.go (t2 := (181, [vR y, vI 4, vI 1, vI 1, vI 0, vI 0, vU], [vR y], aq_h m s F c_6)) rfl rfl ?_
  refine aq_gf (v := vR (y + 13)) rfl (by omega) hFo (by decide) rfl ?_
  show am_E _ (184, [vR y, vI 4, vI 1, vI 1, vI 0, vI 0, vU], [vR (y + 13)], aq_h m s F c_6) _
  refine am_E.go (t2 := (185, [vR y, vI 4, vI 1, vI 1, vI 0, vI 0, vU], [vI 1, vR (y + 13)], aq_h m s F c_6)) rfl rfl ?_
  refine aq_al (ok := fun k => k == 1) (v := vI (c_6 (y + 13) 1)) rfl rfl (by omega) hG13 rfl (by decide) (by decide) rfl ?_
  rw [mtc_6.2.1]
  show am_E _ (186, [vR y, vI 4, vI 1, vI 1, vI 0, vI 0, vU], [vI 0], aq_h m s F c_6) _
  refine am_E.go (t2 := (189, [vR y, vI 4, vI 1, vI 1, vI 0, vI 0, vU], [], aq_h m s F c_6)) rfl rfl ?_
  refine am_E.go (t2 := (192, [vR y, vI 4, vI 2, vI 1, vI 0, vI 0, vU], [], aq_h m s F c_6)) rfl rfl ?_
  refine am_E.go (t2 := (193, [vR y, vI 4, vI 2, vI 1, vI 0, vI 0, vU], [vI 1], aq_h m s F c_6)) rfl rfl ?_
  refine am_E.go (t2 := (195, [vR y, vI 4, vI 2, vI 1, vI 1, vI 0, vU], [], aq_h m s F c_6)) rfl rfl ?_
  refine am_E.go (t2 := (196, [vR y, vI 4, vI 2, vI 1, vI 1, vI 0, vU], [vI 1], aq_h m s F c_6)) rfl rfl ?_
  refine am_E.go (t2 := (198, [vR y, vI 4, vI 2, vI 1, vI 1, vI 1, vU], [], aq_h m s F c_6)) rfl rfl ?_
  refine am_E.go (t2 := (200, [vR y, vI 4, vI 2, vI 1, vI 1, vI 1, vU], [vI 1], aq_h m s F c_6)) rfl rfl ?_
  refine am_E.go (t2 := (203, [vR y, vI 4, vI 2, vI 1, vI 1, vI 1, vU], [], aq_h m s F c_6)) rfl rfl ?_
  refine am_E.go (t2 := (204, [vR y, vI 4, vI 2, vI 1, vI 1, vI 1, vU], [vR y], aq_h m s F c_6)) rfl rfl ?_
  refine aq_gf (v := vR (y + 13)) rfl (by omega) hFo (by decide) rfl ?_
  show am_E _ (207, [vR y, vI 4, vI 2, vI 1, vI 1, vI 1, vU], [vR (y + 13)], aq_h m s F c_6) _
  refine am_E.go (t2 := (209, [vR y, vI 4, vI 2, vI 1, vI 1, vI 1, vU], [vI 1, vR (y + 13)], aq_h m s F c_6)) rfl rfl ?_
  refine am_E.go (t2 := (210, [vR y, vI 4, vI 2, vI 1, vI 1, vI 1, vU], [vI 1, vI 1, vR (y + 13)], aq_h m s F c_6)) rfl rfl ?_
  refine aq_as (kd := 1) rfl rfl (by omega) hG13 (by omega) (by omega) rfl rfl ?_
  show am_E _ (211, [vR y, vI 4, vI 2, vI 1, vI 1, vI 1, vU], [], aq_h m s F (aq_u c_6 (y + 13) 1 1)) _
  generalize hdc_7 : aq_u c_6 (y + 13) 1 1 = c_7
  have sc_7 := aq_smu sc_6 hdc_7 rfl
  have mtc_7 := mt_1 mtc_6 hdc_7
  refine am_E.go (t2 := (212, [vR y, vI 4, vI 2, vI 1, vI 1, vI 1, vU], [vR y], aq_h m s F c_7)) rfl rfl ?_
  refine aq_gf (v := vR (y + 18)) rfl (by omega) hFo (by decide) rfl ?_
  show am_E _ (215, [vR y, vI 4, vI 2, vI 1, vI 1, vI 1, vU], [vR (y + 18)], aq_h m s F c_7) _
  refine am_E.go (t2 := (217, [vR y, vI 4, vI 2, vI 1, vI 1, vI 1, vU], [vI 1, vR (y + 18)], aq_h m s F c_7)) rfl rfl ?_
  refine aq_al (ok := fun k => k == 0) (v := vI (c_7 (y + 18) 1)) rfl rfl (by omega) hG18 rfl (by decide) (by decide) rfl ?_
  rw [sc_7 (y + 18) (by omega), hA1]
  show am_E _ (218, [vR y, vI 4, vI 2, vI 1, vI 1, vI 1, vU], [vI 2], aq_h m s F c_7) _
  refine am_E.go (t2 := (220, [vR y, vI 4, vI 2, vI 1, vI 2, vI 1, vU], [], aq_h m s F c_7)) rfl rfl ?_
  refine am_E.go (t2 := (221, [vR y, vI 4, vI 2, vI 1, vI 2, vI 1, vU], [vR y], aq_h m s F c_7)) rfl rfl ?_
  refine aq_gf (v := vR (y + 13)) rfl (by omega) hFo (by decide) rfl ?_
  show am_E _ (224, [vR y, vI 4, vI 2, vI 1, vI 2, vI 1, vU], [vR (y + 13)], aq_h m s F c_7) _
  refine am_E.go (t2 := (226, [vR y, vI 4, vI 2, vI 1, vI 2, vI 1, vU], [vI 2, vR (y + 13)], aq_h m s F c_7)) rfl rfl ?_
  refine am_E.go (t2 := (227, [vR y, vI 4, vI 2, vI 1, vI 2, vI 1, vU], [vI 1, vI 2, vR (y + 13)], aq_h m s F c_7)) rfl rfl ?_
  refine aq_as (kd := 1) rfl rfl (by omega) hG13 (by omega) (by omega) rfl rfl ?_
  show am_E _ (228, [vR y, vI 4, vI 2, vI 1, vI 2, vI 1, vU], [], aq_h m s F (aq_u c_7 (y + 13) 2 1)) _
  generalize hdc_8 : aq_u c_7 (y + 13) 2 1 = c_8
  have sc_8 := aq_smu sc_7 hdc_8 rfl
  have mtc_8 := mt_2 mtc_7 hdc_8
  refine am_E.go (t2 := (229, [vR y, vI 4, vI 2, vI 1, vI 2, vI 1, vU], [vR y], aq_h m s F c_8)) rfl rfl ?_
  refine aq_gf (v := vR (y + 19)) rfl (by omega) hFo (by decide) rfl ?_
  show am_E _ (232, [vR y, vI 4, vI 2, vI 1, vI 2, vI 1, vU], [vR (y + 19)], aq_h m s F c_8) _
  refine am_E.go (t2 := (234, [vR y, vI 4, vI 2, vI 1, vI 2, vI 1, vU], [vI 2, vR (y + 19)], aq_h m s F c_8)) rfl rfl ?_
  refine aq_al (ok := fun k => k == 0) (v := vI (c_8 (y + 19) 2)) rfl rfl (by omega) hG19 rfl (by decide) (by decide) rfl ?_
  rw [sc_8 (y + 19) (by omega), hB2]
  show am_E _ (235, [vR y, vI 4, vI 2, vI 1, vI 2, vI 1, vU], [vI 1], aq_h m s F c_8) _
  refine am_E.go (t2 := (237, [vR y, vI 4, vI 2, vI 1, vI 1, vI 1, vU], [], aq_h m s F c_8)) rfl rfl ?_
  refine am_E.go (t2 := (239, [vR y, vI 4, vI 2, vI 1, vI 1, vI 1, vU], [vI 1], aq_h m s F c_8)) rfl rfl ?_
  refine am_E.go (t2 := (240, [vR y, vI 4, vI 2, vI 1, vI 1, vI 1, vU], [vI 1, vI 1], aq_h m s F c_8)) rfl rfl ?_
  refine am_E.go (t2 := (247, [vR y, vI 4, vI 2, vI 1, vI 1, vI 1, vU], [], aq_h m s F c_8)) rfl rfl ?_
  refine am_E.go (t2 := (248, [vR y, vI 4, vI 2, vI 1, vI 1, vI 1, vU], [vI 0], aq_h m s F c_8)) rfl rfl ?_
  refine am_E.go (t2 := (250, [vR y, vI 4, vI 2, vI 1, vI 1, vI 0, vU], [], aq_h m s F c_8)) rfl rfl ?_
  refine am_E.go (t2 := (198, [vR y, vI 4, vI 2, vI 1, vI 1, vI 0, vU], [], aq_h m s F c_8)) rfl rfl ?_
  refine am_E.go (t2 := (200, [vR y, vI 4, vI 2, vI 1, vI 1, vI 0, vU], [vI 0], aq_h m s F c_8)) rfl rfl ?_
  refine am_E.go (t2 := (253, [vR y, vI 4, vI 2, vI 1, vI 1, vI 0, vU], [], aq_h m s F c_8)) rfl rfl ?_
  refine am_E.go (t2 := (256, [vR y, vI 4, vI 2, vI 2, vI 1, vI 0, vU], [], aq_h m s F c_8)) rfl rfl ?_
  refine am_E.go (t2 := (175, [vR y, vI 4, vI 2, vI 2, vI 1, vI 0, vU], [], aq_h m s F c_8)) rfl rfl ?_
  refine am_E.go (t2 := (176, [vR y, vI 4, vI 2, vI 2, vI 1, vI 0, vU], [vI 2], aq_h m s F c_8)) rfl rfl ?_
  refine am_E.go (t2 := (177, [vR y, vI 4, vI 2, vI 2, vI 1, vI 0, vU], [vI 4, vI 2], aq_h m s F c_8)) rfl rfl ?_
  refine am_E.go (t2 := (180, [vR y, vI 4, vI 2, vI 2, vI 1, vI 0, vU], [], aq_h m s F c_8)) rfl rfl ?_
  refine am_E.go (t2 := (181, [vR y, vI 4, vI 2, vI 2, vI 1, vI 0, vU], [vR y], aq_h m s F c_8)) rfl rfl ?_
  refine aq_gf (v := vR (y + 13)) rfl (by omega) hFo (by decide) rfl ?_
  show am_E _ (184, [vR y, vI 4, vI 2, vI 2, vI 1, vI 0, vU], [vR (y + 13)], aq_h m s F c_8) _
  refine am_E.go (t2 := (185, [vR y, vI 4, vI 2, vI 2, vI 1, vI 0, vU], [vI 2, vR (y + 13)], aq_h m s F c_8)) rfl rfl ?_
  refine aq_al (ok := fun k => k == 1) (v := vI (c_8 (y + 13) 2)) rfl rfl (by omega) hG13 rfl (by decide) (by decide) rfl ?_
  rw [mtc_8.2.2.1]
  show am_E _ (186, [vR y, vI 4, vI 2, vI 2, vI 1, vI 0, vU], [vI 1], aq_h m s F c_8) _
  refine am_E.go (t2 := (253, [vR y, vI 4, vI 2, vI 2, vI 1, vI 0, vU], [], aq_h m s F c_8)) rfl rfl ?_
  refine am_E.go (t2 := (256, [vR y, vI 4, vI 2, vI 3, vI 1, vI 0, vU], [], aq_h m s F c_8)) rfl rfl ?_
  refine am_E.go (t2 := (175, [vR y, vI 4, vI 2, vI 3, vI 1, vI 0, vU], [], aq_h m s F c_8)) rfl rfl ?_
  refine am_E.go (t2 := (176, [vR y, vI 4, vI 2, vI 3, vI 1, vI 0, vU], [vI 3], aq_h m s F c_8)) rfl rfl ?_
  refine am_E.go (t2 := (177, [vR y, vI 4, vI 2, vI 3, vI 1, vI 0, vU], [vI 4, vI 3], aq_h m s F c_8)) rfl rfl ?_
  refine am_E.go (t2 := (180, [vR y, vI 4, vI 2, vI 3, vI 1, vI 0, vU], [], aq_h m s F c_8)) rfl rfl ?_
  refine am_E.go (t2 := (181, [vR y, vI 4, vI 2, vI 3, vI 1, vI 0, vU], [vR y], aq_h m s F c_8)) rfl rfl ?_
  refine aq_gf (v := vR (y + 13)) rfl (by omega) hFo (by decide) rfl ?_
  show am_E _ (184, [vR y, vI 4, vI 2, vI 3, vI 1, vI 0, vU], [vR (y + 13)], aq_h m s F c_8) _
  refine am_E.go (t2 := (185, [vR y, vI 4, vI 2, vI 3, vI 1, vI 0, vU], [vI 3, vR (y + 13)], aq_h m s F c_8)) rfl rfl ?_
  refine aq_al (ok := fun k => k == 1) (v := vI (c_8 (y + 13) 3)) rfl rfl (by omega) hG13 rfl (by decide) (by decide) rfl ?_
  rw [mtc_8.2.2.2]
  show am_E _ (186, [vR y, vI 4, vI 2, vI 3, vI 1, vI 0, vU], [vI 1], aq_h m s F c_8) _
  refine am_E.go (t2 := (253, [vR y, vI 4, vI 2, vI 3, vI 1, vI 0, vU], [], aq_h m s F c_8)) rfl rfl ?_
  refine am_E.go (t2 := (256, [vR y, vI 4, vI 2, vI 4, vI 1, vI 0, vU], [], aq_h m s F c_8)) rfl rfl ?_
  refine am_E.go (t2 := (175, [vR y, vI 4, vI 2, vI 4, vI 1, vI 0, vU], [], aq_h m s F c_8)) rfl rfl ?_
  refine am_E.go (t2 := (176, [vR y, vI 4, vI 2, vI 4, vI 1, vI 0, vU], [vI 4], aq_h m s F c_8)) rfl rfl ?_
  refine am_E.go (t2 := (177, [vR y, vI 4, vI 2, vI 4, vI 1, vI 0, vU], [vI 4, vI 4], aq_h m s F c_8)) rfl rfl ?_
  refine am_E.go (t2 := (259, [vR y, vI 4, vI 2, vI 4, vI 1, vI 0, vU], [], aq_h m s F c_8)) rfl rfl ?_
  refine am_E.go (t2 := (260, [vR y, vI 4, vI 2, vI 4, vI 1, vI 0, vU], [vI 2], aq_h m s F c_8)) rfl rfl ?_
  refine am_E.ret rfl rfl ?_
  exact ⟨_, rfl, sc_8, rfl⟩

theorem qm_fo_4200 {m s : Nat} {F : aq_F} {c : aq_C} {y : Nat} (hO : mo_0 m F y) (hA0 : c (y + 18) 0 = 1) (hA1 : c (y + 18) 1 = 0) (hA2 : c (y + 18) 2 = 4) (hA3 : c (y + 18) 3 = 4) (hB0 : c (y + 19) 0 = 1) (hB1 : c (y + 19) 1 = 0) (hB2 : c (y + 19) 2 = 4) (hB3 : c (y + 19) 3 = 4) : am_E ac_X5_formOf (0, [vR y, vI 4, vU, vU, vU, vU, vU], [], aq_h m s F c) (aq_Z m s F (fun a => a = y + 13) c (fun r _ => r = some (vI 1))) := by
  obtain ⟨hm, hFo, hG5, hG6, hG7, hG8, hG9, hG10, hG11, hG12, hG13, hG14, hG15, hG16, hG17, hG18, hG19, hG20, hG21, hG22, hG23⟩ := hO
  have hmt : mt_ y (c (y + 13) 0) (c (y + 13) 1) (c (y + 13) 2) (c (y + 13) 3) c := ⟨rfl, rfl, rfl, rfl⟩
  refine am_E.go (t2 := (1, [vR y, vI 4, vU, vU, vU, vU, vU], [vI 0], aq_h m s F c)) rfl rfl ?_
  refine am_E.go (t2 := (2, [vR y, vI 4, vI 0, vU, vU, vU, vU], [], aq_h m s F c)) rfl rfl ?_
  refine am_E.go (t2 := (3, [vR y, vI 4, vI 0, vU, vU, vU, vU], [vI 0], aq_h m s F c)) rfl rfl ?_
  refine am_E.go (t2 := (4, [vR y, vI 4, vI 0, vU, vU, vU, vU], [vI 4, vI 0], aq_h m s F c)) rfl rfl ?_
  refine am_E.go (t2 := (7, [vR y, vI 4, vI 0, vU, vU, vU, vU], [], aq_h m s F c)) rfl rfl ?_
  refine am_E.go (t2 := (8, [vR y, vI 4, vI 0, vU, vU, vU, vU], [vR y], aq_h m s F c)) rfl rfl ?_
  refine aq_gf (v := vR (y + 13)) rfl (by omega) hFo (by decide) rfl ?_
  show am_E _ (11, [vR y, vI 4, vI 0, vU, vU, vU, vU], [vR (y + 13)], aq_h m s F c) _
  refine am_E.go (t2 := (12, [vR y, vI 4, vI 0, vU, vU, vU, vU], [vI 0, vR (y + 13)], aq_h m s F c)) rfl rfl ?_
  refine am_E.go (t2 := (13, [vR y, vI 4, vI 0, vU, vU, vU, vU], [vI 0, vI 0, vR (y + 13)], aq_h m s F c)) rfl rfl ?_
  refine aq_as (kd := 1) rfl rfl (by omega) hG13 (by omega) (by omega) rfl rfl ?_
  show am_E _ (14, [vR y, vI 4, vI 0, vU, vU, vU, vU], [], aq_h m s F (aq_u c (y + 13) 0 0)) _
  generalize hdc_1 : aq_u c (y + 13) 0 0 = c_1
  have sc_1 := aq_smu (aq_sm0 (c := c) (S := fun a => a = y + 13)) hdc_1 rfl
  have mtc_1 := mt_0 hmt hdc_1
  refine am_E.go (t2 := (17, [vR y, vI 4, vI 1, vU, vU, vU, vU], [], aq_h m s F c_1)) rfl rfl ?_
  refine am_E.go (t2 := (2, [vR y, vI 4, vI 1, vU, vU, vU, vU], [], aq_h m s F c_1)) rfl rfl ?_
  refine am_E.go (t2 := (3, [vR y, vI 4, vI 1, vU, vU, vU, vU], [vI 1], aq_h m s F c_1)) rfl rfl ?_
  refine am_E.go (t2 := (4, [vR y, vI 4, vI 1, vU, vU, vU, vU], [vI 4, vI 1], aq_h m s F c_1)) rfl rfl ?_
  refine am_E.go (t2 := (7, [vR y, vI 4, vI 1, vU, vU, vU, vU], [], aq_h m s F c_1)) rfl rfl ?_
  refine am_E.go (t2 := (8, [vR y, vI 4, vI 1, vU, vU, vU, vU], [vR y], aq_h m s F c_1)) rfl rfl ?_
  refine aq_gf (v := vR (y + 13)) rfl (by omega) hFo (by decide) rfl ?_
  show am_E _ (11, [vR y, vI 4, vI 1, vU, vU, vU, vU], [vR (y + 13)], aq_h m s F c_1) _
  refine am_E.go (t2 := (12, [vR y, vI 4, vI 1, vU, vU, vU, vU], [vI 1, vR (y + 13)], aq_h m s F c_1)) rfl rfl ?_
  refine am_E.go (t2 := (13, [vR y, vI 4, vI 1, vU, vU, vU, vU], [vI 0, vI 1, vR (y + 13)], aq_h m s F c_1)) rfl rfl ?_
  refine aq_as (kd := 1) rfl rfl (by omega) hG13 (by omega) (by omega) rfl rfl ?_
  show am_E _ (14, [vR y, vI 4, vI 1, vU, vU, vU, vU], [], aq_h m s F (aq_u c_1 (y + 13) 1 0)) _
  generalize hdc_2 : aq_u c_1 (y + 13) 1 0 = c_2
  have sc_2 := aq_smu sc_1 hdc_2 rfl
  have mtc_2 := mt_1 mtc_1 hdc_2
  refine am_E.go (t2 := (17, [vR y, vI 4, vI 2, vU, vU, vU, vU], [], aq_h m s F c_2)) rfl rfl ?_
  refine am_E.go (t2 := (2, [vR y, vI 4, vI 2, vU, vU, vU, vU], [], aq_h m s F c_2)) rfl rfl ?_
  refine am_E.go (t2 := (3, [vR y, vI 4, vI 2, vU, vU, vU, vU], [vI 2], aq_h m s F c_2)) rfl rfl ?_
  refine am_E.go (t2 := (4, [vR y, vI 4, vI 2, vU, vU, vU, vU], [vI 4, vI 2], aq_h m s F c_2)) rfl rfl ?_
  refine am_E.go (t2 := (7, [vR y, vI 4, vI 2, vU, vU, vU, vU], [], aq_h m s F c_2)) rfl rfl ?_
  refine am_E.go (t2 := (8, [vR y, vI 4, vI 2, vU, vU, vU, vU], [vR y], aq_h m s F c_2)) rfl rfl ?_
  refine aq_gf (v := vR (y + 13)) rfl (by omega) hFo (by decide) rfl ?_
  show am_E _ (11, [vR y, vI 4, vI 2, vU, vU, vU, vU], [vR (y + 13)], aq_h m s F c_2) _
  refine am_E.go (t2 := (12, [vR y, vI 4, vI 2, vU, vU, vU, vU], [vI 2, vR (y + 13)], aq_h m s F c_2)) rfl rfl ?_
  refine am_E.go (t2 := (13, [vR y, vI 4, vI 2, vU, vU, vU, vU], [vI 0, vI 2, vR (y + 13)], aq_h m s F c_2)) rfl rfl ?_
  refine aq_as (kd := 1) rfl rfl (by omega) hG13 (by omega) (by omega) rfl rfl ?_
  show am_E _ (14, [vR y, vI 4, vI 2, vU, vU, vU, vU], [], aq_h m s F (aq_u c_2 (y + 13) 2 0)) _
  generalize hdc_3 : aq_u c_2 (y + 13) 2 0 = c_3
  have sc_3 := aq_smu sc_2 hdc_3 rfl
  have mtc_3 := mt_2 mtc_2 hdc_3
  refine am_E.go (t2 := (17, [vR y, vI 4, vI 3, vU, vU, vU, vU], [], aq_h m s F c_3)) rfl rfl ?_
  refine am_E.go (t2 := (2, [vR y, vI 4, vI 3, vU, vU, vU, vU], [], aq_h m s F c_3)) rfl rfl ?_
  refine am_E.go (t2 := (3, [vR y, vI 4, vI 3, vU, vU, vU, vU], [vI 3], aq_h m s F c_3)) rfl rfl ?_
  refine am_E.go (t2 := (4, [vR y, vI 4, vI 3, vU, vU, vU, vU], [vI 4, vI 3], aq_h m s F c_3)) rfl rfl ?_
  refine am_E.go (t2 := (7, [vR y, vI 4, vI 3, vU, vU, vU, vU], [], aq_h m s F c_3)) rfl rfl ?_
  refine am_E.go (t2 := (8, [vR y, vI 4, vI 3, vU, vU, vU, vU], [vR y], aq_h m s F c_3)) rfl rfl ?_
  refine aq_gf (v := vR (y + 13)) rfl (by omega) hFo (by decide) rfl ?_
  show am_E _ (11, [vR y, vI 4, vI 3, vU, vU, vU, vU], [vR (y + 13)], aq_h m s F c_3) _
  refine am_E.go (t2 := (12, [vR y, vI 4, vI 3, vU, vU, vU, vU], [vI 3, vR (y + 13)], aq_h m s F c_3)) rfl rfl ?_
  refine am_E.go (t2 := (13, [vR y, vI 4, vI 3, vU, vU, vU, vU], [vI 0, vI 3, vR (y + 13)], aq_h m s F c_3)) rfl rfl ?_
  refine aq_as (kd := 1) rfl rfl (by omega) hG13 (by omega) (by omega) rfl rfl ?_
  show am_E _ (14, [vR y, vI 4, vI 3, vU, vU, vU, vU], [], aq_h m s F (aq_u c_3 (y + 13) 3 0)) _
  generalize hdc_4 : aq_u c_3 (y + 13) 3 0 = c_4
  have sc_4 := aq_smu sc_3 hdc_4 rfl
  have mtc_4 := mt_3 mtc_3 hdc_4
  refine am_E.go (t2 := (17, [vR y, vI 4, vI 4, vU, vU, vU, vU], [], aq_h m s F c_4)) rfl rfl ?_
  refine am_E.go (t2 := (2, [vR y, vI 4, vI 4, vU, vU, vU, vU], [], aq_h m s F c_4)) rfl rfl ?_
  refine am_E.go (t2 := (3, [vR y, vI 4, vI 4, vU, vU, vU, vU], [vI 4], aq_h m s F c_4)) rfl rfl ?_
  refine am_E.go (t2 := (4, [vR y, vI 4, vI 4, vU, vU, vU, vU], [vI 4, vI 4], aq_h m s F c_4)) rfl rfl ?_
  refine am_E.go (t2 := (20, [vR y, vI 4, vI 4, vU, vU, vU, vU], [], aq_h m s F c_4)) rfl rfl ?_
  refine am_E.go (t2 := (21, [vR y, vI 4, vI 4, vU, vU, vU, vU], [vI 0], aq_h m s F c_4)) rfl rfl ?_
  refine am_E.go (t2 := (22, [vR y, vI 4, vI 0, vU, vU, vU, vU], [], aq_h m s F c_4)) rfl rfl ?_
  refine am_E.go (t2 := (23, [vR y, vI 4, vI 0, vU, vU, vU, vU], [vI 0], aq_h m s F c_4)) rfl rfl ?_
  refine am_E.go (t2 := (24, [vR y, vI 4, vI 0, vU, vU, vU, vU], [vI 4, vI 0], aq_h m s F c_4)) rfl rfl ?_
  refine am_E.go (t2 := (27, [vR y, vI 4, vI 0, vU, vU, vU, vU], [], aq_h m s F c_4)) rfl rfl ?_
  refine am_E.go (t2 := (28, [vR y, vI 4, vI 0, vU, vU, vU, vU], [vR y], aq_h m s F c_4)) rfl rfl ?_
  refine aq_gf (v := vR (y + 18)) rfl (by omega) hFo (by decide) rfl ?_
  show am_E _ (31, [vR y, vI 4, vI 0, vU, vU, vU, vU], [vR (y + 18)], aq_h m s F c_4) _
  refine am_E.go (t2 := (32, [vR y, vI 4, vI 0, vU, vU, vU, vU], [vI 0, vR (y + 18)], aq_h m s F c_4)) rfl rfl ?_
  refine aq_al (ok := fun k => k == 0) (v := vI (c_4 (y + 18) 0)) rfl rfl (by omega) hG18 rfl (by decide) (by decide) rfl ?_
  rw [sc_4 (y + 18) (by omega), hA0]
  show am_E _ (33, [vR y, vI 4, vI 0, vU, vU, vU, vU], [vI 1], aq_h m s F c_4) _
  refine am_E.go (t2 := (34, [vR y, vI 4, vI 0, vU, vU, vU, vU], [vI 4, vI 1], aq_h m s F c_4)) rfl rfl ?_
  refine am_E.go (t2 := (130, [vR y, vI 4, vI 0, vU, vU, vU, vU], [], aq_h m s F c_4)) rfl rfl ?_
  refine am_E.go (t2 := (133, [vR y, vI 4, vI 1, vU, vU, vU, vU], [], aq_h m s F c_4)) rfl rfl ?_
  refine am_E.go (t2 := (22, [vR y, vI 4, vI 1, vU, vU, vU, vU], [], aq_h m s F c_4)) rfl rfl ?_
  refine am_E.go (t2 := (23, [vR y, vI 4, vI 1, vU, vU, vU, vU], [vI 1], aq_h m s F c_4)) rfl rfl ?_
  refine am_E.go (t2 := (24, [vR y, vI 4, vI 1, vU, vU, vU, vU], [vI 4, vI 1], aq_h m s F c_4)) rfl rfl ?_
  refine am_E.go (t2 := (27, [vR y, vI 4, vI 1, vU, vU, vU, vU], [], aq_h m s F c_4)) rfl rfl ?_
  refine am_E.go (t2 := (28, [vR y, vI 4, vI 1, vU, vU, vU, vU], [vR y], aq_h m s F c_4)) rfl rfl ?_
  refine aq_gf (v := vR (y + 18)) rfl (by omega) hFo (by decide) rfl ?_
  show am_E _ (31, [vR y, vI 4, vI 1, vU, vU, vU, vU], [vR (y + 18)], aq_h m s F c_4) _
  refine am_E.go (t2 := (32, [vR y, vI 4, vI 1, vU, vU, vU, vU], [vI 1, vR (y + 18)], aq_h m s F c_4)) rfl rfl ?_
  refine aq_al (ok := fun k => k == 0) (v := vI (c_4 (y + 18) 1)) rfl rfl (by omega) hG18 rfl (by decide) (by decide) rfl ?_
  rw [sc_4 (y + 18) (by omega), hA1]
  show am_E _ (33, [vR y, vI 4, vI 1, vU, vU, vU, vU], [vI 0], aq_h m s F c_4) _
  refine am_E.go (t2 := (34, [vR y, vI 4, vI 1, vU, vU, vU, vU], [vI 4, vI 0], aq_h m s F c_4)) rfl rfl ?_
  refine am_E.go (t2 := (130, [vR y, vI 4, vI 1, vU, vU, vU, vU], [], aq_h m s F c_4)) rfl rfl ?_
  refine am_E.go (t2 := (133, [vR y, vI 4, vI 2, vU, vU, vU, vU], [], aq_h m s F c_4)) rfl rfl ?_
  refine am_E.go (t2 := (22, [vR y, vI 4, vI 2, vU, vU, vU, vU], [], aq_h m s F c_4)) rfl rfl ?_
  refine am_E.go (t2 := (23, [vR y, vI 4, vI 2, vU, vU, vU, vU], [vI 2], aq_h m s F c_4)) rfl rfl ?_
  refine am_E.go (t2 := (24, [vR y, vI 4, vI 2, vU, vU, vU, vU], [vI 4, vI 2], aq_h m s F c_4)) rfl rfl ?_
  refine am_E.go (t2 := (27, [vR y, vI 4, vI 2, vU, vU, vU, vU], [], aq_h m s F c_4)) rfl rfl ?_
  refine am_E.go (t2 := (28, [vR y, vI 4, vI 2, vU, vU, vU, vU], [vR y], aq_h m s F c_4)) rfl rfl ?_
  refine aq_gf (v := vR (y + 18)) rfl (by omega) hFo (by decide) rfl ?_
  show am_E _ (31, [vR y, vI 4, vI 2, vU, vU, vU, vU], [vR (y + 18)], aq_h m s F c_4) _
  refine am_E.go (t2 := (32, [vR y, vI 4, vI 2, vU, vU, vU, vU], [vI 2, vR (y + 18)], aq_h m s F c_4)) rfl rfl ?_
  refine aq_al (ok := fun k => k == 0) (v := vI (c_4 (y + 18) 2)) rfl rfl (by omega) hG18 rfl (by decide) (by decide) rfl ?_
  rw [sc_4 (y + 18) (by omega), hA2]
  show am_E _ (33, [vR y, vI 4, vI 2, vU, vU, vU, vU], [vI 4], aq_h m s F c_4) _
  refine am_E.go (t2 := (34, [vR y, vI 4, vI 2, vU, vU, vU, vU], [vI 4, vI 4], aq_h m s F c_4)) rfl rfl ?_
  refine am_E.go (t2 := (37, [vR y, vI 4, vI 2, vU, vU, vU, vU], [], aq_h m s F c_4)) rfl rfl ?_
  refine am_E.go (t2 := (38, [vR y, vI 4, vI 2, vU, vU, vU, vU], [vI 2], aq_h m s F c_4)) rfl rfl ?_
  refine am_E.go (t2 := (39, [vR y, vI 4, vI 2, vI 2, vU, vU, vU], [], aq_h m s F c_4)) rfl rfl ?_
  refine am_E.go (t2 := (40, [vR y, vI 4, vI 2, vI 2, vU, vU, vU], [vI 1], aq_h m s F c_4)) rfl rfl ?_
  refine am_E.go (t2 := (42, [vR y, vI 4, vI 2, vI 2, vI 1, vU, vU], [], aq_h m s F c_4)) rfl rfl ?_
  refine am_E.go (t2 := (43, [vR y, vI 4, vI 2, vI 2, vI 1, vU, vU], [vI 1], aq_h m s F c_4)) rfl rfl ?_
  refine am_E.go (t2 := (45, [vR y, vI 4, vI 2, vI 2, vI 1, vI 1, vU], [], aq_h m s F c_4)) rfl rfl ?_
  refine am_E.go (t2 := (47, [vR y, vI 4, vI 2, vI 2, vI 1, vI 1, vU], [vI 1], aq_h m s F c_4)) rfl rfl ?_
  refine am_E.go (t2 := (50, [vR y, vI 4, vI 2, vI 2, vI 1, vI 1, vU], [], aq_h m s F c_4)) rfl rfl ?_
  refine am_E.go (t2 := (51, [vR y, vI 4, vI 2, vI 2, vI 1, vI 1, vU], [vR y], aq_h m s F c_4)) rfl rfl ?_
  refine aq_gf (v := vR (y + 13)) rfl (by omega) hFo (by decide) rfl ?_
  show am_E _ (54, [vR y, vI 4, vI 2, vI 2, vI 1, vI 1, vU], [vR (y + 13)], aq_h m s F c_4) _
  refine am_E.go (t2 := (55, [vR y, vI 4, vI 2, vI 2, vI 1, vI 1, vU], [vI 2, vR (y + 13)], aq_h m s F c_4)) rfl rfl ?_
  refine am_E.go (t2 := (56, [vR y, vI 4, vI 2, vI 2, vI 1, vI 1, vU], [vI 1, vI 2, vR (y + 13)], aq_h m s F c_4)) rfl rfl ?_
  refine aq_as (kd := 1) rfl rfl (by omega) hG13 (by omega) (by omega) rfl rfl ?_
  show am_E _ (57, [vR y, vI 4, vI 2, vI 2, vI 1, vI 1, vU], [], aq_h m s F (aq_u c_4 (y + 13) 2 1)) _
  generalize hdc_5 : aq_u c_4 (y + 13) 2 1 = c_5
  have sc_5 := aq_smu sc_4 hdc_5 rfl
  have mtc_5 := mt_2 mtc_4 hdc_5
  refine am_E.go (t2 := (59, [vR y, vI 4, vI 2, vI 2, vI 1, vI 1, vU], [vI 1], aq_h m s F c_5)) rfl rfl ?_
  refine am_E.go (t2 := (62, [vR y, vI 4, vI 2, vI 2, vI 1, vI 1, vU], [], aq_h m s F c_5)) rfl rfl ?_
  refine am_E.go (t2 := (63, [vR y, vI 4, vI 2, vI 2, vI 1, vI 1, vU], [vR y], aq_h m s F c_5)) rfl rfl ?_
  refine aq_gf (v := vR (y + 19)) rfl (by omega) hFo (by decide) rfl ?_
  show am_E _ (66, [vR y, vI 4, vI 2, vI 2, vI 1, vI 1, vU], [vR (y + 19)], aq_h m s F c_5) _
  refine am_E.go (t2 := (67, [vR y, vI 4, vI 2, vI 2, vI 1, vI 1, vU], [vI 2, vR (y + 19)], aq_h m s F c_5)) rfl rfl ?_
  refine aq_al (ok := fun k => k == 0) (v := vI (c_5 (y + 19) 2)) rfl rfl (by omega) hG19 rfl (by decide) (by decide) rfl ?_
  rw [sc_5 (y + 19) (by omega), hB2]
  show am_E _ (68, [vR y, vI 4, vI 2, vI 2, vI 1, vI 1, vU], [vI 4], aq_h m s F c_5) _
  refine am_E.go (t2 := (77, [vR y, vI 4, vI 2, vI 2, vI 1, vI 1, vU], [vI 4], aq_h m s F c_5)) rfl rfl ?_
  refine am_E.go (t2 := (79, [vR y, vI 4, vI 2, vI 2, vI 1, vI 1, vI 4], [], aq_h m s F c_5)) rfl rfl ?_
  refine am_E.go (t2 := (81, [vR y, vI 4, vI 2, vI 2, vI 1, vI 1, vI 4], [vI 4], aq_h m s F c_5)) rfl rfl ?_
  refine am_E.go (t2 := (82, [vR y, vI 4, vI 2, vI 2, vI 1, vI 1, vI 4], [vI 4, vI 4], aq_h m s F c_5)) rfl rfl ?_
  refine am_E.go (t2 := (89, [vR y, vI 4, vI 2, vI 2, vI 1, vI 1, vI 4], [], aq_h m s F c_5)) rfl rfl ?_
  refine am_E.go (t2 := (90, [vR y, vI 4, vI 2, vI 2, vI 1, vI 1, vI 4], [vI 0], aq_h m s F c_5)) rfl rfl ?_
  refine am_E.go (t2 := (92, [vR y, vI 4, vI 2, vI 2, vI 1, vI 0, vI 4], [], aq_h m s F c_5)) rfl rfl ?_
  refine am_E.go (t2 := (94, [vR y, vI 4, vI 2, vI 2, vI 1, vI 0, vI 4], [vI 0], aq_h m s F c_5)) rfl rfl ?_
  refine am_E.go (t2 := (112, [vR y, vI 4, vI 2, vI 2, vI 1, vI 0, vI 4], [], aq_h m s F c_5)) rfl rfl ?_
  refine am_E.go (t2 := (45, [vR y, vI 4, vI 2, vI 2, vI 1, vI 0, vI 4], [], aq_h m s F c_5)) rfl rfl ?_
  refine am_E.go (t2 := (47, [vR y, vI 4, vI 2, vI 2, vI 1, vI 0, vI 4], [vI 0], aq_h m s F c_5)) rfl rfl ?_
  refine am_E.go (t2 := (115, [vR y, vI 4, vI 2, vI 2, vI 1, vI 0, vI 4], [], aq_h m s F c_5)) rfl rfl ?_
  refine am_E.go (t2 := (116, [vR y, vI 4, vI 2, vI 2, vI 1, vI 0, vI 4], [vR y], aq_h m s F c_5)) rfl rfl ?_
  refine aq_gf (v := vR (y + 13)) rfl (by omega) hFo (by decide) rfl ?_
  show am_E _ (119, [vR y, vI 4, vI 2, vI 2, vI 1, vI 0, vI 4], [vR (y + 13)], aq_h m s F c_5) _
  refine am_E.go (t2 := (120, [vR y, vI 4, vI 2, vI 2, vI 1, vI 0, vI 4], [vI 2, vR (y + 13)], aq_h m s F c_5)) rfl rfl ?_
  refine am_E.go (t2 := (121, [vR y, vI 4, vI 2, vI 2, vI 1, vI 0, vI 4], [vI 1, vI 2, vR (y + 13)], aq_h m s F c_5)) rfl rfl ?_
  refine aq_as (kd := 1) rfl rfl (by omega) hG13 (by omega) (by omega) rfl rfl ?_
  show am_E _ (122, [vR y, vI 4, vI 2, vI 2, vI 1, vI 0, vI 4], [], aq_h m s F (aq_u c_5 (y + 13) 2 1)) _
  generalize hdc_6 : aq_u c_5 (y + 13) 2 1 = c_6
  have sc_6 := aq_smu sc_5 hdc_6 rfl
  have mtc_6 := mt_2 mtc_5 hdc_6
  refine am_E.go (t2 := (124, [vR y, vI 4, vI 2, vI 2, vI 1, vI 0, vI 4], [vI 1], aq_h m s F c_6)) rfl rfl ?_
  refine am_E.go (t2 := (130, [vR y, vI 4, vI 2, vI 2, vI 1, vI 0, vI 4], [], aq_h m s F c_6)) rfl rfl ?_
  refine am_E.go (t2 := (133, [vR y, vI 4, vI 3, vI 2, vI 1, vI 0, vI 4], [], aq_h m s F c_6)) rfl rfl ?_
  refine am_E.go (t2 := (22, [vR y, vI 4, vI 3, vI 2, vI 1, vI 0, vI 4], [], aq_h m s F c_6)) rfl rfl ?_
  refine am_E.go (t2 := (23, [vR y, vI 4, vI 3, vI 2, vI 1, vI 0, vI 4], [vI 3], aq_h m s F c_6)) rfl rfl ?_
  refine am_E.go (t2 := (24, [vR y, vI 4, vI 3, vI 2, vI 1, vI 0, vI 4], [vI 4, vI 3], aq_h m s F c_6)) rfl rfl ?_
  refine am_E.go (t2 := (27, [vR y, vI 4, vI 3, vI 2, vI 1, vI 0, vI 4], [], aq_h m s F c_6)) rfl rfl ?_
  refine am_E.go (t2 := (28, [vR y, vI 4, vI 3, vI 2, vI 1, vI 0, vI 4], [vR y], aq_h m s F c_6)) rfl rfl ?_
  refine aq_gf (v := vR (y + 18)) rfl (by omega) hFo (by decide) rfl ?_
  show am_E _ (31, [vR y, vI 4, vI 3, vI 2, vI 1, vI 0, vI 4], [vR (y + 18)], aq_h m s F c_6) _
  refine am_E.go (t2 := (32, [vR y, vI 4, vI 3, vI 2, vI 1, vI 0, vI 4], [vI 3, vR (y + 18)], aq_h m s F c_6)) rfl rfl ?_
  refine aq_al (ok := fun k => k == 0) (v := vI (c_6 (y + 18) 3)) rfl rfl (by omega) hG18 rfl (by decide) (by decide) rfl ?_
  rw [sc_6 (y + 18) (by omega), hA3]
  show am_E _ (33, [vR y, vI 4, vI 3, vI 2, vI 1, vI 0, vI 4], [vI 4], aq_h m s F c_6) _
  refine am_E.go (t2 := (34, [vR y, vI 4, vI 3, vI 2, vI 1, vI 0, vI 4], [vI 4, vI 4], aq_h m s F c_6)) rfl rfl ?_
  refine am_E.go (t2 := (37, [vR y, vI 4, vI 3, vI 2, vI 1, vI 0, vI 4], [], aq_h m s F c_6)) rfl rfl ?_
  refine am_E.go (t2 := (38, [vR y, vI 4, vI 3, vI 2, vI 1, vI 0, vI 4], [vI 3], aq_h m s F c_6)) rfl rfl ?_
  refine am_E.go (t2 := (39, [vR y, vI 4, vI 3, vI 3, vI 1, vI 0, vI 4], [], aq_h m s F c_6)) rfl rfl ?_
  refine am_E.go (t2 := (40, [vR y, vI 4, vI 3, vI 3, vI 1, vI 0, vI 4], [vI 1], aq_h m s F c_6)) rfl rfl ?_
  refine am_E.go (t2 := (42, [vR y, vI 4, vI 3, vI 3, vI 1, vI 0, vI 4], [], aq_h m s F c_6)) rfl rfl ?_
  refine am_E.go (t2 := (43, [vR y, vI 4, vI 3, vI 3, vI 1, vI 0, vI 4], [vI 1], aq_h m s F c_6)) rfl rfl ?_
  refine am_E.go (t2 := (45, [vR y, vI 4, vI 3, vI 3, vI 1, vI 1, vI 4], [], aq_h m s F c_6)) rfl rfl ?_
  refine am_E.go (t2 := (47, [vR y, vI 4, vI 3, vI 3, vI 1, vI 1, vI 4], [vI 1], aq_h m s F c_6)) rfl rfl ?_
  refine am_E.go (t2 := (50, [vR y, vI 4, vI 3, vI 3, vI 1, vI 1, vI 4], [], aq_h m s F c_6)) rfl rfl ?_
  refine am_E.go (t2 := (51, [vR y, vI 4, vI 3, vI 3, vI 1, vI 1, vI 4], [vR y], aq_h m s F c_6)) rfl rfl ?_
  refine aq_gf (v := vR (y + 13)) rfl (by omega) hFo (by decide) rfl ?_
  show am_E _ (54, [vR y, vI 4, vI 3, vI 3, vI 1, vI 1, vI 4], [vR (y + 13)], aq_h m s F c_6) _
  refine am_E.go (t2 := (55, [vR y, vI 4, vI 3, vI 3, vI 1, vI 1, vI 4], [vI 3, vR (y + 13)], aq_h m s F c_6)) rfl rfl ?_
  refine am_E.go (t2 := (56, [vR y, vI 4, vI 3, vI 3, vI 1, vI 1, vI 4], [vI 1, vI 3, vR (y + 13)], aq_h m s F c_6)) rfl rfl ?_
  refine aq_as (kd := 1) rfl rfl (by omega) hG13 (by omega) (by omega) rfl rfl ?_
  show am_E _ (57, [vR y, vI 4, vI 3, vI 3, vI 1, vI 1, vI 4], [], aq_h m s F (aq_u c_6 (y + 13) 3 1)) _
  generalize hdc_7 : aq_u c_6 (y + 13) 3 1 = c_7
  have sc_7 := aq_smu sc_6 hdc_7 rfl
  have mtc_7 := mt_3 mtc_6 hdc_7
  refine am_E.go (t2 := (59, [vR y, vI 4, vI 3, vI 3, vI 1, vI 1, vI 4], [vI 1], aq_h m s F c_7)) rfl rfl ?_
  refine am_E.go (t2 := (62, [vR y, vI 4, vI 3, vI 3, vI 1, vI 1, vI 4], [], aq_h m s F c_7)) rfl rfl ?_
  refine am_E.go (t2 := (63, [vR y, vI 4, vI 3, vI 3, vI 1, vI 1, vI 4], [vR y], aq_h m s F c_7)) rfl rfl ?_
  refine aq_gf (v := vR (y + 19)) rfl (by omega) hFo (by decide) rfl ?_
  show am_E _ (66, [vR y, vI 4, vI 3, vI 3, vI 1, vI 1, vI 4], [vR (y + 19)], aq_h m s F c_7) _
  refine am_E.go (t2 := (67, [vR y, vI 4, vI 3, vI 3, vI 1, vI 1, vI 4], [vI 3, vR (y + 19)], aq_h m s F c_7)) rfl rfl ?_
  refine aq_al (ok := fun k => k == 0) (v := vI (c_7 (y + 19) 3)) rfl rfl (by omega) hG19 rfl (by decide) (by decide) rfl ?_
  rw [sc_7 (y + 19) (by omega), hB3]
  show am_E _ (68, [vR y, vI 4, vI 3, vI 3, vI 1, vI 1, vI 4], [vI 4], aq_h m s F c_7) _
  refine am_E.go (t2 := (77, [vR y, vI 4, vI 3, vI 3, vI 1, vI 1, vI 4], [vI 4], aq_h m s F c_7)) rfl rfl ?_
  refine am_E.go (t2 := (79, [vR y, vI 4, vI 3, vI 3, vI 1, vI 1, vI 4], [], aq_h m s F c_7)) rfl rfl ?_
  refine am_E.go (t2 := (81, [vR y, vI 4, vI 3, vI 3, vI 1, vI 1, vI 4], [vI 4], aq_h m s F c_7)) rfl rfl ?_
  refine am_E.go (t2 := (82, [vR y, vI 4, vI 3, vI 3, vI 1, vI 1, vI 4], [vI 4, vI 4], aq_h m s F c_7)) rfl rfl ?_
  refine am_E.go (t2 := (89, [vR y, vI 4, vI 3, vI 3, vI 1, vI 1, vI 4], [], aq_h m s F c_7)) rfl rfl ?_
  refine am_E.go (t2 := (90, [vR y, vI 4, vI 3, vI 3, vI 1, vI 1, vI 4], [vI 0], aq_h m s F c_7)) rfl rfl ?_
  refine am_E.go (t2 := (92, [vR y, vI 4, vI 3, vI 3, vI 1, vI 0, vI 4], [], aq_h m s F c_7)) rfl rfl ?_
  refine am_E.go (t2 := (94, [vR y, vI 4, vI 3, vI 3, vI 1, vI 0, vI 4], [vI 0], aq_h m s F c_7)) rfl rfl ?_
  refine am_E.go (t2 := (112, [vR y, vI 4, vI 3, vI 3, vI 1, vI 0, vI 4], [], aq_h m s F c_7)) rfl rfl ?_
  refine am_E.go (t2 := (45, [vR y, vI 4, vI 3, vI 3, vI 1, vI 0, vI 4], [], aq_h m s F c_7)) rfl rfl ?_
  refine am_E.go (t2 := (47, [vR y, vI 4, vI 3, vI 3, vI 1, vI 0, vI 4], [vI 0], aq_h m s F c_7)) rfl rfl ?_
  refine am_E.go (t2 := (115, [vR y, vI 4, vI 3, vI 3, vI 1, vI 0, vI 4], [], aq_h m s F c_7)) rfl rfl ?_
  refine am_E.go (t2 := (116, [vR y, vI 4, vI 3, vI 3, vI 1, vI 0, vI 4], [vR y], aq_h m s F c_7)) rfl rfl ?_
  refine aq_gf (v := vR (y + 13)) rfl (by omega) hFo (by decide) rfl ?_
  show am_E _ (119, [vR y, vI 4, vI 3, vI 3, vI 1, vI 0, vI 4], [vR (y + 13)], aq_h m s F c_7) _
  refine am_E.go (t2 := (120, [vR y, vI 4, vI 3, vI 3, vI 1, vI 0, vI 4], [vI 3, vR (y + 13)], aq_h m s F c_7)) rfl rfl ?_
  refine am_E.go (t2 := (121, [vR y, vI 4, vI 3, vI 3, vI 1, vI 0, vI 4], [vI 1, vI 3, vR (y + 13)], aq_h m s F c_7)) rfl rfl ?_
  refine aq_as (kd := 1) rfl rfl (by omega) hG13 (by omega) (by omega) rfl rfl ?_
  show am_E _ (122, [vR y, vI 4, vI 3, vI 3, vI 1, vI 0, vI 4], [], aq_h m s F (aq_u c_7 (y + 13) 3 1)) _
  generalize hdc_8 : aq_u c_7 (y + 13) 3 1 = c_8
  have sc_8 := aq_smu sc_7 hdc_8 rfl
  have mtc_8 := mt_3 mtc_7 hdc_8
  refine am_E.go (t2 := (124, [vR y, vI 4, vI 3, vI 3, vI 1, vI 0, vI 4], [vI 1], aq_h m s F c_8)) rfl rfl ?_
  refine am_E.go (t2 := (130, [vR y, vI 4, vI 3, vI 3, vI 1, vI 0, vI 4], [], aq_h m s F c_8)) rfl rfl ?_
  refine am_E.go (t2 := (133, [vR y, vI 4, vI 4, vI 3, vI 1, vI 0, vI 4], [], aq_h m s F c_8)) rfl rfl ?_
  refine am_E.go (t2 := (22, [vR y, vI 4, vI 4, vI 3, vI 1, vI 0, vI 4], [], aq_h m s F c_8)) rfl rfl ?_
  refine am_E.go (t2 := (23, [vR y, vI 4, vI 4, vI 3, vI 1, vI 0, vI 4], [vI 4], aq_h m s F c_8)) rfl rfl ?_
  refine am_E.go (t2 := (24, [vR y, vI 4, vI 4, vI 3, vI 1, vI 0, vI 4], [vI 4, vI 4], aq_h m s F c_8)) rfl rfl ?_
  refine am_E.go (t2 := (136, [vR y, vI 4, vI 4, vI 3, vI 1, vI 0, vI 4], [], aq_h m s F c_8)) rfl rfl ?_
  refine am_E.go (t2 := (137, [vR y, vI 4, vI 4, vI 3, vI 1, vI 0, vI 4], [vI 0], aq_h m s F c_8)) rfl rfl ?_
  refine am_E.go (t2 := (138, [vR y, vI 4, vI 0, vI 3, vI 1, vI 0, vI 4], [], aq_h m s F c_8)) rfl rfl ?_
  refine am_E.go (t2 := (139, [vR y, vI 4, vI 0, vI 3, vI 1, vI 0, vI 4], [vI 0], aq_h m s F c_8)) rfl rfl ?_
  refine am_E.go (t2 := (140, [vR y, vI 4, vI 0, vI 3, vI 1, vI 0, vI 4], [vI 4, vI 0], aq_h m s F c_8)) rfl rfl ?_
  refine am_E.go (t2 := (143, [vR y, vI 4, vI 0, vI 3, vI 1, vI 0, vI 4], [], aq_h m s F c_8)) rfl rfl ?_
  refine am_E.go (t2 := (144, [vR y, vI 4, vI 0, vI 3, vI 1, vI 0, vI 4], [vR y], aq_h m s F c_8)) rfl rfl ?_
  refine aq_gf (v := vR (y + 13)) rfl (by omega) hFo (by decide) rfl ?_
  show am_E _ (147, [vR y, vI 4, vI 0, vI 3, vI 1, vI 0, vI 4], [vR (y + 13)], aq_h m s F c_8) _
  refine am_E.go (t2 := (148, [vR y, vI 4, vI 0, vI 3, vI 1, vI 0, vI 4], [vI 0, vR (y + 13)], aq_h m s F c_8)) rfl rfl ?_
  refine aq_al (ok := fun k => k == 1) (v := vI (c_8 (y + 13) 0)) rfl rfl (by omega) hG13 rfl (by decide) (by decide) rfl ?_
  rw [mtc_8.1]
  show am_E _ (149, [vR y, vI 4, vI 0, vI 3, vI 1, vI 0, vI 4], [vI 0], aq_h m s F c_8) _
  refine am_E.go (t2 := (152, [vR y, vI 4, vI 0, vI 3, vI 1, vI 0, vI 4], [], aq_h m s F c_8)) rfl rfl ?_
  refine am_E.go (t2 := (153, [vR y, vI 4, vI 0, vI 3, vI 1, vI 0, vI 4], [vR y], aq_h m s F c_8)) rfl rfl ?_
  refine aq_gf (v := vR (y + 19)) rfl (by omega) hFo (by decide) rfl ?_
  show am_E _ (156, [vR y, vI 4, vI 0, vI 3, vI 1, vI 0, vI 4], [vR (y + 19)], aq_h m s F c_8) _
  refine am_E.go (t2 := (157, [vR y, vI 4, vI 0, vI 3, vI 1, vI 0, vI 4], [vI 0, vR (y + 19)], aq_h m s F c_8)) rfl rfl ?_
  refine aq_al (ok := fun k => k == 0) (v := vI (c_8 (y + 19) 0)) rfl rfl (by omega) hG19 rfl (by decide) (by decide) rfl ?_
  rw [sc_8 (y + 19) (by omega), hB0]
  show am_E _ (158, [vR y, vI 4, vI 0, vI 3, vI 1, vI 0, vI 4], [vI 1], aq_h m s F c_8) _
  refine am_E.go (t2 := (159, [vR y, vI 4, vI 0, vI 3, vI 1, vI 0, vI 4], [vI 4, vI 1], aq_h m s F c_8)) rfl rfl ?_
  refine am_E.go (t2 := (165, [vR y, vI 4, vI 0, vI 3, vI 1, vI 0, vI 4], [], aq_h m s F c_8)) rfl rfl ?_
  refine am_E.go (t2 := (168, [vR y, vI 4, vI 1, vI 3, vI 1, vI 0, vI 4], [], aq_h m s F c_8)) rfl rfl ?_
  refine am_E.go (t2 := (138, [vR y, vI 4, vI 1, vI 3, vI 1, vI 0, vI 4], [], aq_h m s F c_8)) rfl rfl ?_
  refine am_E.go (t2 := (139, [vR y, vI 4, vI 1, vI 3, vI 1, vI 0, vI 4], [vI 1], aq_h m s F c_8)) rfl rfl ?_
  refine am_E.go (t2 := (140, [vR y, vI 4, vI 1, vI 3, vI 1, vI 0, vI 4], [vI 4, vI 1], aq_h m s F c_8)) rfl rfl ?_
  refine am_E.go (t2 := (143, [vR y, vI 4, vI 1, vI 3, vI 1, vI 0, vI 4], [], aq_h m s F c_8)) rfl rfl ?_
  refine am_E.go (t2 := (144, [vR y, vI 4, vI 1, vI 3, vI 1, vI 0, vI 4], [vR y], aq_h m s F c_8)) rfl rfl ?_
  refine aq_gf (v := vR (y + 13)) rfl (by omega) hFo (by decide) rfl ?_
  show am_E _ (147, [vR y, vI 4, vI 1, vI 3, vI 1, vI 0, vI 4], [vR (y + 13)], aq_h m s F c_8) _
  refine am_E.go (t2 := (148, [vR y, vI 4, vI 1, vI 3, vI 1, vI 0, vI 4], [vI 1, vR (y + 13)], aq_h m s F c_8)) rfl rfl ?_
  refine aq_al (ok := fun k => k == 1) (v := vI (c_8 (y + 13) 1)) rfl rfl (by omega) hG13 rfl (by decide) (by decide) rfl ?_
  rw [mtc_8.2.1]
  show am_E _ (149, [vR y, vI 4, vI 1, vI 3, vI 1, vI 0, vI 4], [vI 0], aq_h m s F c_8) _
  refine am_E.go (t2 := (152, [vR y, vI 4, vI 1, vI 3, vI 1, vI 0, vI 4], [], aq_h m s F c_8)) rfl rfl ?_
  refine am_E.go (t2 := (153, [vR y, vI 4, vI 1, vI 3, vI 1, vI 0, vI 4], [vR y], aq_h m s F c_8)) rfl rfl ?_
  refine aq_gf (v := vR (y + 19)) rfl (by omega) hFo (by decide) rfl ?_
  show am_E _ (156, [vR y, vI 4, vI 1, vI 3, vI 1, vI 0, vI 4], [vR (y + 19)], aq_h m s F c_8) _
  refine am_E.go (t2 := (157, [vR y, vI 4, vI 1, vI 3, vI 1, vI 0, vI 4], [vI 1, vR (y + 19)], aq_h m s F c_8)) rfl rfl ?_
  refine aq_al (ok := fun k => k == 0) (v := vI (c_8 (y + 19) 1)) rfl rfl (by omega) hG19 rfl (by decide) (by decide) rfl ?_
  rw [sc_8 (y + 19) (by omega), hB1]
  show am_E _ (158, [vR y, vI 4, vI 1, vI 3, vI 1, vI 0, vI 4], [vI 0], aq_h m s F c_8) _
  refine am_E.go (t2 := (159, [vR y, vI 4, vI 1, vI 3, vI 1, vI 0, vI 4], [vI 4, vI 0], aq_h m s F c_8)) rfl rfl ?_
  refine am_E.go (t2 := (165, [vR y, vI 4, vI 1, vI 3, vI 1, vI 0, vI 4], [], aq_h m s F c_8)) rfl rfl ?_
  refine am_E.go (t2 := (168, [vR y, vI 4, vI 2, vI 3, vI 1, vI 0, vI 4], [], aq_h m s F c_8)) rfl rfl ?_
  refine am_E.go (t2 := (138, [vR y, vI 4, vI 2, vI 3, vI 1, vI 0, vI 4], [], aq_h m s F c_8)) rfl rfl ?_
  refine am_E.go (t2 := (139, [vR y, vI 4, vI 2, vI 3, vI 1, vI 0, vI 4], [vI 2], aq_h m s F c_8)) rfl rfl ?_
  refine am_E.go (t2 := (140, [vR y, vI 4, vI 2, vI 3, vI 1, vI 0, vI 4], [vI 4, vI 2], aq_h m s F c_8)) rfl rfl ?_
  refine am_E.go (t2 := (143, [vR y, vI 4, vI 2, vI 3, vI 1, vI 0, vI 4], [], aq_h m s F c_8)) rfl rfl ?_
  refine am_E.go (t2 := (144, [vR y, vI 4, vI 2, vI 3, vI 1, vI 0, vI 4], [vR y], aq_h m s F c_8)) rfl rfl ?_
  refine aq_gf (v := vR (y + 13)) rfl (by omega) hFo (by decide) rfl ?_
  show am_E _ (147, [vR y, vI 4, vI 2, vI 3, vI 1, vI 0, vI 4], [vR (y + 13)], aq_h m s F c_8) _
  refine am_E.go (t2 := (148, [vR y, vI 4, vI 2, vI 3, vI 1, vI 0, vI 4], [vI 2, vR (y + 13)], aq_h m s F c_8)) rfl rfl ?_
  refine aq_al (ok := fun k => k == 1) (v := vI (c_8 (y + 13) 2)) rfl rfl (by omega) hG13 rfl (by decide) (by decide) rfl ?_
  rw [mtc_8.2.2.1]
  show am_E _ (149, [vR y, vI 4, vI 2, vI 3, vI 1, vI 0, vI 4], [vI 1], aq_h m s F c_8) _
  refine am_E.go (t2 := (165, [vR y, vI 4, vI 2, vI 3, vI 1, vI 0, vI 4], [], aq_h m s F c_8)) rfl rfl ?_
  refine am_E.go (t2 := (168, [vR y, vI 4, vI 3, vI 3, vI 1, vI 0, vI 4], [], aq_h m s F c_8)) rfl rfl ?_
  refine am_E.go (t2 := (138, [vR y, vI 4, vI 3, vI 3, vI 1, vI 0, vI 4], [], aq_h m s F c_8)) rfl rfl ?_
  refine am_E.go (t2 := (139, [vR y, vI 4, vI 3, vI 3, vI 1, vI 0, vI 4], [vI 3], aq_h m s F c_8)) rfl rfl ?_
  refine am_E.go (t2 := (140, [vR y, vI 4, vI 3, vI 3, vI 1, vI 0, vI 4], [vI 4, vI 3], aq_h m s F c_8)) rfl rfl ?_
  refine am_E.go (t2 := (143, [vR y, vI 4, vI 3, vI 3, vI 1, vI 0, vI 4], [], aq_h m s F c_8)) rfl rfl ?_
  refine am_E.go (t2 := (144, [vR y, vI 4, vI 3, vI 3, vI 1, vI 0, vI 4], [vR y], aq_h m s F c_8)) rfl rfl ?_
  refine aq_gf (v := vR (y + 13)) rfl (by omega) hFo (by decide) rfl ?_
  show am_E _ (147, [vR y, vI 4, vI 3, vI 3, vI 1, vI 0, vI 4], [vR (y + 13)], aq_h m s F c_8) _
  refine am_E.go (t2 := (148, [vR y, vI 4, vI 3, vI 3, vI 1, vI 0, vI 4], [vI 3, vR (y + 13)], aq_h m s F c_8)) rfl rfl ?_
  refine aq_al (ok := fun k => k == 1) (v := vI (c_8 (y + 13) 3)) rfl rfl (by omega) hG13 rfl (by decide) (by decide) rfl ?_
  rw [mtc_8.2.2.2]
  show am_E _ (149, [vR y, vI 4, vI 3, vI 3, vI 1, vI 0, vI 4], [vI 1], aq_h m s F c_8) _
  refine am_E.go (t2 := (165, [vR y, vI 4, vI 3, vI 3, vI 1, vI 0, vI 4], [], aq_h m s F c_8)) rfl rfl ?_
  refine am_E.go (t2 := (168, [vR y, vI 4, vI 4, vI 3, vI 1, vI 0, vI 4], [], aq_h m s F c_8)) rfl rfl ?_
  refine am_E.go (t2 := (138, [vR y, vI 4, vI 4, vI 3, vI 1, vI 0, vI 4], [], aq_h m s F c_8)) rfl rfl ?_
  refine am_E.go (t2 := (139, [vR y, vI 4, vI 4, vI 3, vI 1, vI 0, vI 4], [vI 4], aq_h m s F c_8)) rfl rfl ?_
  refine am_E.go (t2 := (140, [vR y, vI 4, vI 4, vI 3, vI 1, vI 0, vI 4], [vI 4, vI 4], aq_h m s F c_8)) rfl rfl ?_
  refine am_E.go (t2 := (171, [vR y, vI 4, vI 4, vI 3, vI 1, vI 0, vI 4], [], aq_h m s F c_8)) rfl rfl ?_
  refine am_E.go (t2 := (172, [vR y, vI 4, vI 4, vI 3, vI 1, vI 0, vI 4], [vI 0], aq_h m s F c_8)) rfl rfl ?_
  refine am_E.go (t2 := (173, [vR y, vI 4, vI 0, vI 3, vI 1, vI 0, vI 4], [], aq_h m s F c_8)) rfl rfl ?_
  refine am_E.go (t2 := (174, [vR y, vI 4, vI 0, vI 3, vI 1, vI 0, vI 4], [vI 0], aq_h m s F c_8)) rfl rfl ?_
  refine am_E.go (t2 := (175, [vR y, vI 4, vI 0, vI 0, vI 1, vI 0, vI 4], [], aq_h m s F c_8)) rfl rfl ?_
  refine am_E.go (t2 := (176, [vR y, vI 4, vI 0, vI 0, vI 1, vI 0, vI 4], [vI 0], aq_h m s F c_8)) rfl rfl ?_
  refine am_E.go (t2 := (177, [vR y, vI 4, vI 0, vI 0, vI 1, vI 0, vI 4], [vI 4, vI 0], aq_h m s F c_8)) rfl rfl ?_
  refine am_E.go (t2 := (180, [vR y, vI 4, vI 0, vI 0, vI 1, vI 0, vI 4], [], aq_h m s F c_8)) rfl rfl ?_
  refine am_E.go (t2 := (181, [vR y, vI 4, vI 0, vI 0, vI 1, vI 0, vI 4], [vR y], aq_h m s F c_8)) rfl rfl ?_
  refine aq_gf (v := vR (y + 13)) rfl (by omega) hFo (by decide) rfl ?_
  show am_E _ (184, [vR y, vI 4, vI 0, vI 0, vI 1, vI 0, vI 4], [vR (y + 13)], aq_h m s F c_8) _
  refine am_E.go (t2 := (185, [vR y, vI 4, vI 0, vI 0, vI 1, vI 0, vI 4], [vI 0, vR (y + 13)], aq_h m s F c_8)) rfl rfl ?_
  refine aq_al (ok := fun k => k == 1) (v := vI (c_8 (y + 13) 0)) rfl rfl (by omega) hG13 rfl (by decide) (by decide) rfl ?_
  rw [mtc_8.1]
  show am_E _ (186, [vR y, vI 4, vI 0, vI 0, vI 1, vI 0, vI 4], [vI 0], aq_h m s F c_8) _
  refine am_E.go (t2 := (189, [vR y, vI 4, vI 0, vI 0, vI 1, vI 0, vI 4], [], aq_h m s F c_8)) rfl rfl ?_
  refine am_E.go (t2 := (192, [vR y, vI 4, vI 1, vI 0, vI 1, vI 0, vI 4], [], aq_h m s F c_8)) rfl rfl ?_
  refine am_E.go (t2 := (193, [vR y, vI 4, vI 1, vI 0, vI 1, vI 0, vI 4], [vI 0], aq_h m s F c_8)) rfl rfl ?_
  refine am_E.go (t2 := (195, [vR y, vI 4, vI 1, vI 0, vI 0, vI 0, vI 4], [], aq_h m s F c_8)) rfl rfl ?_
  refine am_E.go (t2 := (196, [vR y, vI 4, vI 1, vI 0, vI 0, vI 0, vI 4], [vI 1], aq_h m s F c_8)) rfl rfl ?_
  refine am_E.go (t2 := (198, [vR y, vI 4, vI 1, vI 0, vI 0, vI 1, vI 4], [], aq_h m s F c_8)) rfl rfl ?_
  refine am_E.go (t2 := (200, [vR y, vI 4, vI 1, vI 0, vI 0, vI 1, vI 4], [vI 1], aq_h m s F c_8)) rfl rfl ?_
  refine am_E.go (t2 := (203, [vR y, vI 4, vI 1, vI 0, vI 0, vI 1, vI 4], [], aq_h m s F c_8)) rfl rfl ?_
  refine am_E.go (t2 := (204, [vR y, vI 4, vI 1, vI 0, vI 0, vI 1, vI 4], [vR y], aq_h m s F c_8)) rfl rfl ?_
  refine aq_gf (v := vR (y + 13)) rfl (by omega) hFo (by decide) rfl ?_
  show am_E _ (207, [vR y, vI 4, vI 1, vI 0, vI 0, vI 1, vI 4], [vR (y + 13)], aq_h m s F c_8) _
  refine am_E.go (t2 := (209, [vR y, vI 4, vI 1, vI 0, vI 0, vI 1, vI 4], [vI 0, vR (y + 13)], aq_h m s F c_8)) rfl rfl ?_
  refine am_E.go (t2 := (210, [vR y, vI 4, vI 1, vI 0, vI 0, vI 1, vI 4], [vI 1, vI 0, vR (y + 13)], aq_h m s F c_8)) rfl rfl ?_
  refine aq_as (kd := 1) rfl rfl (by omega) hG13 (by omega) (by omega) rfl rfl ?_
  show am_E _ (211, [vR y, vI 4, vI 1, vI 0, vI 0, vI 1, vI 4], [], aq_h m s F (aq_u c_8 (y + 13) 0 1)) _
  generalize hdc_9 : aq_u c_8 (y + 13) 0 1 = c_9
  have sc_9 := aq_smu sc_8 hdc_9 rfl
  have mtc_9 := mt_0 mtc_8 hdc_9
  refine am_E.go (t2 := (212, [vR y, vI 4, vI 1, vI 0, vI 0, vI 1, vI 4], [vR y], aq_h m s F c_9)) rfl rfl ?_
  refine aq_gf (v := vR (y + 18)) rfl (by omega) hFo (by decide) rfl ?_
  show am_E _ (215, [vR y, vI 4, vI 1, vI 0, vI 0, vI 1, vI 4], [vR (y + 18)], aq_h m s F c_9) _
  refine am_E.go (t2 := (217, [vR y, vI 4, vI 1, vI 0, vI 0, vI 1, vI 4], [vI 0, vR (y + 18)], aq_h m s F c_9)) rfl rfl ?_
  refine aq_al (ok := fun k => k == 0) (v := vI (c_9 (y + 18) 0)) rfl rfl (by omega) hG18 rfl (by decide) (by decide) rfl ?_
  rw [sc_9 (y + 18) (by omega), hA0]
  show am_E _ (218, [vR y, vI 4, vI 1, vI 0, vI 0, vI 1, vI 4], [vI 1], aq_h m s F c_9) _
  refine am_E.go (t2 := (220, [vR y, vI 4, vI 1, vI 0, vI 1, vI 1, vI 4], [], aq_h m s F c_9)) rfl rfl ?_
  refine am_E.go (t2 := (221, [vR y, vI 4, vI 1, vI 0, vI 1, vI 1, vI 4], [vR y], aq_h m s F c_9)) rfl rfl ?_
  refine aq_gf (v := vR (y + 13)) rfl (by omega) hFo (by decide) rfl ?_
  show am_E _ (224, [vR y, vI 4, vI 1, vI 0, vI 1, vI 1, vI 4], [vR (y + 13)], aq_h m s F c_9) _
  refine am_E.go (t2 := (226, [vR y, vI 4, vI 1, vI 0, vI 1, vI 1, vI 4], [vI 1, vR (y + 13)], aq_h m s F c_9)) rfl rfl ?_
  refine am_E.go (t2 := (227, [vR y, vI 4, vI 1, vI 0, vI 1, vI 1, vI 4], [vI 1, vI 1, vR (y + 13)], aq_h m s F c_9)) rfl rfl ?_
  refine aq_as (kd := 1) rfl rfl (by omega) hG13 (by omega) (by omega) rfl rfl ?_
  show am_E _ (228, [vR y, vI 4, vI 1, vI 0, vI 1, vI 1, vI 4], [], aq_h m s F (aq_u c_9 (y + 13) 1 1)) _
  generalize hdc_10 : aq_u c_9 (y + 13) 1 1 = c_10
  have sc_10 := aq_smu sc_9 hdc_10 rfl
  have mtc_10 := mt_1 mtc_9 hdc_10
  refine am_E.go (t2 := (229, [vR y, vI 4, vI 1, vI 0, vI 1, vI 1, vI 4], [vR y], aq_h m s F c_10)) rfl rfl ?_
  refine aq_gf (v := vR (y + 19)) rfl (by omega) hFo (by decide) rfl ?_
  show am_E _ (232, [vR y, vI 4, vI 1, vI 0, vI 1, vI 1, vI 4], [vR (y + 19)], aq_h m s F c_10) _
  refine am_E.go (t2 := (234, [vR y, vI 4, vI 1, vI 0, vI 1, vI 1, vI 4], [vI 1, vR (y + 19)], aq_h m s F c_10)) rfl rfl ?_
  refine aq_al (ok := fun k => k == 0) (v := vI (c_10 (y + 19) 1)) rfl rfl (by omega) hG19 rfl (by decide) (by decide) rfl ?_
  rw [sc_10 (y + 19) (by omega), hB1]
  show am_E _ (235, [vR y, vI 4, vI 1, vI 0, vI 1, vI 1, vI 4], [vI 0], aq_h m s F c_10) _
  refine am_E.go (t2 := (237, [vR y, vI 4, vI 1, vI 0, vI 0, vI 1, vI 4], [], aq_h m s F c_10)) rfl rfl ?_
  refine am_E.go (t2 := (239, [vR y, vI 4, vI 1, vI 0, vI 0, vI 1, vI 4], [vI 0], aq_h m s F c_10)) rfl rfl ?_
  refine am_E.go (t2 := (240, [vR y, vI 4, vI 1, vI 0, vI 0, vI 1, vI 4], [vI 0, vI 0], aq_h m s F c_10)) rfl rfl ?_
  refine am_E.go (t2 := (247, [vR y, vI 4, vI 1, vI 0, vI 0, vI 1, vI 4], [], aq_h m s F c_10)) rfl rfl ?_
  refine am_E.go (t2 := (248, [vR y, vI 4, vI 1, vI 0, vI 0, vI 1, vI 4], [vI 0], aq_h m s F c_10)) rfl rfl ?_
  refine am_E.go (t2 := (250, [vR y, vI 4, vI 1, vI 0, vI 0, vI 0, vI 4], [], aq_h m s F c_10)) rfl rfl ?_
  refine am_E.go (t2 := (198, [vR y, vI 4, vI 1, vI 0, vI 0, vI 0, vI 4], [], aq_h m s F c_10)) rfl rfl ?_
  refine am_E.go (t2 := (200, [vR y, vI 4, vI 1, vI 0, vI 0, vI 0, vI 4], [vI 0], aq_h m s F c_10)) rfl rfl ?_
  refine am_E.go (t2 := (253, [vR y, vI 4, vI 1, vI 0, vI 0, vI 0, vI 4], [], aq_h m s F c_10)) rfl rfl ?_
  refine am_E.go (t2 := (256, [vR y, vI 4, vI 1, vI 1, vI 0, vI 0, vI 4], [], aq_h m s F c_10)) rfl rfl ?_
  refine am_E.go (t2 := (175, [vR y, vI 4, vI 1, vI 1, vI 0, vI 0, vI 4], [], aq_h m s F c_10)) rfl rfl ?_
  refine am_E.go (t2 := (176, [vR y, vI 4, vI 1, vI 1, vI 0, vI 0, vI 4], [vI 1], aq_h m s F c_10)) rfl rfl ?_
  refine am_E.go (t2 := (177, [vR y, vI 4, vI 1, vI 1, vI 0, vI 0, vI 4], [vI 4, vI 1], aq_h m s F c_10)) rfl rfl ?_
  refine am_E.go (t2 := (180, [vR y, vI 4, vI 1, vI 1, vI 0, vI 0, vI 4], [], aq_h m s F c_10)) rfl rfl ?_
  refine am_E.go (t2 := (181, [vR y, vI 4, vI 1, vI 1, vI 0, vI 0, vI 4], [vR y], aq_h m s F c_10)) rfl rfl ?_
  refine aq_gf (v := vR (y + 13)) rfl (by omega) hFo (by decide) rfl ?_
  show am_E _ (184, [vR y, vI 4, vI 1, vI 1, vI 0, vI 0, vI 4], [vR (y + 13)], aq_h m s F c_10) _
  refine am_E.go (t2 := (185, [vR y, vI 4, vI 1, vI 1, vI 0, vI 0, vI 4], [vI 1, vR (y + 13)], aq_h m s F c_10)) rfl rfl ?_
  refine aq_al (ok := fun k => k == 1) (v := vI (c_10 (y + 13) 1)) rfl rfl (by omega) hG13 rfl (by decide) (by decide) rfl ?_
  rw [mtc_10.2.1]
  show am_E _ (186, [vR y, vI 4, vI 1, vI 1, vI 0, vI 0, vI 4], [vI 1], aq_h m s F c_10) _
  refine am_E.go (t2 := (253, [vR y, vI 4, vI 1, vI 1, vI 0, vI 0, vI 4], [], aq_h m s F c_10)) rfl rfl ?_
  refine am_E.go (t2 := (256, [vR y, vI 4, vI 1, vI 2, vI 0, vI 0, vI 4], [], aq_h m s F c_10)) rfl rfl ?_
  refine am_E.go (t2 := (175, [vR y, vI 4, vI 1, vI 2, vI 0, vI 0, vI 4], [], aq_h m s F c_10)) rfl rfl ?_
  refine am_E.go (t2 := (176, [vR y, vI 4, vI 1, vI 2, vI 0, vI 0, vI 4], [vI 2], aq_h m s F c_10)) rfl rfl ?_
  refine am_E.go (t2 := (177, [vR y, vI 4, vI 1, vI 2, vI 0, vI 0, vI 4], [vI 4, vI 2], aq_h m s F c_10)) rfl rfl ?_
  refine am_E.go (t2 := (180, [vR y, vI 4, vI 1, vI 2, vI 0, vI 0, vI 4], [], aq_h m s F c_10)) rfl rfl ?_
  refine am_E.go (t2 := (181, [vR y, vI 4, vI 1, vI 2, vI 0, vI 0, vI 4], [vR y], aq_h m s F c_10)) rfl rfl ?_
  refine aq_gf (v := vR (y + 13)) rfl (by omega) hFo (by decide) rfl ?_
  show am_E _ (184, [vR y, vI 4, vI 1, vI 2, vI 0, vI 0, vI 4], [vR (y + 13)], aq_h m s F c_10) _
  refine am_E.go (t2 := (185, [vR y, vI 4, vI 1, vI 2, vI 0, vI 0, vI 4], [vI 2, vR (y + 13)], aq_h m s F c_10)) rfl rfl ?_
  refine aq_al (ok := fun k => k == 1) (v := vI (c_10 (y + 13) 2)) rfl rfl (by omega) hG13 rfl (by decide) (by decide) rfl ?_
  rw [mtc_10.2.2.1]
  show am_E _ (186, [vR y, vI 4, vI 1, vI 2, vI 0, vI 0, vI 4], [vI 1], aq_h m s F c_10) _
  refine am_E.go (t2 := (253, [vR y, vI 4, vI 1, vI 2, vI 0, vI 0, vI 4], [], aq_h m s F c_10)) rfl rfl ?_
  refine am_E.go (t2 := (256, [vR y, vI 4, vI 1, vI 3, vI 0, vI 0, vI 4], [], aq_h m s F c_10)) rfl rfl ?_
  refine am_E.go (t2 := (175, [vR y, vI 4, vI 1, vI 3, vI 0, vI 0, vI 4], [], aq_h m s F c_10)) rfl rfl ?_
  refine am_E.go (t2 := (176, [vR y, vI 4, vI 1, vI 3, vI 0, vI 0, vI 4], [vI 3], aq_h m s F c_10)) rfl rfl ?_
  refine am_E.go (t2 := (177, [vR y, vI 4, vI 1, vI 3, vI 0, vI 0, vI 4], [vI 4, vI 3], aq_h m s F c_10)) rfl rfl ?_
  refine am_E.go (t2 := (180, [vR y, vI 4, vI 1, vI 3, vI 0, vI 0, vI 4], [], aq_h m s F c_10)) rfl rfl ?_
  refine am_E.go (t2 := (181, [vR y, vI 4, vI 1, vI 3, vI 0, vI 0, vI 4], [vR y], aq_h m s F c_10)) rfl rfl ?_
  refine aq_gf (v := vR (y + 13)) rfl (by omega) hFo (by decide) rfl ?_
  show am_E _ (184, [vR y, vI 4, vI 1, vI 3, vI 0, vI 0, vI 4], [vR (y + 13)], aq_h m s F c_10) _
  refine am_E.go (t2 := (185, [vR y, vI 4, vI 1, vI 3, vI 0, vI 0, vI 4], [vI 3, vR (y + 13)], aq_h m s F c_10)) rfl rfl ?_
  refine aq_al (ok := fun k => k == 1) (v := vI (c_10 (y + 13) 3)) rfl rfl (by omega) hG13 rfl (by decide) (by decide) rfl ?_
  rw [mtc_10.2.2.2]
  show am_E _ (186, [vR y, vI 4, vI 1, vI 3, vI 0, vI 0, vI 4], [vI 1], aq_h m s F c_10) _
  refine am_E.go (t2 := (253, [vR y, vI 4, vI 1, vI 3, vI 0, vI 0, vI 4], [], aq_h m s F c_10)) rfl rfl ?_
  refine am_E.go (t2 := (256, [vR y, vI 4, vI 1, vI 4, vI 0, vI 0, vI 4], [], aq_h m s F c_10)) rfl rfl ?_
  refine am_E.go (t2 := (175, [vR y, vI 4, vI 1, vI 4, vI 0, vI 0, vI 4], [], aq_h m s F c_10)) rfl rfl ?_
  refine am_E.go (t2 := (176, [vR y, vI 4, vI 1, vI 4, vI 0, vI 0, vI 4], [vI 4], aq_h m s F c_10)) rfl rfl ?_
  refine am_E.go (t2 := (177, [vR y, vI 4, vI 1, vI 4, vI 0, vI 0, vI 4], [vI 4, vI 4], aq_h m s F c_10)) rfl rfl ?_
  refine am_E.go (t2 := (259, [vR y, vI 4, vI 1, vI 4, vI 0, vI 0, vI 4], [], aq_h m s F c_10)) rfl rfl ?_
  refine am_E.go (t2 := (260, [vR y, vI 4, vI 1, vI 4, vI 0, vI 0, vI 4], [vI 1], aq_h m s F c_10)) rfl rfl ?_
  refine am_E.ret rfl rfl ?_
  exact ⟨_, rfl, sc_10, rfl⟩

theorem qm_fo_4201 {m s : Nat} {F : aq_F} {c : aq_C} {y : Nat} (hO : mo_0 m F y) (hA0 : c (y + 18) 0 = 1) (hA1 : c (y + 18) 1 = 0) (hA2 : c (y + 18) 2 = 4) (hA3 : c (y + 18) 3 = 4) (hB0 : c (y + 19) 0 = 4) (hB1 : c (y + 19) 1 = 2) (hB2 : c (y + 19) 2 = 1) (hB3 : c (y + 19) 3 = 4) : am_E ac_X5_formOf (0, [vR y, vI 4, vU, vU, vU, vU, vU], [], aq_h m s F c) (aq_Z m s F (fun a => a = y + 13) c (fun r _ => r = some (vI 0))) := by
  obtain ⟨hm, hFo, hG5, hG6, hG7, hG8, hG9, hG10, hG11, hG12, hG13, hG14, hG15, hG16, hG17, hG18, hG19, hG20, hG21, hG22, hG23⟩ := hO
  have hmt : mt_ y (c (y + 13) 0) (c (y + 13) 1) (c (y + 13) 2) (c (y + 13) 3) c := ⟨rfl, rfl, rfl, rfl⟩
  refine am_E.go (t2 := (1, [vR y, vI 4, vU, vU, vU, vU, vU], [vI 0], aq_h m s F c)) rfl rfl ?_
  refine am_E.go (t2 := (2, [vR y, vI 4, vI 0, vU, vU, vU, vU], [], aq_h m s F c)) rfl rfl ?_
  refine am_E.go (t2 := (3, [vR y, vI 4, vI 0, vU, vU, vU, vU], [vI 0], aq_h m s F c)) rfl rfl ?_
  refine am_E.go (t2 := (4, [vR y, vI 4, vI 0, vU, vU, vU, vU], [vI 4, vI 0], aq_h m s F c)) rfl rfl ?_
  refine am_E.go (t2 := (7, [vR y, vI 4, vI 0, vU, vU, vU, vU], [], aq_h m s F c)) rfl rfl ?_
  refine am_E.go (t2 := (8, [vR y, vI 4, vI 0, vU, vU, vU, vU], [vR y], aq_h m s F c)) rfl rfl ?_
  refine aq_gf (v := vR (y + 13)) rfl (by omega) hFo (by decide) rfl ?_
  show am_E _ (11, [vR y, vI 4, vI 0, vU, vU, vU, vU], [vR (y + 13)], aq_h m s F c) _
  refine am_E.go (t2 := (12, [vR y, vI 4, vI 0, vU, vU, vU, vU], [vI 0, vR (y + 13)], aq_h m s F c)) rfl rfl ?_
  refine am_E.go (t2 := (13, [vR y, vI 4, vI 0, vU, vU, vU, vU], [vI 0, vI 0, vR (y + 13)], aq_h m s F c)) rfl rfl ?_
  refine aq_as (kd := 1) rfl rfl (by omega) hG13 (by omega) (by omega) rfl rfl ?_
  show am_E _ (14, [vR y, vI 4, vI 0, vU, vU, vU, vU], [], aq_h m s F (aq_u c (y + 13) 0 0)) _
  generalize hdc_1 : aq_u c (y + 13) 0 0 = c_1
  have sc_1 := aq_smu (aq_sm0 (c := c) (S := fun a => a = y + 13)) hdc_1 rfl
  have mtc_1 := mt_0 hmt hdc_1
  refine am_E.go (t2 := (17, [vR y, vI 4, vI 1, vU, vU, vU, vU], [], aq_h m s F c_1)) rfl rfl ?_
  refine am_E.go (t2 := (2, [vR y, vI 4, vI 1, vU, vU, vU, vU], [], aq_h m s F c_1)) rfl rfl ?_
  refine am_E.go (t2 := (3, [vR y, vI 4, vI 1, vU, vU, vU, vU], [vI 1], aq_h m s F c_1)) rfl rfl ?_
  refine am_E.go (t2 := (4, [vR y, vI 4, vI 1, vU, vU, vU, vU], [vI 4, vI 1], aq_h m s F c_1)) rfl rfl ?_
  refine am_E.go (t2 := (7, [vR y, vI 4, vI 1, vU, vU, vU, vU], [], aq_h m s F c_1)) rfl rfl ?_
  refine am_E.go (t2 := (8, [vR y, vI 4, vI 1, vU, vU, vU, vU], [vR y], aq_h m s F c_1)) rfl rfl ?_
  refine aq_gf (v := vR (y + 13)) rfl (by omega) hFo (by decide) rfl ?_
  show am_E _ (11, [vR y, vI 4, vI 1, vU, vU, vU, vU], [vR (y + 13)], aq_h m s F c_1) _
  refine am_E.go (t2 := (12, [vR y, vI 4, vI 1, vU, vU, vU, vU], [vI 1, vR (y + 13)], aq_h m s F c_1)) rfl rfl ?_
  refine am_E.go (t2 := (13, [vR y, vI 4, vI 1, vU, vU, vU, vU], [vI 0, vI 1, vR (y + 13)], aq_h m s F c_1)) rfl rfl ?_
  refine aq_as (kd := 1) rfl rfl (by omega) hG13 (by omega) (by omega) rfl rfl ?_
  show am_E _ (14, [vR y, vI 4, vI 1, vU, vU, vU, vU], [], aq_h m s F (aq_u c_1 (y + 13) 1 0)) _
  generalize hdc_2 : aq_u c_1 (y + 13) 1 0 = c_2
  have sc_2 := aq_smu sc_1 hdc_2 rfl
  have mtc_2 := mt_1 mtc_1 hdc_2
  refine am_E.go (t2 := (17, [vR y, vI 4, vI 2, vU, vU, vU, vU], [], aq_h m s F c_2)) rfl rfl ?_
  refine am_E.go (t2 := (2, [vR y, vI 4, vI 2, vU, vU, vU, vU], [], aq_h m s F c_2)) rfl rfl ?_
  refine am_E.go (t2 := (3, [vR y, vI 4, vI 2, vU, vU, vU, vU], [vI 2], aq_h m s F c_2)) rfl rfl ?_
  refine am_E.go (t2 := (4, [vR y, vI 4, vI 2, vU, vU, vU, vU], [vI 4, vI 2], aq_h m s F c_2)) rfl rfl ?_
  refine am_E.go (t2 := (7, [vR y, vI 4, vI 2, vU, vU, vU, vU], [], aq_h m s F c_2)) rfl rfl ?_
  refine am_E.go (t2 := (8, [vR y, vI 4, vI 2, vU, vU, vU, vU], [vR y], aq_h m s F c_2)) rfl rfl ?_
  refine aq_gf (v := vR (y + 13)) rfl (by omega) hFo (by decide) rfl ?_
  show am_E _ (11, [vR y, vI 4, vI 2, vU, vU, vU, vU], [vR (y + 13)], aq_h m s F c_2) _
  refine am_E.go (t2 := (12, [vR y, vI 4, vI 2, vU, vU, vU, vU], [vI 2, vR (y + 13)], aq_h m s F c_2)) rfl rfl ?_
  refine am_E.go (t2 := (13, [vR y, vI 4, vI 2, vU, vU, vU, vU], [vI 0, vI 2, vR (y + 13)], aq_h m s F c_2)) rfl rfl ?_
  refine aq_as (kd := 1) rfl rfl (by omega) hG13 (by omega) (by omega) rfl rfl ?_
  show am_E _ (14, [vR y, vI 4, vI 2, vU, vU, vU, vU], [], aq_h m s F (aq_u c_2 (y + 13) 2 0)) _
  generalize hdc_3 : aq_u c_2 (y + 13) 2 0 = c_3
  have sc_3 := aq_smu sc_2 hdc_3 rfl
  have mtc_3 := mt_2 mtc_2 hdc_3
  refine am_E.go (t2 := (17, [vR y, vI 4, vI 3, vU, vU, vU, vU], [], aq_h m s F c_3)) rfl rfl ?_
  refine am_E.go (t2 := (2, [vR y, vI 4, vI 3, vU, vU, vU, vU], [], aq_h m s F c_3)) rfl rfl ?_
  refine am_E.go (t2 := (3, [vR y, vI 4, vI 3, vU, vU, vU, vU], [vI 3], aq_h m s F c_3)) rfl rfl ?_
  refine am_E.go (t2 := (4, [vR y, vI 4, vI 3, vU, vU, vU, vU], [vI 4, vI 3], aq_h m s F c_3)) rfl rfl ?_
  refine am_E.go (t2 := (7, [vR y, vI 4, vI 3, vU, vU, vU, vU], [], aq_h m s F c_3)) rfl rfl ?_
  refine am_E.go (t2 := (8, [vR y, vI 4, vI 3, vU, vU, vU, vU], [vR y], aq_h m s F c_3)) rfl rfl ?_
  refine aq_gf (v := vR (y + 13)) rfl (by omega) hFo (by decide) rfl ?_
  show am_E _ (11, [vR y, vI 4, vI 3, vU, vU, vU, vU], [vR (y + 13)], aq_h m s F c_3) _
  refine am_E.go (t2 := (12, [vR y, vI 4, vI 3, vU, vU, vU, vU], [vI 3, vR (y + 13)], aq_h m s F c_3)) rfl rfl ?_
  refine am_E.go (t2 := (13, [vR y, vI 4, vI 3, vU, vU, vU, vU], [vI 0, vI 3, vR (y + 13)], aq_h m s F c_3)) rfl rfl ?_
  refine aq_as (kd := 1) rfl rfl (by omega) hG13 (by omega) (by omega) rfl rfl ?_
  show am_E _ (14, [vR y, vI 4, vI 3, vU, vU, vU, vU], [], aq_h m s F (aq_u c_3 (y + 13) 3 0)) _
  generalize hdc_4 : aq_u c_3 (y + 13) 3 0 = c_4
  have sc_4 := aq_smu sc_3 hdc_4 rfl
  have mtc_4 := mt_3 mtc_3 hdc_4
  refine am_E.go (t2 := (17, [vR y, vI 4, vI 4, vU, vU, vU, vU], [], aq_h m s F c_4)) rfl rfl ?_
  refine am_E.go (t2 := (2, [vR y, vI 4, vI 4, vU, vU, vU, vU], [], aq_h m s F c_4)) rfl rfl ?_
  refine am_E.go (t2 := (3, [vR y, vI 4, vI 4, vU, vU, vU, vU], [vI 4], aq_h m s F c_4)) rfl rfl ?_
  refine am_E.go (t2 := (4, [vR y, vI 4, vI 4, vU, vU, vU, vU], [vI 4, vI 4], aq_h m s F c_4)) rfl rfl ?_
  refine am_E.go (t2 := (20, [vR y, vI 4, vI 4, vU, vU, vU, vU], [], aq_h m s F c_4)) rfl rfl ?_
  refine am_E.go (t2 := (21, [vR y, vI 4, vI 4, vU, vU, vU, vU], [vI 0], aq_h m s F c_4)) rfl rfl ?_
  refine am_E.go (t2 := (22, [vR y, vI 4, vI 0, vU, vU, vU, vU], [], aq_h m s F c_4)) rfl rfl ?_
  refine am_E.go (t2 := (23, [vR y, vI 4, vI 0, vU, vU, vU, vU], [vI 0], aq_h m s F c_4)) rfl rfl ?_
  refine am_E.go (t2 := (24, [vR y, vI 4, vI 0, vU, vU, vU, vU], [vI 4, vI 0], aq_h m s F c_4)) rfl rfl ?_
  refine am_E.go (t2 := (27, [vR y, vI 4, vI 0, vU, vU, vU, vU], [], aq_h m s F c_4)) rfl rfl ?_
  refine am_E.go (t2 := (28, [vR y, vI 4, vI 0, vU, vU, vU, vU], [vR y], aq_h m s F c_4)) rfl rfl ?_
  refine aq_gf (v := vR (y + 18)) rfl (by omega) hFo (by decide) rfl ?_
  show am_E _ (31, [vR y, vI 4, vI 0, vU, vU, vU, vU], [vR (y + 18)], aq_h m s F c_4) _
  refine am_E.go (t2 := (32, [vR y, vI 4, vI 0, vU, vU, vU, vU], [vI 0, vR (y + 18)], aq_h m s F c_4)) rfl rfl ?_
  refine aq_al (ok := fun k => k == 0) (v := vI (c_4 (y + 18) 0)) rfl rfl (by omega) hG18 rfl (by decide) (by decide) rfl ?_
  rw [sc_4 (y + 18) (by omega), hA0]
  show am_E _ (33, [vR y, vI 4, vI 0, vU, vU, vU, vU], [vI 1], aq_h m s F c_4) _
  refine am_E.go (t2 := (34, [vR y, vI 4, vI 0, vU, vU, vU, vU], [vI 4, vI 1], aq_h m s F c_4)) rfl rfl ?_
  refine am_E.go (t2 := (130, [vR y, vI 4, vI 0, vU, vU, vU, vU], [], aq_h m s F c_4)) rfl rfl ?_
  refine am_E.go (t2 := (133, [vR y, vI 4, vI 1, vU, vU, vU, vU], [], aq_h m s F c_4)) rfl rfl ?_
  refine am_E.go (t2 := (22, [vR y, vI 4, vI 1, vU, vU, vU, vU], [], aq_h m s F c_4)) rfl rfl ?_
  refine am_E.go (t2 := (23, [vR y, vI 4, vI 1, vU, vU, vU, vU], [vI 1], aq_h m s F c_4)) rfl rfl ?_
  refine am_E.go (t2 := (24, [vR y, vI 4, vI 1, vU, vU, vU, vU], [vI 4, vI 1], aq_h m s F c_4)) rfl rfl ?_
  refine am_E.go (t2 := (27, [vR y, vI 4, vI 1, vU, vU, vU, vU], [], aq_h m s F c_4)) rfl rfl ?_
  refine am_E.go (t2 := (28, [vR y, vI 4, vI 1, vU, vU, vU, vU], [vR y], aq_h m s F c_4)) rfl rfl ?_
  refine aq_gf (v := vR (y + 18)) rfl (by omega) hFo (by decide) rfl ?_
  show am_E _ (31, [vR y, vI 4, vI 1, vU, vU, vU, vU], [vR (y + 18)], aq_h m s F c_4) _
  refine am_E.go (t2 := (32, [vR y, vI 4, vI 1, vU, vU, vU, vU], [vI 1, vR (y + 18)], aq_h m s F c_4)) rfl rfl ?_
  refine aq_al (ok := fun k => k == 0) (v := vI (c_4 (y + 18) 1)) rfl rfl (by omega) hG18 rfl (by decide) (by decide) rfl ?_
  rw [sc_4 (y + 18) (by omega), hA1]
  show am_E _ (33, [vR y, vI 4, vI 1, vU, vU, vU, vU], [vI 0], aq_h m s F c_4) _
  refine am_E.go (t2 := (34, [vR y, vI 4, vI 1, vU, vU, vU, vU], [vI 4, vI 0], aq_h m s F c_4)) rfl rfl ?_
  refine am_E.go (t2 := (130, [vR y, vI 4, vI 1, vU, vU, vU, vU], [], aq_h m s F c_4)) rfl rfl ?_
  refine am_E.go (t2 := (133, [vR y, vI 4, vI 2, vU, vU, vU, vU], [], aq_h m s F c_4)) rfl rfl ?_
  refine am_E.go (t2 := (22, [vR y, vI 4, vI 2, vU, vU, vU, vU], [], aq_h m s F c_4)) rfl rfl ?_
  refine am_E.go (t2 := (23, [vR y, vI 4, vI 2, vU, vU, vU, vU], [vI 2], aq_h m s F c_4)) rfl rfl ?_
  refine am_E.go (t2 := (24, [vR y, vI 4, vI 2, vU, vU, vU, vU], [vI 4, vI 2], aq_h m s F c_4)) rfl rfl ?_
  refine am_E.go (t2 := (27, [vR y, vI 4, vI 2, vU, vU, vU, vU], [], aq_h m s F c_4)) rfl rfl ?_
  refine am_E.go (t2 := (28, [vR y, vI 4, vI 2, vU, vU, vU, vU], [vR y], aq_h m s F c_4)) rfl rfl ?_
  refine aq_gf (v := vR (y + 18)) rfl (by omega) hFo (by decide) rfl ?_
  show am_E _ (31, [vR y, vI 4, vI 2, vU, vU, vU, vU], [vR (y + 18)], aq_h m s F c_4) _
  refine am_E.go (t2 := (32, [vR y, vI 4, vI 2, vU, vU, vU, vU], [vI 2, vR (y + 18)], aq_h m s F c_4)) rfl rfl ?_
  refine aq_al (ok := fun k => k == 0) (v := vI (c_4 (y + 18) 2)) rfl rfl (by omega) hG18 rfl (by decide) (by decide) rfl ?_
  rw [sc_4 (y + 18) (by omega), hA2]
  show am_E _ (33, [vR y, vI 4, vI 2, vU, vU, vU, vU], [vI 4], aq_h m s F c_4) _
  refine am_E.go (t2 := (34, [vR y, vI 4, vI 2, vU, vU, vU, vU], [vI 4, vI 4], aq_h m s F c_4)) rfl rfl ?_
  refine am_E.go (t2 := (37, [vR y, vI 4, vI 2, vU, vU, vU, vU], [], aq_h m s F c_4)) rfl rfl ?_
  refine am_E.go (t2 := (38, [vR y, vI 4, vI 2, vU, vU, vU, vU], [vI 2], aq_h m s F c_4)) rfl rfl ?_
  refine am_E.go (t2 := (39, [vR y, vI 4, vI 2, vI 2, vU, vU, vU], [], aq_h m s F c_4)) rfl rfl ?_
  refine am_E.go (t2 := (40, [vR y, vI 4, vI 2, vI 2, vU, vU, vU], [vI 1], aq_h m s F c_4)) rfl rfl ?_
  refine am_E.go (t2 := (42, [vR y, vI 4, vI 2, vI 2, vI 1, vU, vU], [], aq_h m s F c_4)) rfl rfl ?_
  refine am_E.go (t2 := (43, [vR y, vI 4, vI 2, vI 2, vI 1, vU, vU], [vI 1], aq_h m s F c_4)) rfl rfl ?_
  refine am_E.go (t2 := (45, [vR y, vI 4, vI 2, vI 2, vI 1, vI 1, vU], [], aq_h m s F c_4)) rfl rfl ?_
  refine am_E.go (t2 := (47, [vR y, vI 4, vI 2, vI 2, vI 1, vI 1, vU], [vI 1], aq_h m s F c_4)) rfl rfl ?_
  refine am_E.go (t2 := (50, [vR y, vI 4, vI 2, vI 2, vI 1, vI 1, vU], [], aq_h m s F c_4)) rfl rfl ?_
  refine am_E.go (t2 := (51, [vR y, vI 4, vI 2, vI 2, vI 1, vI 1, vU], [vR y], aq_h m s F c_4)) rfl rfl ?_
  refine aq_gf (v := vR (y + 13)) rfl (by omega) hFo (by decide) rfl ?_
  show am_E _ (54, [vR y, vI 4, vI 2, vI 2, vI 1, vI 1, vU], [vR (y + 13)], aq_h m s F c_4) _
  refine am_E.go (t2 := (55, [vR y, vI 4, vI 2, vI 2, vI 1, vI 1, vU], [vI 2, vR (y + 13)], aq_h m s F c_4)) rfl rfl ?_
  refine am_E.go (t2 := (56, [vR y, vI 4, vI 2, vI 2, vI 1, vI 1, vU], [vI 1, vI 2, vR (y + 13)], aq_h m s F c_4)) rfl rfl ?_
  refine aq_as (kd := 1) rfl rfl (by omega) hG13 (by omega) (by omega) rfl rfl ?_
  show am_E _ (57, [vR y, vI 4, vI 2, vI 2, vI 1, vI 1, vU], [], aq_h m s F (aq_u c_4 (y + 13) 2 1)) _
  generalize hdc_5 : aq_u c_4 (y + 13) 2 1 = c_5
  have sc_5 := aq_smu sc_4 hdc_5 rfl
  have mtc_5 := mt_2 mtc_4 hdc_5
  refine am_E.go (t2 := (59, [vR y, vI 4, vI 2, vI 2, vI 1, vI 1, vU], [vI 1], aq_h m s F c_5)) rfl rfl ?_
  refine am_E.go (t2 := (62, [vR y, vI 4, vI 2, vI 2, vI 1, vI 1, vU], [], aq_h m s F c_5)) rfl rfl ?_
  refine am_E.go (t2 := (63, [vR y, vI 4, vI 2, vI 2, vI 1, vI 1, vU], [vR y], aq_h m s F c_5)) rfl rfl ?_
  refine aq_gf (v := vR (y + 19)) rfl (by omega) hFo (by decide) rfl ?_
  show am_E _ (66, [vR y, vI 4, vI 2, vI 2, vI 1, vI 1, vU], [vR (y + 19)], aq_h m s F c_5) _
  refine am_E.go (t2 := (67, [vR y, vI 4, vI 2, vI 2, vI 1, vI 1, vU], [vI 2, vR (y + 19)], aq_h m s F c_5)) rfl rfl ?_
  refine aq_al (ok := fun k => k == 0) (v := vI (c_5 (y + 19) 2)) rfl rfl (by omega) hG19 rfl (by decide) (by decide) rfl ?_
  rw [sc_5 (y + 19) (by omega), hB2]
  show am_E _ (68, [vR y, vI 4, vI 2, vI 2, vI 1, vI 1, vU], [vI 1], aq_h m s F c_5) _
  refine am_E.go (t2 := (77, [vR y, vI 4, vI 2, vI 2, vI 1, vI 1, vU], [vI 1], aq_h m s F c_5)) rfl rfl ?_
  refine am_E.go (t2 := (79, [vR y, vI 4, vI 2, vI 2, vI 1, vI 1, vI 1], [], aq_h m s F c_5)) rfl rfl ?_
  refine am_E.go (t2 := (81, [vR y, vI 4, vI 2, vI 2, vI 1, vI 1, vI 1], [vI 1], aq_h m s F c_5)) rfl rfl ?_
  refine am_E.go (t2 := (82, [vR y, vI 4, vI 2, vI 2, vI 1, vI 1, vI 1], [vI 4, vI 1], aq_h m s F c_5)) rfl rfl ?_
  refine am_E.go (t2 := (85, [vR y, vI 4, vI 2, vI 2, vI 1, vI 1, vI 1], [], aq_h m s F c_5)) rfl rfl ?_
  refine am_E.go (t2 := (86, [vR y, vI 4, vI 2, vI 2, vI 1, vI 1, vI 1], [vI 1], aq_h m s F c_5)) rfl rfl ?_
  refine am_E.go (t2 := (90, [vR y, vI 4, vI 2, vI 2, vI 1, vI 1, vI 1], [vI 1], aq_h m s F c_5)) rfl rfl ?_
  refine am_E.go (t2 := (92, [vR y, vI 4, vI 2, vI 2, vI 1, vI 1, vI 1], [], aq_h m s F c_5)) rfl rfl ?_
  refine am_E.go (t2 := (94, [vR y, vI 4, vI 2, vI 2, vI 1, vI 1, vI 1], [vI 1], aq_h m s F c_5)) rfl rfl ?_
  refine am_E.go (t2 := (97, [vR y, vI 4, vI 2, vI 2, vI 1, vI 1, vI 1], [], aq_h m s F c_5)) rfl rfl ?_
  refine am_E.go (t2 := (99, [vR y, vI 4, vI 2, vI 2, vI 1, vI 1, vI 1], [vI 1], aq_h m s F c_5)) rfl rfl ?_
  refine am_E.go (t2 := (100, [vR y, vI 4, vI 2, vI 1, vI 1, vI 1, vI 1], [], aq_h m s F c_5)) rfl rfl ?_
  refine am_E.go (t2 := (102, [vR y, vI 4, vI 2, vI 1, vI 1, vI 1, vI 1], [vI 1], aq_h m s F c_5)) rfl rfl ?_
  refine am_E.go (t2 := (109, [vR y, vI 4, vI 2, vI 1, vI 1, vI 1, vI 1], [], aq_h m s F c_5)) rfl rfl ?_
  refine am_E.go (t2 := (110, [vR y, vI 4, vI 2, vI 1, vI 1, vI 1, vI 1], [vI 0], aq_h m s F c_5)) rfl rfl ?_
  refine am_E.go (t2 := (112, [vR y, vI 4, vI 2, vI 1, vI 0, vI 1, vI 1], [], aq_h m s F c_5)) rfl rfl ?_
  refine am_E.go (t2 := (45, [vR y, vI 4, vI 2, vI 1, vI 0, vI 1, vI 1], [], aq_h m s F c_5)) rfl rfl ?_
  refine am_E.go (t2 := (47, [vR y, vI 4, vI 2, vI 1, vI 0, vI 1, vI 1], [vI 1], aq_h m s F c_5)) rfl rfl ?_
  refine am_E.go (t2 := (50, [vR y, vI 4, vI 2, vI 1, vI 0, vI 1, vI 1], [], aq_h m s F c_5)) rfl rfl ?_
  refine am_E.go (t2 := (51, [vR y, vI 4, vI 2, vI 1, vI 0, vI 1, vI 1], [vR y], aq_h m s F c_5)) rfl rfl ?_
  refine aq_gf (v := vR (y + 13)) rfl (by omega) hFo (by decide) rfl ?_
  show am_E _ (54, [vR y, vI 4, vI 2, vI 1, vI 0, vI 1, vI 1], [vR (y + 13)], aq_h m s F c_5) _
  refine am_E.go (t2 := (55, [vR y, vI 4, vI 2, vI 1, vI 0, vI 1, vI 1], [vI 1, vR (y + 13)], aq_h m s F c_5)) rfl rfl ?_
  refine am_E.go (t2 := (56, [vR y, vI 4, vI 2, vI 1, vI 0, vI 1, vI 1], [vI 1, vI 1, vR (y + 13)], aq_h m s F c_5)) rfl rfl ?_
  refine aq_as (kd := 1) rfl rfl (by omega) hG13 (by omega) (by omega) rfl rfl ?_
  show am_E _ (57, [vR y, vI 4, vI 2, vI 1, vI 0, vI 1, vI 1], [], aq_h m s F (aq_u c_5 (y + 13) 1 1)) _
  generalize hdc_6 : aq_u c_5 (y + 13) 1 1 = c_6
  have sc_6 := aq_smu sc_5 hdc_6 rfl
  have mtc_6 := mt_1 mtc_5 hdc_6
  refine am_E.go (t2 := (59, [vR y, vI 4, vI 2, vI 1, vI 0, vI 1, vI 1], [vI 0], aq_h m s F c_6)) rfl rfl ?_
  refine am_E.go (t2 := (71, [vR y, vI 4, vI 2, vI 1, vI 0, vI 1, vI 1], [], aq_h m s F c_6)) rfl rfl ?_
  refine am_E.go (t2 := (72, [vR y, vI 4, vI 2, vI 1, vI 0, vI 1, vI 1], [vR y], aq_h m s F c_6)) rfl rfl ?_
  refine aq_gf (v := vR (y + 18)) rfl (by omega) hFo (by decide) rfl ?_
  show am_E _ (75, [vR y, vI 4, vI 2, vI 1, vI 0, vI 1, vI 1], [vR (y + 18)], aq_h m s F c_6) _
  refine am_E.go (t2 := (76, [vR y, vI 4, vI 2, vI 1, vI 0, vI 1, vI 1], [vI 1, vR (y + 18)], aq_h m s F c_6)) rfl rfl ?_
  refine aq_al (ok := fun k => k == 0) (v := vI (c_6 (y + 18) 1)) rfl rfl (by omega) hG18 rfl (by decide) (by decide) rfl ?_
  rw [sc_6 (y + 18) (by omega), hA1]
  show am_E _ (77, [vR y, vI 4, vI 2, vI 1, vI 0, vI 1, vI 1], [vI 0], aq_h m s F c_6) _
  refine am_E.go (t2 := (79, [vR y, vI 4, vI 2, vI 1, vI 0, vI 1, vI 0], [], aq_h m s F c_6)) rfl rfl ?_
  refine am_E.go (t2 := (81, [vR y, vI 4, vI 2, vI 1, vI 0, vI 1, vI 0], [vI 0], aq_h m s F c_6)) rfl rfl ?_
  refine am_E.go (t2 := (82, [vR y, vI 4, vI 2, vI 1, vI 0, vI 1, vI 0], [vI 4, vI 0], aq_h m s F c_6)) rfl rfl ?_
  refine am_E.go (t2 := (85, [vR y, vI 4, vI 2, vI 1, vI 0, vI 1, vI 0], [], aq_h m s F c_6)) rfl rfl ?_
  refine am_E.go (t2 := (86, [vR y, vI 4, vI 2, vI 1, vI 0, vI 1, vI 0], [vI 1], aq_h m s F c_6)) rfl rfl ?_
  refine am_E.go (t2 := (90, [vR y, vI 4, vI 2, vI 1, vI 0, vI 1, vI 0], [vI 1], aq_h m s F c_6)) rfl rfl ?_
  refine am_E.go (t2 := (92, [vR y, vI 4, vI 2, vI 1, vI 0, vI 1, vI 0], [], aq_h m s F c_6)) rfl rfl ?_
  refine am_E.go (t2 := (94, [vR y, vI 4, vI 2, vI 1, vI 0, vI 1, vI 0], [vI 1], aq_h m s F c_6)) rfl rfl ?_
  refine am_E.go (t2 := (97, [vR y, vI 4, vI 2, vI 1, vI 0, vI 1, vI 0], [], aq_h m s F c_6)) rfl rfl ?_
  refine am_E.go (t2 := (99, [vR y, vI 4, vI 2, vI 1, vI 0, vI 1, vI 0], [vI 0], aq_h m s F c_6)) rfl rfl ?_
  refine am_E.go (t2 := (100, [vR y, vI 4, vI 2, vI 0, vI 0, vI 1, vI 0], [], aq_h m s F c_6)) rfl rfl ?_
  refine am_E.go (t2 := (102, [vR y, vI 4, vI 2, vI 0, vI 0, vI 1, vI 0], [vI 0], aq_h m s F c_6)) rfl rfl ?_
  refine am_E.go (t2 := (105, [vR y, vI 4, vI 2, vI 0, vI 0, vI 1, vI 0], [], aq_h m s F c_6)) rfl rfl ?_
  refine am_E.go (t2 := (106, [vR y, vI 4, vI 2, vI 0, vI 0, vI 1, vI 0], [vI 1], aq_h m s F c_6)) rfl rfl ?_
  refine am_E.go (t2 := (110, [vR y, vI 4, vI 2, vI 0, vI 0, vI 1, vI 0], [vI 1], aq_h m s F c_6)) rfl rfl ?_
  refine am_E.go (t2 := (112, [vR y, vI 4, vI 2, vI 0, vI 1, vI 1, vI 0], [], aq_h m s F c_6)) rfl rfl ?_
  refine am_E.go (t2 := (45, [vR y, vI 4, vI 2, vI 0, vI 1, vI 1, vI 0], [], aq_h m s F c_6)) rfl rfl ?_
  refine am_E.go (t2 := (47, [vR y, vI 4, vI 2, vI 0, vI 1, vI 1, vI 0], [vI 1], aq_h m s F c_6)) rfl rfl ?_
  refine am_E.go (t2 := (50, [vR y, vI 4, vI 2, vI 0, vI 1, vI 1, vI 0], [], aq_h m s F c_6)) rfl rfl ?_
  refine am_E.go (t2 := (51, [vR y, vI 4, vI 2, vI 0, vI 1, vI 1, vI 0], [vR y], aq_h m s F c_6)) rfl rfl ?_
  refine aq_gf (v := vR (y + 13)) rfl (by omega) hFo (by decide) rfl ?_
  show am_E _ (54, [vR y, vI 4, vI 2, vI 0, vI 1, vI 1, vI 0], [vR (y + 13)], aq_h m s F c_6) _
  refine am_E.go (t2 := (55, [vR y, vI 4, vI 2, vI 0, vI 1, vI 1, vI 0], [vI 0, vR (y + 13)], aq_h m s F c_6)) rfl rfl ?_
  refine am_E.go (t2 := (56, [vR y, vI 4, vI 2, vI 0, vI 1, vI 1, vI 0], [vI 1, vI 0, vR (y + 13)], aq_h m s F c_6)) rfl rfl ?_
  refine aq_as (kd := 1) rfl rfl (by omega) hG13 (by omega) (by omega) rfl rfl ?_
  show am_E _ (57, [vR y, vI 4, vI 2, vI 0, vI 1, vI 1, vI 0], [], aq_h m s F (aq_u c_6 (y + 13) 0 1)) _
  generalize hdc_7 : aq_u c_6 (y + 13) 0 1 = c_7
  have sc_7 := aq_smu sc_6 hdc_7 rfl
  have mtc_7 := mt_0 mtc_6 hdc_7
  refine am_E.go (t2 := (59, [vR y, vI 4, vI 2, vI 0, vI 1, vI 1, vI 0], [vI 1], aq_h m s F c_7)) rfl rfl ?_
  refine am_E.go (t2 := (62, [vR y, vI 4, vI 2, vI 0, vI 1, vI 1, vI 0], [], aq_h m s F c_7)) rfl rfl ?_
  refine am_E.go (t2 := (63, [vR y, vI 4, vI 2, vI 0, vI 1, vI 1, vI 0], [vR y], aq_h m s F c_7)) rfl rfl ?_
  refine aq_gf (v := vR (y + 19)) rfl (by omega) hFo (by decide) rfl ?_
  show am_E _ (66, [vR y, vI 4, vI 2, vI 0, vI 1, vI 1, vI 0], [vR (y + 19)], aq_h m s F c_7) _
  refine am_E.go (t2 := (67, [vR y, vI 4, vI 2, vI 0, vI 1, vI 1, vI 0], [vI 0, vR (y + 19)], aq_h m s F c_7)) rfl rfl ?_
  refine aq_al (ok := fun k => k == 0) (v := vI (c_7 (y + 19) 0)) rfl rfl (by omega) hG19 rfl (by decide) (by decide) rfl ?_
  rw [sc_7 (y + 19) (by omega), hB0]
  show am_E _ (68, [vR y, vI 4, vI 2, vI 0, vI 1, vI 1, vI 0], [vI 4], aq_h m s F c_7) _
  refine am_E.go (t2 := (77, [vR y, vI 4, vI 2, vI 0, vI 1, vI 1, vI 0], [vI 4], aq_h m s F c_7)) rfl rfl ?_
  refine am_E.go (t2 := (79, [vR y, vI 4, vI 2, vI 0, vI 1, vI 1, vI 4], [], aq_h m s F c_7)) rfl rfl ?_
  refine am_E.go (t2 := (81, [vR y, vI 4, vI 2, vI 0, vI 1, vI 1, vI 4], [vI 4], aq_h m s F c_7)) rfl rfl ?_
  refine am_E.go (t2 := (82, [vR y, vI 4, vI 2, vI 0, vI 1, vI 1, vI 4], [vI 4, vI 4], aq_h m s F c_7)) rfl rfl ?_
  refine am_E.go (t2 := (89, [vR y, vI 4, vI 2, vI 0, vI 1, vI 1, vI 4], [], aq_h m s F c_7)) rfl rfl ?_
  refine am_E.go (t2 := (90, [vR y, vI 4, vI 2, vI 0, vI 1, vI 1, vI 4], [vI 0], aq_h m s F c_7)) rfl rfl ?_
  refine am_E.go (t2 := (92, [vR y, vI 4, vI 2, vI 0, vI 1, vI 0, vI 4], [], aq_h m s F c_7)) rfl rfl ?_
  refine am_E.go (t2 := (94, [vR y, vI 4, vI 2, vI 0, vI 1, vI 0, vI 4], [vI 0], aq_h m s F c_7)) rfl rfl ?_
  refine am_E.go (t2 := (112, [vR y, vI 4, vI 2, vI 0, vI 1, vI 0, vI 4], [], aq_h m s F c_7)) rfl rfl ?_
  refine am_E.go (t2 := (45, [vR y, vI 4, vI 2, vI 0, vI 1, vI 0, vI 4], [], aq_h m s F c_7)) rfl rfl ?_
  refine am_E.go (t2 := (47, [vR y, vI 4, vI 2, vI 0, vI 1, vI 0, vI 4], [vI 0], aq_h m s F c_7)) rfl rfl ?_
  refine am_E.go (t2 := (115, [vR y, vI 4, vI 2, vI 0, vI 1, vI 0, vI 4], [], aq_h m s F c_7)) rfl rfl ?_
  refine am_E.go (t2 := (116, [vR y, vI 4, vI 2, vI 0, vI 1, vI 0, vI 4], [vR y], aq_h m s F c_7)) rfl rfl ?_
  refine aq_gf (v := vR (y + 13)) rfl (by omega) hFo (by decide) rfl ?_
  show am_E _ (119, [vR y, vI 4, vI 2, vI 0, vI 1, vI 0, vI 4], [vR (y + 13)], aq_h m s F c_7) _
  refine am_E.go (t2 := (120, [vR y, vI 4, vI 2, vI 0, vI 1, vI 0, vI 4], [vI 0, vR (y + 13)], aq_h m s F c_7)) rfl rfl ?_
  refine am_E.go (t2 := (121, [vR y, vI 4, vI 2, vI 0, vI 1, vI 0, vI 4], [vI 1, vI 0, vR (y + 13)], aq_h m s F c_7)) rfl rfl ?_
  refine aq_as (kd := 1) rfl rfl (by omega) hG13 (by omega) (by omega) rfl rfl ?_
  show am_E _ (122, [vR y, vI 4, vI 2, vI 0, vI 1, vI 0, vI 4], [], aq_h m s F (aq_u c_7 (y + 13) 0 1)) _
  generalize hdc_8 : aq_u c_7 (y + 13) 0 1 = c_8
  have sc_8 := aq_smu sc_7 hdc_8 rfl
  have mtc_8 := mt_0 mtc_7 hdc_8
  refine am_E.go (t2 := (124, [vR y, vI 4, vI 2, vI 0, vI 1, vI 0, vI 4], [vI 1], aq_h m s F c_8)) rfl rfl ?_
  refine am_E.go (t2 := (130, [vR y, vI 4, vI 2, vI 0, vI 1, vI 0, vI 4], [], aq_h m s F c_8)) rfl rfl ?_
  refine am_E.go (t2 := (133, [vR y, vI 4, vI 3, vI 0, vI 1, vI 0, vI 4], [], aq_h m s F c_8)) rfl rfl ?_
  refine am_E.go (t2 := (22, [vR y, vI 4, vI 3, vI 0, vI 1, vI 0, vI 4], [], aq_h m s F c_8)) rfl rfl ?_
  refine am_E.go (t2 := (23, [vR y, vI 4, vI 3, vI 0, vI 1, vI 0, vI 4], [vI 3], aq_h m s F c_8)) rfl rfl ?_
  refine am_E.go (t2 := (24, [vR y, vI 4, vI 3, vI 0, vI 1, vI 0, vI 4], [vI 4, vI 3], aq_h m s F c_8)) rfl rfl ?_
  refine am_E.go (t2 := (27, [vR y, vI 4, vI 3, vI 0, vI 1, vI 0, vI 4], [], aq_h m s F c_8)) rfl rfl ?_
  refine am_E.go (t2 := (28, [vR y, vI 4, vI 3, vI 0, vI 1, vI 0, vI 4], [vR y], aq_h m s F c_8)) rfl rfl ?_
  refine aq_gf (v := vR (y + 18)) rfl (by omega) hFo (by decide) rfl ?_
  show am_E _ (31, [vR y, vI 4, vI 3, vI 0, vI 1, vI 0, vI 4], [vR (y + 18)], aq_h m s F c_8) _
  refine am_E.go (t2 := (32, [vR y, vI 4, vI 3, vI 0, vI 1, vI 0, vI 4], [vI 3, vR (y + 18)], aq_h m s F c_8)) rfl rfl ?_
  refine aq_al (ok := fun k => k == 0) (v := vI (c_8 (y + 18) 3)) rfl rfl (by omega) hG18 rfl (by decide) (by decide) rfl ?_
  rw [sc_8 (y + 18) (by omega), hA3]
  show am_E _ (33, [vR y, vI 4, vI 3, vI 0, vI 1, vI 0, vI 4], [vI 4], aq_h m s F c_8) _
  refine am_E.go (t2 := (34, [vR y, vI 4, vI 3, vI 0, vI 1, vI 0, vI 4], [vI 4, vI 4], aq_h m s F c_8)) rfl rfl ?_
  refine am_E.go (t2 := (37, [vR y, vI 4, vI 3, vI 0, vI 1, vI 0, vI 4], [], aq_h m s F c_8)) rfl rfl ?_
  refine am_E.go (t2 := (38, [vR y, vI 4, vI 3, vI 0, vI 1, vI 0, vI 4], [vI 3], aq_h m s F c_8)) rfl rfl ?_
  refine am_E.go (t2 := (39, [vR y, vI 4, vI 3, vI 3, vI 1, vI 0, vI 4], [], aq_h m s F c_8)) rfl rfl ?_
  refine am_E.go (t2 := (40, [vR y, vI 4, vI 3, vI 3, vI 1, vI 0, vI 4], [vI 1], aq_h m s F c_8)) rfl rfl ?_
  refine am_E.go (t2 := (42, [vR y, vI 4, vI 3, vI 3, vI 1, vI 0, vI 4], [], aq_h m s F c_8)) rfl rfl ?_
  refine am_E.go (t2 := (43, [vR y, vI 4, vI 3, vI 3, vI 1, vI 0, vI 4], [vI 1], aq_h m s F c_8)) rfl rfl ?_
  refine am_E.go (t2 := (45, [vR y, vI 4, vI 3, vI 3, vI 1, vI 1, vI 4], [], aq_h m s F c_8)) rfl rfl ?_
  refine am_E.go (t2 := (47, [vR y, vI 4, vI 3, vI 3, vI 1, vI 1, vI 4], [vI 1], aq_h m s F c_8)) rfl rfl ?_
  refine am_E.go (t2 := (50, [vR y, vI 4, vI 3, vI 3, vI 1, vI 1, vI 4], [], aq_h m s F c_8)) rfl rfl ?_
  refine am_E.go (t2 := (51, [vR y, vI 4, vI 3, vI 3, vI 1, vI 1, vI 4], [vR y], aq_h m s F c_8)) rfl rfl ?_
  refine aq_gf (v := vR (y + 13)) rfl (by omega) hFo (by decide) rfl ?_
  show am_E _ (54, [vR y, vI 4, vI 3, vI 3, vI 1, vI 1, vI 4], [vR (y + 13)], aq_h m s F c_8) _
  refine am_E.go (t2 := (55, [vR y, vI 4, vI 3, vI 3, vI 1, vI 1, vI 4], [vI 3, vR (y + 13)], aq_h m s F c_8)) rfl rfl ?_
  refine am_E.go (t2 := (56, [vR y, vI 4, vI 3, vI 3, vI 1, vI 1, vI 4], [vI 1, vI 3, vR (y + 13)], aq_h m s F c_8)) rfl rfl ?_
  refine aq_as (kd := 1) rfl rfl (by omega) hG13 (by omega) (by omega) rfl rfl ?_
  show am_E _ (57, [vR y, vI 4, vI 3, vI 3, vI 1, vI 1, vI 4], [], aq_h m s F (aq_u c_8 (y + 13) 3 1)) _
  generalize hdc_9 : aq_u c_8 (y + 13) 3 1 = c_9
  have sc_9 := aq_smu sc_8 hdc_9 rfl
  have mtc_9 := mt_3 mtc_8 hdc_9
  refine am_E.go (t2 := (59, [vR y, vI 4, vI 3, vI 3, vI 1, vI 1, vI 4], [vI 1], aq_h m s F c_9)) rfl rfl ?_
  refine am_E.go (t2 := (62, [vR y, vI 4, vI 3, vI 3, vI 1, vI 1, vI 4], [], aq_h m s F c_9)) rfl rfl ?_
  refine am_E.go (t2 := (63, [vR y, vI 4, vI 3, vI 3, vI 1, vI 1, vI 4], [vR y], aq_h m s F c_9)) rfl rfl ?_
  refine aq_gf (v := vR (y + 19)) rfl (by omega) hFo (by decide) rfl ?_
  show am_E _ (66, [vR y, vI 4, vI 3, vI 3, vI 1, vI 1, vI 4], [vR (y + 19)], aq_h m s F c_9) _
  refine am_E.go (t2 := (67, [vR y, vI 4, vI 3, vI 3, vI 1, vI 1, vI 4], [vI 3, vR (y + 19)], aq_h m s F c_9)) rfl rfl ?_
  refine aq_al (ok := fun k => k == 0) (v := vI (c_9 (y + 19) 3)) rfl rfl (by omega) hG19 rfl (by decide) (by decide) rfl ?_
  rw [sc_9 (y + 19) (by omega), hB3]
  show am_E _ (68, [vR y, vI 4, vI 3, vI 3, vI 1, vI 1, vI 4], [vI 4], aq_h m s F c_9) _
  refine am_E.go (t2 := (77, [vR y, vI 4, vI 3, vI 3, vI 1, vI 1, vI 4], [vI 4], aq_h m s F c_9)) rfl rfl ?_
  refine am_E.go (t2 := (79, [vR y, vI 4, vI 3, vI 3, vI 1, vI 1, vI 4], [], aq_h m s F c_9)) rfl rfl ?_
  refine am_E.go (t2 := (81, [vR y, vI 4, vI 3, vI 3, vI 1, vI 1, vI 4], [vI 4], aq_h m s F c_9)) rfl rfl ?_
  refine am_E.go (t2 := (82, [vR y, vI 4, vI 3, vI 3, vI 1, vI 1, vI 4], [vI 4, vI 4], aq_h m s F c_9)) rfl rfl ?_
  refine am_E.go (t2 := (89, [vR y, vI 4, vI 3, vI 3, vI 1, vI 1, vI 4], [], aq_h m s F c_9)) rfl rfl ?_
  refine am_E.go (t2 := (90, [vR y, vI 4, vI 3, vI 3, vI 1, vI 1, vI 4], [vI 0], aq_h m s F c_9)) rfl rfl ?_
  refine am_E.go (t2 := (92, [vR y, vI 4, vI 3, vI 3, vI 1, vI 0, vI 4], [], aq_h m s F c_9)) rfl rfl ?_
  refine am_E.go (t2 := (94, [vR y, vI 4, vI 3, vI 3, vI 1, vI 0, vI 4], [vI 0], aq_h m s F c_9)) rfl rfl ?_
  refine am_E.go (t2 := (112, [vR y, vI 4, vI 3, vI 3, vI 1, vI 0, vI 4], [], aq_h m s F c_9)) rfl rfl ?_
  refine am_E.go (t2 := (45, [vR y, vI 4, vI 3, vI 3, vI 1, vI 0, vI 4], [], aq_h m s F c_9)) rfl rfl ?_
  refine am_E.go (t2 := (47, [vR y, vI 4, vI 3, vI 3, vI 1, vI 0, vI 4], [vI 0], aq_h m s F c_9)) rfl rfl ?_
  refine am_E.go (t2 := (115, [vR y, vI 4, vI 3, vI 3, vI 1, vI 0, vI 4], [], aq_h m s F c_9)) rfl rfl ?_
  refine am_E.go (t2 := (116, [vR y, vI 4, vI 3, vI 3, vI 1, vI 0, vI 4], [vR y], aq_h m s F c_9)) rfl rfl ?_
  refine aq_gf (v := vR (y + 13)) rfl (by omega) hFo (by decide) rfl ?_
  show am_E _ (119, [vR y, vI 4, vI 3, vI 3, vI 1, vI 0, vI 4], [vR (y + 13)], aq_h m s F c_9) _
  refine am_E.go (t2 := (120, [vR y, vI 4, vI 3, vI 3, vI 1, vI 0, vI 4], [vI 3, vR (y + 13)], aq_h m s F c_9)) rfl rfl ?_
  refine am_E.go (t2 := (121, [vR y, vI 4, vI 3, vI 3, vI 1, vI 0, vI 4], [vI 1, vI 3, vR (y + 13)], aq_h m s F c_9)) rfl rfl ?_
  refine aq_as (kd := 1) rfl rfl (by omega) hG13 (by omega) (by omega) rfl rfl ?_
  show am_E _ (122, [vR y, vI 4, vI 3, vI 3, vI 1, vI 0, vI 4], [], aq_h m s F (aq_u c_9 (y + 13) 3 1)) _
  generalize hdc_10 : aq_u c_9 (y + 13) 3 1 = c_10
  have sc_10 := aq_smu sc_9 hdc_10 rfl
  have mtc_10 := mt_3 mtc_9 hdc_10
  refine am_E.go (t2 := (124, [vR y, vI 4, vI 3, vI 3, vI 1, vI 0, vI 4], [vI 1], aq_h m s F c_10)) rfl rfl ?_
  refine am_E.go (t2 := (130, [vR y, vI 4, vI 3, vI 3, vI 1, vI 0, vI 4], [], aq_h m s F c_10)) rfl rfl ?_
  refine am_E.go (t2 := (133, [vR y, vI 4, vI 4, vI 3, vI 1, vI 0, vI 4], [], aq_h m s F c_10)) rfl rfl ?_
  refine am_E.go (t2 := (22, [vR y, vI 4, vI 4, vI 3, vI 1, vI 0, vI 4], [], aq_h m s F c_10)) rfl rfl ?_
  refine am_E.go (t2 := (23, [vR y, vI 4, vI 4, vI 3, vI 1, vI 0, vI 4], [vI 4], aq_h m s F c_10)) rfl rfl ?_
  refine am_E.go (t2 := (24, [vR y, vI 4, vI 4, vI 3, vI 1, vI 0, vI 4], [vI 4, vI 4], aq_h m s F c_10)) rfl rfl ?_
  refine am_E.go (t2 := (136, [vR y, vI 4, vI 4, vI 3, vI 1, vI 0, vI 4], [], aq_h m s F c_10)) rfl rfl ?_
  refine am_E.go (t2 := (137, [vR y, vI 4, vI 4, vI 3, vI 1, vI 0, vI 4], [vI 0], aq_h m s F c_10)) rfl rfl ?_
  refine am_E.go (t2 := (138, [vR y, vI 4, vI 0, vI 3, vI 1, vI 0, vI 4], [], aq_h m s F c_10)) rfl rfl ?_
  refine am_E.go (t2 := (139, [vR y, vI 4, vI 0, vI 3, vI 1, vI 0, vI 4], [vI 0], aq_h m s F c_10)) rfl rfl ?_
  refine am_E.go (t2 := (140, [vR y, vI 4, vI 0, vI 3, vI 1, vI 0, vI 4], [vI 4, vI 0], aq_h m s F c_10)) rfl rfl ?_
  refine am_E.go (t2 := (143, [vR y, vI 4, vI 0, vI 3, vI 1, vI 0, vI 4], [], aq_h m s F c_10)) rfl rfl ?_
  refine am_E.go (t2 := (144, [vR y, vI 4, vI 0, vI 3, vI 1, vI 0, vI 4], [vR y], aq_h m s F c_10)) rfl rfl ?_
  refine aq_gf (v := vR (y + 13)) rfl (by omega) hFo (by decide) rfl ?_
  show am_E _ (147, [vR y, vI 4, vI 0, vI 3, vI 1, vI 0, vI 4], [vR (y + 13)], aq_h m s F c_10) _
  refine am_E.go (t2 := (148, [vR y, vI 4, vI 0, vI 3, vI 1, vI 0, vI 4], [vI 0, vR (y + 13)], aq_h m s F c_10)) rfl rfl ?_
  refine aq_al (ok := fun k => k == 1) (v := vI (c_10 (y + 13) 0)) rfl rfl (by omega) hG13 rfl (by decide) (by decide) rfl ?_
  rw [mtc_10.1]
  show am_E _ (149, [vR y, vI 4, vI 0, vI 3, vI 1, vI 0, vI 4], [vI 1], aq_h m s F c_10) _
  refine am_E.go (t2 := (165, [vR y, vI 4, vI 0, vI 3, vI 1, vI 0, vI 4], [], aq_h m s F c_10)) rfl rfl ?_
  refine am_E.go (t2 := (168, [vR y, vI 4, vI 1, vI 3, vI 1, vI 0, vI 4], [], aq_h m s F c_10)) rfl rfl ?_
  refine am_E.go (t2 := (138, [vR y, vI 4, vI 1, vI 3, vI 1, vI 0, vI 4], [], aq_h m s F c_10)) rfl rfl ?_
  refine am_E.go (t2 := (139, [vR y, vI 4, vI 1, vI 3, vI 1, vI 0, vI 4], [vI 1], aq_h m s F c_10)) rfl rfl ?_
  refine am_E.go (t2 := (140, [vR y, vI 4, vI 1, vI 3, vI 1, vI 0, vI 4], [vI 4, vI 1], aq_h m s F c_10)) rfl rfl ?_
  refine am_E.go (t2 := (143, [vR y, vI 4, vI 1, vI 3, vI 1, vI 0, vI 4], [], aq_h m s F c_10)) rfl rfl ?_
  refine am_E.go (t2 := (144, [vR y, vI 4, vI 1, vI 3, vI 1, vI 0, vI 4], [vR y], aq_h m s F c_10)) rfl rfl ?_
  refine aq_gf (v := vR (y + 13)) rfl (by omega) hFo (by decide) rfl ?_
  show am_E _ (147, [vR y, vI 4, vI 1, vI 3, vI 1, vI 0, vI 4], [vR (y + 13)], aq_h m s F c_10) _
  refine am_E.go (t2 := (148, [vR y, vI 4, vI 1, vI 3, vI 1, vI 0, vI 4], [vI 1, vR (y + 13)], aq_h m s F c_10)) rfl rfl ?_
  refine aq_al (ok := fun k => k == 1) (v := vI (c_10 (y + 13) 1)) rfl rfl (by omega) hG13 rfl (by decide) (by decide) rfl ?_
  rw [mtc_10.2.1]
  show am_E _ (149, [vR y, vI 4, vI 1, vI 3, vI 1, vI 0, vI 4], [vI 1], aq_h m s F c_10) _
  refine am_E.go (t2 := (165, [vR y, vI 4, vI 1, vI 3, vI 1, vI 0, vI 4], [], aq_h m s F c_10)) rfl rfl ?_
  refine am_E.go (t2 := (168, [vR y, vI 4, vI 2, vI 3, vI 1, vI 0, vI 4], [], aq_h m s F c_10)) rfl rfl ?_
  refine am_E.go (t2 := (138, [vR y, vI 4, vI 2, vI 3, vI 1, vI 0, vI 4], [], aq_h m s F c_10)) rfl rfl ?_
  refine am_E.go (t2 := (139, [vR y, vI 4, vI 2, vI 3, vI 1, vI 0, vI 4], [vI 2], aq_h m s F c_10)) rfl rfl ?_
  refine am_E.go (t2 := (140, [vR y, vI 4, vI 2, vI 3, vI 1, vI 0, vI 4], [vI 4, vI 2], aq_h m s F c_10)) rfl rfl ?_
  refine am_E.go (t2 := (143, [vR y, vI 4, vI 2, vI 3, vI 1, vI 0, vI 4], [], aq_h m s F c_10)) rfl rfl ?_
  refine am_E.go (t2 := (144, [vR y, vI 4, vI 2, vI 3, vI 1, vI 0, vI 4], [vR y], aq_h m s F c_10)) rfl rfl ?_
  refine aq_gf (v := vR (y + 13)) rfl (by omega) hFo (by decide) rfl ?_
  show am_E _ (147, [vR y, vI 4, vI 2, vI 3, vI 1, vI 0, vI 4], [vR (y + 13)], aq_h m s F c_10) _
  refine am_E.go (t2 := (148, [vR y, vI 4, vI 2, vI 3, vI 1, vI 0, vI 4], [vI 2, vR (y + 13)], aq_h m s F c_10)) rfl rfl ?_
  refine aq_al (ok := fun k => k == 1) (v := vI (c_10 (y + 13) 2)) rfl rfl (by omega) hG13 rfl (by decide) (by decide) rfl ?_
  rw [mtc_10.2.2.1]
  show am_E _ (149, [vR y, vI 4, vI 2, vI 3, vI 1, vI 0, vI 4], [vI 1], aq_h m s F c_10) _
  refine am_E.go (t2 := (165, [vR y, vI 4, vI 2, vI 3, vI 1, vI 0, vI 4], [], aq_h m s F c_10)) rfl rfl ?_
  refine am_E.go (t2 := (168, [vR y, vI 4, vI 3, vI 3, vI 1, vI 0, vI 4], [], aq_h m s F c_10)) rfl rfl ?_
  refine am_E.go (t2 := (138, [vR y, vI 4, vI 3, vI 3, vI 1, vI 0, vI 4], [], aq_h m s F c_10)) rfl rfl ?_
  refine am_E.go (t2 := (139, [vR y, vI 4, vI 3, vI 3, vI 1, vI 0, vI 4], [vI 3], aq_h m s F c_10)) rfl rfl ?_
  refine am_E.go (t2 := (140, [vR y, vI 4, vI 3, vI 3, vI 1, vI 0, vI 4], [vI 4, vI 3], aq_h m s F c_10)) rfl rfl ?_
  refine am_E.go (t2 := (143, [vR y, vI 4, vI 3, vI 3, vI 1, vI 0, vI 4], [], aq_h m s F c_10)) rfl rfl ?_
  refine am_E.go (t2 := (144, [vR y, vI 4, vI 3, vI 3, vI 1, vI 0, vI 4], [vR y], aq_h m s F c_10)) rfl rfl ?_
  refine aq_gf (v := vR (y + 13)) rfl (by omega) hFo (by decide) rfl ?_
  show am_E _ (147, [vR y, vI 4, vI 3, vI 3, vI 1, vI 0, vI 4], [vR (y + 13)], aq_h m s F c_10) _
  refine am_E.go (t2 := (148, [vR y, vI 4, vI 3, vI 3, vI 1, vI 0, vI 4], [vI 3, vR (y + 13)], aq_h m s F c_10)) rfl rfl ?_
  refine aq_al (ok := fun k => k == 1) (v := vI (c_10 (y + 13) 3)) rfl rfl (by omega) hG13 rfl (by decide) (by decide) rfl ?_
  rw [mtc_10.2.2.2]
  show am_E _ (149, [vR y, vI 4, vI 3, vI 3, vI 1, vI 0, vI 4], [vI 1], aq_h m s F c_10) _
  refine am_E.go (t2 := (165, [vR y, vI 4, vI 3, vI 3, vI 1, vI 0, vI 4], [], aq_h m s F c_10)) rfl rfl ?_
  refine am_E.go (t2 := (168, [vR y, vI 4, vI 4, vI 3, vI 1, vI 0, vI 4], [], aq_h m s F c_10)) rfl rfl ?_
  refine am_E.go (t2 := (138, [vR y, vI 4, vI 4, vI 3, vI 1, vI 0, vI 4], [], aq_h m s F c_10)) rfl rfl ?_
  refine am_E.go (t2 := (139, [vR y, vI 4, vI 4, vI 3, vI 1, vI 0, vI 4], [vI 4], aq_h m s F c_10)) rfl rfl ?_
  refine am_E.go (t2 := (140, [vR y, vI 4, vI 4, vI 3, vI 1, vI 0, vI 4], [vI 4, vI 4], aq_h m s F c_10)) rfl rfl ?_
  refine am_E.go (t2 := (171, [vR y, vI 4, vI 4, vI 3, vI 1, vI 0, vI 4], [], aq_h m s F c_10)) rfl rfl ?_
  refine am_E.go (t2 := (172, [vR y, vI 4, vI 4, vI 3, vI 1, vI 0, vI 4], [vI 0], aq_h m s F c_10)) rfl rfl ?_
  refine am_E.go (t2 := (173, [vR y, vI 4, vI 0, vI 3, vI 1, vI 0, vI 4], [], aq_h m s F c_10)) rfl rfl ?_
  refine am_E.go (t2 := (174, [vR y, vI 4, vI 0, vI 3, vI 1, vI 0, vI 4], [vI 0], aq_h m s F c_10)) rfl rfl ?_
  refine am_E.go (t2 := (175, [vR y, vI 4, vI 0, vI 0, vI 1, vI 0, vI 4], [], aq_h m s F c_10)) rfl rfl ?_
  refine am_E.go (t2 := (176, [vR y, vI 4, vI 0, vI 0, vI 1, vI 0, vI 4], [vI 0], aq_h m s F c_10)) rfl rfl ?_
  refine am_E.go (t2 := (177, [vR y, vI 4, vI 0, vI 0, vI 1, vI 0, vI 4], [vI 4, vI 0], aq_h m s F c_10)) rfl rfl ?_
  refine am_E.go (t2 := (180, [vR y, vI 4, vI 0, vI 0, vI 1, vI 0, vI 4], [], aq_h m s F c_10)) rfl rfl ?_
  refine am_E.go (t2 := (181, [vR y, vI 4, vI 0, vI 0, vI 1, vI 0, vI 4], [vR y], aq_h m s F c_10)) rfl rfl ?_
  refine aq_gf (v := vR (y + 13)) rfl (by omega) hFo (by decide) rfl ?_
  show am_E _ (184, [vR y, vI 4, vI 0, vI 0, vI 1, vI 0, vI 4], [vR (y + 13)], aq_h m s F c_10) _
  refine am_E.go (t2 := (185, [vR y, vI 4, vI 0, vI 0, vI 1, vI 0, vI 4], [vI 0, vR (y + 13)], aq_h m s F c_10)) rfl rfl ?_
  refine aq_al (ok := fun k => k == 1) (v := vI (c_10 (y + 13) 0)) rfl rfl (by omega) hG13 rfl (by decide) (by decide) rfl ?_
  rw [mtc_10.1]
  show am_E _ (186, [vR y, vI 4, vI 0, vI 0, vI 1, vI 0, vI 4], [vI 1], aq_h m s F c_10) _
  refine am_E.go (t2 := (253, [vR y, vI 4, vI 0, vI 0, vI 1, vI 0, vI 4], [], aq_h m s F c_10)) rfl rfl ?_
  refine am_E.go (t2 := (256, [vR y, vI 4, vI 0, vI 1, vI 1, vI 0, vI 4], [], aq_h m s F c_10)) rfl rfl ?_
  refine am_E.go (t2 := (175, [vR y, vI 4, vI 0, vI 1, vI 1, vI 0, vI 4], [], aq_h m s F c_10)) rfl rfl ?_
  refine am_E.go (t2 := (176, [vR y, vI 4, vI 0, vI 1, vI 1, vI 0, vI 4], [vI 1], aq_h m s F c_10)) rfl rfl ?_
  refine am_E.go (t2 := (177, [vR y, vI 4, vI 0, vI 1, vI 1, vI 0, vI 4], [vI 4, vI 1], aq_h m s F c_10)) rfl rfl ?_
  refine am_E.go (t2 := (180, [vR y, vI 4, vI 0, vI 1, vI 1, vI 0, vI 4], [], aq_h m s F c_10)) rfl rfl ?_
  refine am_E.go (t2 := (181, [vR y, vI 4, vI 0, vI 1, vI 1, vI 0, vI 4], [vR y], aq_h m s F c_10)) rfl rfl ?_
  refine aq_gf (v := vR (y + 13)) rfl (by omega) hFo (by decide) rfl ?_
  show am_E _ (184, [vR y, vI 4, vI 0, vI 1, vI 1, vI 0, vI 4], [vR (y + 13)], aq_h m s F c_10) _
  refine am_E.go (t2 := (185, [vR y, vI 4, vI 0, vI 1, vI 1, vI 0, vI 4], [vI 1, vR (y + 13)], aq_h m s F c_10)) rfl rfl ?_
  refine aq_al (ok := fun k => k == 1) (v := vI (c_10 (y + 13) 1)) rfl rfl (by omega) hG13 rfl (by decide) (by decide) rfl ?_
  rw [mtc_10.2.1]
  show am_E _ (186, [vR y, vI 4, vI 0, vI 1, vI 1, vI 0, vI 4], [vI 1], aq_h m s F c_10) _
  refine am_E.go (t2 := (253, [vR y, vI 4, vI 0, vI 1, vI 1, vI 0, vI 4], [], aq_h m s F c_10)) rfl rfl ?_
  refine am_E.go (t2 := (256, [vR y, vI 4, vI 0, vI 2, vI 1, vI 0, vI 4], [], aq_h m s F c_10)) rfl rfl ?_
  refine am_E.go (t2 := (175, [vR y, vI 4, vI 0, vI 2, vI 1, vI 0, vI 4], [], aq_h m s F c_10)) rfl rfl ?_
  refine am_E.go (t2 := (176, [vR y, vI 4, vI 0, vI 2, vI 1, vI 0, vI 4], [vI 2], aq_h m s F c_10)) rfl rfl ?_
  refine am_E.go (t2 := (177, [vR y, vI 4, vI 0, vI 2, vI 1, vI 0, vI 4], [vI 4, vI 2], aq_h m s F c_10)) rfl rfl ?_
  refine am_E.go (t2 := (180, [vR y, vI 4, vI 0, vI 2, vI 1, vI 0, vI 4], [], aq_h m s F c_10)) rfl rfl ?_
  refine am_E.go (t2 := (181, [vR y, vI 4, vI 0, vI 2, vI 1, vI 0, vI 4], [vR y], aq_h m s F c_10)) rfl rfl ?_
  refine aq_gf (v := vR (y + 13)) rfl (by omega) hFo (by decide) rfl ?_
  show am_E _ (184, [vR y, vI 4, vI 0, vI 2, vI 1, vI 0, vI 4], [vR (y + 13)], aq_h m s F c_10) _
  refine am_E.go (t2 := (185, [vR y, vI 4, vI 0, vI 2, vI 1, vI 0, vI 4], [vI 2, vR (y + 13)], aq_h m s F c_10)) rfl rfl ?_
  refine aq_al (ok := fun k => k == 1) (v := vI (c_10 (y + 13) 2)) rfl rfl (by omega) hG13 rfl (by decide) (by decide) rfl ?_
  rw [mtc_10.2.2.1]
  show am_E _ (186, [vR y, vI 4, vI 0, vI 2, vI 1, vI 0, vI 4], [vI 1], aq_h m s F c_10) _
  refine am_E.go (t2 := (253, [vR y, vI 4, vI 0, vI 2, vI 1, vI 0, vI 4], [], aq_h m s F c_10)) rfl rfl ?_
  refine am_E.go (t2 := (256, [vR y, vI 4, vI 0, vI 3, vI 1, vI 0, vI 4], [], aq_h m s F c_10)) rfl rfl ?_
  refine am_E.go (t2 := (175, [vR y, vI 4, vI 0, vI 3, vI 1, vI 0, vI 4], [], aq_h m s F c_10)) rfl rfl ?_
  refine am_E.go (t2 := (176, [vR y, vI 4, vI 0, vI 3, vI 1, vI 0, vI 4], [vI 3], aq_h m s F c_10)) rfl rfl ?_
  refine am_E.go (t2 := (177, [vR y, vI 4, vI 0, vI 3, vI 1, vI 0, vI 4], [vI 4, vI 3], aq_h m s F c_10)) rfl rfl ?_
  refine am_E.go (t2 := (180, [vR y, vI 4, vI 0, vI 3, vI 1, vI 0, vI 4], [], aq_h m s F c_10)) rfl rfl ?_
  refine am_E.go (t2 := (181, [vR y, vI 4, vI 0, vI 3, vI 1, vI 0, vI 4], [vR y], aq_h m s F c_10)) rfl rfl ?_
  refine aq_gf (v := vR (y + 13)) rfl (by omega) hFo (by decide) rfl ?_
  show am_E _ (184, [vR y, vI 4, vI 0, vI 3, vI 1, vI 0, vI 4], [vR (y + 13)], aq_h m s F c_10) _
  refine am_E.go (t2 := (185, [vR y, vI 4, vI 0, vI 3, vI 1, vI 0, vI 4], [vI 3, vR (y + 13)], aq_h m s F c_10)) rfl rfl ?_
  refine aq_al (ok := fun k => k == 1) (v := vI (c_10 (y + 13) 3)) rfl rfl (by omega) hG13 rfl (by decide) (by decide) rfl ?_
  rw [mtc_10.2.2.2]
  show am_E _ (186, [vR y, vI 4, vI 0, vI 3, vI 1, vI 0, vI 4], [vI 1], aq_h m s F c_10) _
  refine am_E.go (t2 := (253, [vR y, vI 4, vI 0, vI 3, vI 1, vI 0, vI 4], [], aq_h m s F c_10)) rfl rfl ?_
  refine am_E.go (t2 := (256, [vR y, vI 4, vI 0, vI 4, vI 1, vI 0, vI 4], [], aq_h m s F c_10)) rfl rfl ?_
  refine am_E.go (t2 := (175, [vR y, vI 4, vI 0, vI 4, vI 1, vI 0, vI 4], [], aq_h m s F c_10)) rfl rfl ?_
  refine am_E.go (t2 := (176, [vR y, vI 4, vI 0, vI 4, vI 1, vI 0, vI 4], [vI 4], aq_h m s F c_10)) rfl rfl ?_
  refine am_E.go (t2 := (177, [vR y, vI 4, vI 0, vI 4, vI 1, vI 0, vI 4], [vI 4, vI 4], aq_h m s F c_10)) rfl rfl ?_
  refine am_E.go (t2 := (259, [vR y, vI 4, vI 0, vI 4, vI 1, vI 0, vI 4], [], aq_h m s F c_10)) rfl rfl ?_
  refine am_E.go (t2 := (260, [vR y, vI 4, vI 0, vI 4, vI 1, vI 0, vI 4], [vI 0], aq_h m s F c_10)) rfl rfl ?_
  refine am_E.ret rfl rfl ?_
  exact ⟨_, rfl, sc_10, rfl⟩

theorem qm_fo_4202 {m s : Nat} {F : aq_F} {c : aq_C} {y : Nat} (hO : mo_0 m F y) (hA0 : c (y + 18) 0 = 1) (hA1 : c (y + 18) 1 = 0) (hA2 : c (y + 18) 2 = 4) (hA3 : c (y + 18) 3 = 4) (hB0 : c (y + 19) 0 = 4) (hB1 : c (y + 19) 1 = 4) (hB2 : c (y + 19) 2 = 3) (hB3 : c (y + 19) 3 = 2) : am_E ac_X5_formOf (0, [vR y, vI 4, vU, vU, vU, vU, vU], [], aq_h m s F c) (aq_Z m s F (fun a => a = y + 13) c (fun r _ => r = some (vI (-4)))) := by
  obtain ⟨hm, hFo, hG5, hG6, hG7, hG8, hG9, hG10, hG11, hG12, hG13, hG14, hG15, hG16, hG17, hG18, hG19, hG20, hG21, hG22, hG23⟩ := hO
  have hmt : mt_ y (c (y + 13) 0) (c (y + 13) 1) (c (y + 13) 2) (c (y + 13) 3) c := ⟨rfl, rfl, rfl, rfl⟩
  refine am_E.go (t2 := (1, [vR y, vI 4, vU, vU, vU, vU, vU], [vI 0], aq_h m s F c)) rfl rfl ?_
  refine am_E.go (t2 := (2, [vR y, vI 4, vI 0, vU, vU, vU, vU], [], aq_h m s F c)) rfl rfl ?_
  refine am_E.go (t2 := (3, [vR y, vI 4, vI 0, vU, vU, vU, vU], [vI 0], aq_h m s F c)) rfl rfl ?_
  refine am_E.go (t2 := (4, [vR y, vI 4, vI 0, vU, vU, vU, vU], [vI 4, vI 0], aq_h m s F c)) rfl rfl ?_
  refine am_E.go (t2 := (7, [vR y, vI 4, vI 0, vU, vU, vU, vU], [], aq_h m s F c)) rfl rfl ?_
  refine am_E.go (t2 := (8, [vR y, vI 4, vI 0, vU, vU, vU, vU], [vR y], aq_h m s F c)) rfl rfl ?_
  refine aq_gf (v := vR (y + 13)) rfl (by omega) hFo (by decide) rfl ?_
  show am_E _ (11, [vR y, vI 4, vI 0, vU, vU, vU, vU], [vR (y + 13)], aq_h m s F c) _
  refine am_E.go (t2 := (12, [vR y, vI 4, vI 0, vU, vU, vU, vU], [vI 0, vR (y + 13)], aq_h m s F c)) rfl rfl ?_
  refine am_E.go (t2 := (13, [vR y, vI 4, vI 0, vU, vU, vU, vU], [vI 0, vI 0, vR (y + 13)], aq_h m s F c)) rfl rfl ?_
  refine aq_as (kd := 1) rfl rfl (by omega) hG13 (by omega) (by omega) rfl rfl ?_
  show am_E _ (14, [vR y, vI 4, vI 0, vU, vU, vU, vU], [], aq_h m s F (aq_u c (y + 13) 0 0)) _
  generalize hdc_1 : aq_u c (y + 13) 0 0 = c_1
  have sc_1 := aq_smu (aq_sm0 (c := c) (S := fun a => a = y + 13)) hdc_1 rfl
  have mtc_1 := mt_0 hmt hdc_1
  refine am_E.go (t2 := (17, [vR y, vI 4, vI 1, vU, vU, vU, vU], [], aq_h m s F c_1)) rfl rfl ?_
  refine am_E.go (t2 := (2, [vR y, vI 4, vI 1, vU, vU, vU, vU], [], aq_h m s F c_1)) rfl rfl ?_
  refine am_E.go (t2 := (3, [vR y, vI 4, vI 1, vU, vU, vU, vU], [vI 1], aq_h m s F c_1)) rfl rfl ?_
  refine am_E.go (t2 := (4, [vR y, vI 4, vI 1, vU, vU, vU, vU], [vI 4, vI 1], aq_h m s F c_1)) rfl rfl ?_
  refine am_E.go (t2 := (7, [vR y, vI 4, vI 1, vU, vU, vU, vU], [], aq_h m s F c_1)) rfl rfl ?_
  refine am_E.go (t2 := (8, [vR y, vI 4, vI 1, vU, vU, vU, vU], [vR y], aq_h m s F c_1)) rfl rfl ?_
  refine aq_gf (v := vR (y + 13)) rfl (by omega) hFo (by decide) rfl ?_
  show am_E _ (11, [vR y, vI 4, vI 1, vU, vU, vU, vU], [vR (y + 13)], aq_h m s F c_1) _
  refine am_E.go (t2 := (12, [vR y, vI 4, vI 1, vU, vU, vU, vU], [vI 1, vR (y + 13)], aq_h m s F c_1)) rfl rfl ?_
  refine am_E.go (t2 := (13, [vR y, vI 4, vI 1, vU, vU, vU, vU], [vI 0, vI 1, vR (y + 13)], aq_h m s F c_1)) rfl rfl ?_
  refine aq_as (kd := 1) rfl rfl (by omega) hG13 (by omega) (by omega) rfl rfl ?_
  show am_E _ (14, [vR y, vI 4, vI 1, vU, vU, vU, vU], [], aq_h m s F (aq_u c_1 (y + 13) 1 0)) _
  generalize hdc_2 : aq_u c_1 (y + 13) 1 0 = c_2
  have sc_2 := aq_smu sc_1 hdc_2 rfl
  have mtc_2 := mt_1 mtc_1 hdc_2
  refine am_E.go (t2 := (17, [vR y, vI 4, vI 2, vU, vU, vU, vU], [], aq_h m s F c_2)) rfl rfl ?_
  refine am_E.go (t2 := (2, [vR y, vI 4, vI 2, vU, vU, vU, vU], [], aq_h m s F c_2)) rfl rfl ?_
  refine am_E.go (t2 := (3, [vR y, vI 4, vI 2, vU, vU, vU, vU], [vI 2], aq_h m s F c_2)) rfl rfl ?_
  refine am_E.go (t2 := (4, [vR y, vI 4, vI 2, vU, vU, vU, vU], [vI 4, vI 2], aq_h m s F c_2)) rfl rfl ?_
  refine am_E.go (t2 := (7, [vR y, vI 4, vI 2, vU, vU, vU, vU], [], aq_h m s F c_2)) rfl rfl ?_
  refine am_E.go (t2 := (8, [vR y, vI 4, vI 2, vU, vU, vU, vU], [vR y], aq_h m s F c_2)) rfl rfl ?_
  refine aq_gf (v := vR (y + 13)) rfl (by omega) hFo (by decide) rfl ?_
  show am_E _ (11, [vR y, vI 4, vI 2, vU, vU, vU, vU], [vR (y + 13)], aq_h m s F c_2) _
  refine am_E.go (t2 := (12, [vR y, vI 4, vI 2, vU, vU, vU, vU], [vI 2, vR (y + 13)], aq_h m s F c_2)) rfl rfl ?_
  refine am_E.go (t2 := (13, [vR y, vI 4, vI 2, vU, vU, vU, vU], [vI 0, vI 2, vR (y + 13)], aq_h m s F c_2)) rfl rfl ?_
  refine aq_as (kd := 1) rfl rfl (by omega) hG13 (by omega) (by omega) rfl rfl ?_
  show am_E _ (14, [vR y, vI 4, vI 2, vU, vU, vU, vU], [], aq_h m s F (aq_u c_2 (y + 13) 2 0)) _
  generalize hdc_3 : aq_u c_2 (y + 13) 2 0 = c_3
  have sc_3 := aq_smu sc_2 hdc_3 rfl
  have mtc_3 := mt_2 mtc_2 hdc_3
  refine am_E.go (t2 := (17, [vR y, vI 4, vI 3, vU, vU, vU, vU], [], aq_h m s F c_3)) rfl rfl ?_
  refine am_E.go (t2 := (2, [vR y, vI 4, vI 3, vU, vU, vU, vU], [], aq_h m s F c_3)) rfl rfl ?_
  refine am_E.go (t2 := (3, [vR y, vI 4, vI 3, vU, vU, vU, vU], [vI 3], aq_h m s F c_3)) rfl rfl ?_
  refine am_E.go (t2 := (4, [vR y, vI 4, vI 3, vU, vU, vU, vU], [vI 4, vI 3], aq_h m s F c_3)) rfl rfl ?_
  refine am_E.go (t2 := (7, [vR y, vI 4, vI 3, vU, vU, vU, vU], [], aq_h m s F c_3)) rfl rfl ?_
  refine am_E.go (t2 := (8, [vR y, vI 4, vI 3, vU, vU, vU, vU], [vR y], aq_h m s F c_3)) rfl rfl ?_
  refine aq_gf (v := vR (y + 13)) rfl (by omega) hFo (by decide) rfl ?_
  show am_E _ (11, [vR y, vI 4, vI 3, vU, vU, vU, vU], [vR (y + 13)], aq_h m s F c_3) _
  refine am_E.go (t2 := (12, [vR y, vI 4, vI 3, vU, vU, vU, vU], [vI 3, vR (y + 13)], aq_h m s F c_3)) rfl rfl ?_
  refine am_E.go (t2 := (13, [vR y, vI 4, vI 3, vU, vU, vU, vU], [vI 0, vI 3, vR (y + 13)], aq_h m s F c_3)) rfl rfl ?_
  refine aq_as (kd := 1) rfl rfl (by omega) hG13 (by omega) (by omega) rfl rfl ?_
  show am_E _ (14, [vR y, vI 4, vI 3, vU, vU, vU, vU], [], aq_h m s F (aq_u c_3 (y + 13) 3 0)) _
  generalize hdc_4 : aq_u c_3 (y + 13) 3 0 = c_4
  have sc_4 := aq_smu sc_3 hdc_4 rfl
  have mtc_4 := mt_3 mtc_3 hdc_4
  refine am_E.go (t2 := (17, [vR y, vI 4, vI 4, vU, vU, vU, vU], [], aq_h m s F c_4)) rfl rfl ?_
  refine am_E.go (t2 := (2, [vR y, vI 4, vI 4, vU, vU, vU, vU], [], aq_h m s F c_4)) rfl rfl ?_
  refine am_E.go (t2 := (3, [vR y, vI 4, vI 4, vU, vU, vU, vU], [vI 4], aq_h m s F c_4)) rfl rfl ?_
  refine am_E.go (t2 := (4, [vR y, vI 4, vI 4, vU, vU, vU, vU], [vI 4, vI 4], aq_h m s F c_4)) rfl rfl ?_
  refine am_E.go (t2 := (20, [vR y, vI 4, vI 4, vU, vU, vU, vU], [], aq_h m s F c_4)) rfl rfl ?_
  refine am_E.go (t2 := (21, [vR y, vI 4, vI 4, vU, vU, vU, vU], [vI 0], aq_h m s F c_4)) rfl rfl ?_
  refine am_E.go (t2 := (22, [vR y, vI 4, vI 0, vU, vU, vU, vU], [], aq_h m s F c_4)) rfl rfl ?_
  refine am_E.go (t2 := (23, [vR y, vI 4, vI 0, vU, vU, vU, vU], [vI 0], aq_h m s F c_4)) rfl rfl ?_
  refine am_E.go (t2 := (24, [vR y, vI 4, vI 0, vU, vU, vU, vU], [vI 4, vI 0], aq_h m s F c_4)) rfl rfl ?_
  refine am_E.go (t2 := (27, [vR y, vI 4, vI 0, vU, vU, vU, vU], [], aq_h m s F c_4)) rfl rfl ?_
  refine am_E.go (t2 := (28, [vR y, vI 4, vI 0, vU, vU, vU, vU], [vR y], aq_h m s F c_4)) rfl rfl ?_
  refine aq_gf (v := vR (y + 18)) rfl (by omega) hFo (by decide) rfl ?_
  show am_E _ (31, [vR y, vI 4, vI 0, vU, vU, vU, vU], [vR (y + 18)], aq_h m s F c_4) _
  refine am_E.go (t2 := (32, [vR y, vI 4, vI 0, vU, vU, vU, vU], [vI 0, vR (y + 18)], aq_h m s F c_4)) rfl rfl ?_
  refine aq_al (ok := fun k => k == 0) (v := vI (c_4 (y + 18) 0)) rfl rfl (by omega) hG18 rfl (by decide) (by decide) rfl ?_
  rw [sc_4 (y + 18) (by omega), hA0]
  show am_E _ (33, [vR y, vI 4, vI 0, vU, vU, vU, vU], [vI 1], aq_h m s F c_4) _
  refine am_E.go (t2 := (34, [vR y, vI 4, vI 0, vU, vU, vU, vU], [vI 4, vI 1], aq_h m s F c_4)) rfl rfl ?_
  refine am_E.go (t2 := (130, [vR y, vI 4, vI 0, vU, vU, vU, vU], [], aq_h m s F c_4)) rfl rfl ?_
  refine am_E.go (t2 := (133, [vR y, vI 4, vI 1, vU, vU, vU, vU], [], aq_h m s F c_4)) rfl rfl ?_
  refine am_E.go (t2 := (22, [vR y, vI 4, vI 1, vU, vU, vU, vU], [], aq_h m s F c_4)) rfl rfl ?_
  refine am_E.go (t2 := (23, [vR y, vI 4, vI 1, vU, vU, vU, vU], [vI 1], aq_h m s F c_4)) rfl rfl ?_
  refine am_E.go (t2 := (24, [vR y, vI 4, vI 1, vU, vU, vU, vU], [vI 4, vI 1], aq_h m s F c_4)) rfl rfl ?_
  refine am_E.go (t2 := (27, [vR y, vI 4, vI 1, vU, vU, vU, vU], [], aq_h m s F c_4)) rfl rfl ?_
  refine am_E.go (t2 := (28, [vR y, vI 4, vI 1, vU, vU, vU, vU], [vR y], aq_h m s F c_4)) rfl rfl ?_
  refine aq_gf (v := vR (y + 18)) rfl (by omega) hFo (by decide) rfl ?_
  show am_E _ (31, [vR y, vI 4, vI 1, vU, vU, vU, vU], [vR (y + 18)], aq_h m s F c_4) _
  refine am_E.go (t2 := (32, [vR y, vI 4, vI 1, vU, vU, vU, vU], [vI 1, vR (y + 18)], aq_h m s F c_4)) rfl rfl ?_
  refine aq_al (ok := fun k => k == 0) (v := vI (c_4 (y + 18) 1)) rfl rfl (by omega) hG18 rfl (by decide) (by decide) rfl ?_
  rw [sc_4 (y + 18) (by omega), hA1]
  show am_E _ (33, [vR y, vI 4, vI 1, vU, vU, vU, vU], [vI 0], aq_h m s F c_4) _
  refine am_E.go (t2 := (34, [vR y, vI 4, vI 1, vU, vU, vU, vU], [vI 4, vI 0], aq_h m s F c_4)) rfl rfl ?_
  refine am_E.go (t2 := (130, [vR y, vI 4, vI 1, vU, vU, vU, vU], [], aq_h m s F c_4)) rfl rfl ?_
  refine am_E.go (t2 := (133, [vR y, vI 4, vI 2, vU, vU, vU, vU], [], aq_h m s F c_4)) rfl rfl ?_
  refine am_E.go (t2 := (22, [vR y, vI 4, vI 2, vU, vU, vU, vU], [], aq_h m s F c_4)) rfl rfl ?_
  refine am_E.go (t2 := (23, [vR y, vI 4, vI 2, vU, vU, vU, vU], [vI 2], aq_h m s F c_4)) rfl rfl ?_
  refine am_E.go (t2 := (24, [vR y, vI 4, vI 2, vU, vU, vU, vU], [vI 4, vI 2], aq_h m s F c_4)) rfl rfl ?_
  refine am_E.go (t2 := (27, [vR y, vI 4, vI 2, vU, vU, vU, vU], [], aq_h m s F c_4)) rfl rfl ?_
  refine am_E.go (t2 := (28, [vR y, vI 4, vI 2, vU, vU, vU, vU], [vR y], aq_h m s F c_4)) rfl rfl ?_
  refine aq_gf (v := vR (y + 18)) rfl (by omega) hFo (by decide) rfl ?_
  show am_E _ (31, [vR y, vI 4, vI 2, vU, vU, vU, vU], [vR (y + 18)], aq_h m s F c_4) _
  refine am_E.go (t2 := (32, [vR y, vI 4, vI 2, vU, vU, vU, vU], [vI 2, vR (y + 18)], aq_h m s F c_4)) rfl rfl ?_
  refine aq_al (ok := fun k => k == 0) (v := vI (c_4 (y + 18) 2)) rfl rfl (by omega) hG18 rfl (by decide) (by decide) rfl ?_
  rw [sc_4 (y + 18) (by omega), hA2]
  show am_E _ (33, [vR y, vI 4, vI 2, vU, vU, vU, vU], [vI 4], aq_h m s F c_4) _
  refine am_E.go (t2 := (34, [vR y, vI 4, vI 2, vU, vU, vU, vU], [vI 4, vI 4], aq_h m s F c_4)) rfl rfl ?_
  refine am_E.go (t2 := (37, [vR y, vI 4, vI 2, vU, vU, vU, vU], [], aq_h m s F c_4)) rfl rfl ?_
  refine am_E.go (t2 := (38, [vR y, vI 4, vI 2, vU, vU, vU, vU], [vI 2], aq_h m s F c_4)) rfl rfl ?_
  refine am_E.go (t2 := (39, [vR y, vI 4, vI 2, vI 2, vU, vU, vU], [], aq_h m s F c_4)) rfl rfl ?_
  refine am_E.go (t2 := (40, [vR y, vI 4, vI 2, vI 2, vU, vU, vU], [vI 1], aq_h m s F c_4)) rfl rfl ?_
  refine am_E.go (t2 := (42, [vR y, vI 4, vI 2, vI 2, vI 1, vU, vU], [], aq_h m s F c_4)) rfl rfl ?_
  refine am_E.go (t2 := (43, [vR y, vI 4, vI 2, vI 2, vI 1, vU, vU], [vI 1], aq_h m s F c_4)) rfl rfl ?_
  refine am_E.go (t2 := (45, [vR y, vI 4, vI 2, vI 2, vI 1, vI 1, vU], [], aq_h m s F c_4)) rfl rfl ?_
  refine am_E.go (t2 := (47, [vR y, vI 4, vI 2, vI 2, vI 1, vI 1, vU], [vI 1], aq_h m s F c_4)) rfl rfl ?_
  refine am_E.go (t2 := (50, [vR y, vI 4, vI 2, vI 2, vI 1, vI 1, vU], [], aq_h m s F c_4)) rfl rfl ?_
  refine am_E.go (t2 := (51, [vR y, vI 4, vI 2, vI 2, vI 1, vI 1, vU], [vR y], aq_h m s F c_4)) rfl rfl ?_
  refine aq_gf (v := vR (y + 13)) rfl (by omega) hFo (by decide) rfl ?_
  show am_E _ (54, [vR y, vI 4, vI 2, vI 2, vI 1, vI 1, vU], [vR (y + 13)], aq_h m s F c_4) _
  refine am_E.go (t2 := (55, [vR y, vI 4, vI 2, vI 2, vI 1, vI 1, vU], [vI 2, vR (y + 13)], aq_h m s F c_4)) rfl rfl ?_
  refine am_E.go (t2 := (56, [vR y, vI 4, vI 2, vI 2, vI 1, vI 1, vU], [vI 1, vI 2, vR (y + 13)], aq_h m s F c_4)) rfl rfl ?_
  refine aq_as (kd := 1) rfl rfl (by omega) hG13 (by omega) (by omega) rfl rfl ?_
  show am_E _ (57, [vR y, vI 4, vI 2, vI 2, vI 1, vI 1, vU], [], aq_h m s F (aq_u c_4 (y + 13) 2 1)) _
  generalize hdc_5 : aq_u c_4 (y + 13) 2 1 = c_5
  have sc_5 := aq_smu sc_4 hdc_5 rfl
  have mtc_5 := mt_2 mtc_4 hdc_5
  refine am_E.go (t2 := (59, [vR y, vI 4, vI 2, vI 2, vI 1, vI 1, vU], [vI 1], aq_h m s F c_5)) rfl rfl ?_
  refine am_E.go (t2 := (62, [vR y, vI 4, vI 2, vI 2, vI 1, vI 1, vU], [], aq_h m s F c_5)) rfl rfl ?_
  refine am_E.go (t2 := (63, [vR y, vI 4, vI 2, vI 2, vI 1, vI 1, vU], [vR y], aq_h m s F c_5)) rfl rfl ?_
  refine aq_gf (v := vR (y + 19)) rfl (by omega) hFo (by decide) rfl ?_
  show am_E _ (66, [vR y, vI 4, vI 2, vI 2, vI 1, vI 1, vU], [vR (y + 19)], aq_h m s F c_5) _
  refine am_E.go (t2 := (67, [vR y, vI 4, vI 2, vI 2, vI 1, vI 1, vU], [vI 2, vR (y + 19)], aq_h m s F c_5)) rfl rfl ?_
  refine aq_al (ok := fun k => k == 0) (v := vI (c_5 (y + 19) 2)) rfl rfl (by omega) hG19 rfl (by decide) (by decide) rfl ?_
  rw [sc_5 (y + 19) (by omega), hB2]
  show am_E _ (68, [vR y, vI 4, vI 2, vI 2, vI 1, vI 1, vU], [vI 3], aq_h m s F c_5) _
  refine am_E.go (t2 := (77, [vR y, vI 4, vI 2, vI 2, vI 1, vI 1, vU], [vI 3], aq_h m s F c_5)) rfl rfl ?_
  refine am_E.go (t2 := (79, [vR y, vI 4, vI 2, vI 2, vI 1, vI 1, vI 3], [], aq_h m s F c_5)) rfl rfl ?_
  refine am_E.go (t2 := (81, [vR y, vI 4, vI 2, vI 2, vI 1, vI 1, vI 3], [vI 3], aq_h m s F c_5)) rfl rfl ?_
  refine am_E.go (t2 := (82, [vR y, vI 4, vI 2, vI 2, vI 1, vI 1, vI 3], [vI 4, vI 3], aq_h m s F c_5)) rfl rfl ?_
  refine am_E.go (t2 := (85, [vR y, vI 4, vI 2, vI 2, vI 1, vI 1, vI 3], [], aq_h m s F c_5)) rfl rfl ?_
  refine am_E.go (t2 := (86, [vR y, vI 4, vI 2, vI 2, vI 1, vI 1, vI 3], [vI 1], aq_h m s F c_5)) rfl rfl ?_
  refine am_E.go (t2 := (90, [vR y, vI 4, vI 2, vI 2, vI 1, vI 1, vI 3], [vI 1], aq_h m s F c_5)) rfl rfl ?_
  refine am_E.go (t2 := (92, [vR y, vI 4, vI 2, vI 2, vI 1, vI 1, vI 3], [], aq_h m s F c_5)) rfl rfl ?_
  refine am_E.go (t2 := (94, [vR y, vI 4, vI 2, vI 2, vI 1, vI 1, vI 3], [vI 1], aq_h m s F c_5)) rfl rfl ?_
  refine am_E.go (t2 := (97, [vR y, vI 4, vI 2, vI 2, vI 1, vI 1, vI 3], [], aq_h m s F c_5)) rfl rfl ?_
  refine am_E.go (t2 := (99, [vR y, vI 4, vI 2, vI 2, vI 1, vI 1, vI 3], [vI 3], aq_h m s F c_5)) rfl rfl ?_
  refine am_E.go (t2 := (100, [vR y, vI 4, vI 2, vI 3, vI 1, vI 1, vI 3], [], aq_h m s F c_5)) rfl rfl ?_
  refine am_E.go (t2 := (102, [vR y, vI 4, vI 2, vI 3, vI 1, vI 1, vI 3], [vI 1], aq_h m s F c_5)) rfl rfl ?_
  refine am_E.go (t2 := (109, [vR y, vI 4, vI 2, vI 3, vI 1, vI 1, vI 3], [], aq_h m s F c_5)) rfl rfl ?_
  refine am_E.go (t2 := (110, [vR y, vI 4, vI 2, vI 3, vI 1, vI 1, vI 3], [vI 0], aq_h m s F c_5)) rfl rfl ?_
  refine am_E.go (t2 := (112, [vR y, vI 4, vI 2, vI 3, vI 0, vI 1, vI 3], [], aq_h m s F c_5)) rfl rfl ?_
  refine am_E.go (t2 := (45, [vR y, vI 4, vI 2, vI 3, vI 0, vI 1, vI 3], [], aq_h m s F c_5)) rfl rfl ?_
  refine am_E.go (t2 := (47, [vR y, vI 4, vI 2, vI 3, vI 0, vI 1, vI 3], [vI 1], aq_h m s F c_5)) rfl rfl ?_
  refine am_E.go (t2 := (50, [vR y, vI 4, vI 2, vI 3, vI 0, vI 1, vI 3], [], aq_h m s F c_5)) rfl rfl ?_
  refine am_E.go (t2 := (51, [vR y, vI 4, vI 2, vI 3, vI 0, vI 1, vI 3], [vR y], aq_h m s F c_5)) rfl rfl ?_
  refine aq_gf (v := vR (y + 13)) rfl (by omega) hFo (by decide) rfl ?_
  show am_E _ (54, [vR y, vI 4, vI 2, vI 3, vI 0, vI 1, vI 3], [vR (y + 13)], aq_h m s F c_5) _
  refine am_E.go (t2 := (55, [vR y, vI 4, vI 2, vI 3, vI 0, vI 1, vI 3], [vI 3, vR (y + 13)], aq_h m s F c_5)) rfl rfl ?_
  refine am_E.go (t2 := (56, [vR y, vI 4, vI 2, vI 3, vI 0, vI 1, vI 3], [vI 1, vI 3, vR (y + 13)], aq_h m s F c_5)) rfl rfl ?_
  refine aq_as (kd := 1) rfl rfl (by omega) hG13 (by omega) (by omega) rfl rfl ?_
  show am_E _ (57, [vR y, vI 4, vI 2, vI 3, vI 0, vI 1, vI 3], [], aq_h m s F (aq_u c_5 (y + 13) 3 1)) _
  generalize hdc_6 : aq_u c_5 (y + 13) 3 1 = c_6
  have sc_6 := aq_smu sc_5 hdc_6 rfl
  have mtc_6 := mt_3 mtc_5 hdc_6
  refine am_E.go (t2 := (59, [vR y, vI 4, vI 2, vI 3, vI 0, vI 1, vI 3], [vI 0], aq_h m s F c_6)) rfl rfl ?_
  refine am_E.go (t2 := (71, [vR y, vI 4, vI 2, vI 3, vI 0, vI 1, vI 3], [], aq_h m s F c_6)) rfl rfl ?_
  refine am_E.go (t2 := (72, [vR y, vI 4, vI 2, vI 3, vI 0, vI 1, vI 3], [vR y], aq_h m s F c_6)) rfl rfl ?_
  refine aq_gf (v := vR (y + 18)) rfl (by omega) hFo (by decide) rfl ?_
  show am_E _ (75, [vR y, vI 4, vI 2, vI 3, vI 0, vI 1, vI 3], [vR (y + 18)], aq_h m s F c_6) _
  refine am_E.go (t2 := (76, [vR y, vI 4, vI 2, vI 3, vI 0, vI 1, vI 3], [vI 3, vR (y + 18)], aq_h m s F c_6)) rfl rfl ?_
  refine aq_al (ok := fun k => k == 0) (v := vI (c_6 (y + 18) 3)) rfl rfl (by omega) hG18 rfl (by decide) (by decide) rfl ?_
  rw [sc_6 (y + 18) (by omega), hA3]
  show am_E _ (77, [vR y, vI 4, vI 2, vI 3, vI 0, vI 1, vI 3], [vI 4], aq_h m s F c_6) _
  refine am_E.go (t2 := (79, [vR y, vI 4, vI 2, vI 3, vI 0, vI 1, vI 4], [], aq_h m s F c_6)) rfl rfl ?_
  refine am_E.go (t2 := (81, [vR y, vI 4, vI 2, vI 3, vI 0, vI 1, vI 4], [vI 4], aq_h m s F c_6)) rfl rfl ?_
  refine am_E.go (t2 := (82, [vR y, vI 4, vI 2, vI 3, vI 0, vI 1, vI 4], [vI 4, vI 4], aq_h m s F c_6)) rfl rfl ?_
  refine am_E.go (t2 := (89, [vR y, vI 4, vI 2, vI 3, vI 0, vI 1, vI 4], [], aq_h m s F c_6)) rfl rfl ?_
  refine am_E.go (t2 := (90, [vR y, vI 4, vI 2, vI 3, vI 0, vI 1, vI 4], [vI 0], aq_h m s F c_6)) rfl rfl ?_
  refine am_E.go (t2 := (92, [vR y, vI 4, vI 2, vI 3, vI 0, vI 0, vI 4], [], aq_h m s F c_6)) rfl rfl ?_
  refine am_E.go (t2 := (94, [vR y, vI 4, vI 2, vI 3, vI 0, vI 0, vI 4], [vI 0], aq_h m s F c_6)) rfl rfl ?_
  refine am_E.go (t2 := (112, [vR y, vI 4, vI 2, vI 3, vI 0, vI 0, vI 4], [], aq_h m s F c_6)) rfl rfl ?_
  refine am_E.go (t2 := (45, [vR y, vI 4, vI 2, vI 3, vI 0, vI 0, vI 4], [], aq_h m s F c_6)) rfl rfl ?_
  refine am_E.go (t2 := (47, [vR y, vI 4, vI 2, vI 3, vI 0, vI 0, vI 4], [vI 0], aq_h m s F c_6)) rfl rfl ?_
  refine am_E.go (t2 := (115, [vR y, vI 4, vI 2, vI 3, vI 0, vI 0, vI 4], [], aq_h m s F c_6)) rfl rfl ?_
  refine am_E.go (t2 := (116, [vR y, vI 4, vI 2, vI 3, vI 0, vI 0, vI 4], [vR y], aq_h m s F c_6)) rfl rfl ?_
  refine aq_gf (v := vR (y + 13)) rfl (by omega) hFo (by decide) rfl ?_
  show am_E _ (119, [vR y, vI 4, vI 2, vI 3, vI 0, vI 0, vI 4], [vR (y + 13)], aq_h m s F c_6) _
  refine am_E.go (t2 := (120, [vR y, vI 4, vI 2, vI 3, vI 0, vI 0, vI 4], [vI 3, vR (y + 13)], aq_h m s F c_6)) rfl rfl ?_
  refine am_E.go (t2 := (121, [vR y, vI 4, vI 2, vI 3, vI 0, vI 0, vI 4], [vI 1, vI 3, vR (y + 13)], aq_h m s F c_6)) rfl rfl ?_
  refine aq_as (kd := 1) rfl rfl (by omega) hG13 (by omega) (by omega) rfl rfl ?_
  show am_E _ (122, [vR y, vI 4, vI 2, vI 3, vI 0, vI 0, vI 4], [], aq_h m s F (aq_u c_6 (y + 13) 3 1)) _
  generalize hdc_7 : aq_u c_6 (y + 13) 3 1 = c_7
  have sc_7 := aq_smu sc_6 hdc_7 rfl
  have mtc_7 := mt_3 mtc_6 hdc_7
  refine am_E.go (t2 := (124, [vR y, vI 4, vI 2, vI 3, vI 0, vI 0, vI 4], [vI 0], aq_h m s F c_7)) rfl rfl ?_
  refine am_E.go (t2 := (127, [vR y, vI 4, vI 2, vI 3, vI 0, vI 0, vI 4], [], aq_h m s F c_7)) rfl rfl ?_
  refine am_E.go (t2 := (129, [vR y, vI 4, vI 2, vI 3, vI 0, vI 0, vI 4], [vI (-4)], aq_h m s F c_7)) rfl rfl ?_
  refine am_E.ret rfl rfl ?_
  exact ⟨_, rfl, sc_7, rfl⟩

theorem qm_fo_4210 {m s : Nat} {F : aq_F} {c : aq_C} {y : Nat} (hO : mo_0 m F y) (hA0 : c (y + 18) 0 = 4) (hA1 : c (y + 18) 1 = 2) (hA2 : c (y + 18) 2 = 1) (hA3 : c (y + 18) 3 = 4) (hB0 : c (y + 19) 0 = 1) (hB1 : c (y + 19) 1 = 0) (hB2 : c (y + 19) 2 = 4) (hB3 : c (y + 19) 3 = 4) : am_E ac_X5_formOf (0, [vR y, vI 4, vU, vU, vU, vU, vU], [], aq_h m s F c) (aq_Z m s F (fun a => a = y + 13) c (fun r _ => r = some (vI 0))) := by
  obtain ⟨hm, hFo, hG5, hG6, hG7, hG8, hG9, hG10, hG11, hG12, hG13, hG14, hG15, hG16, hG17, hG18, hG19, hG20, hG21, hG22, hG23⟩ := hO
  have hmt : mt_ y (c (y + 13) 0) (c (y + 13) 1) (c (y + 13) 2) (c (y + 13) 3) c := ⟨rfl, rfl, rfl, rfl⟩
  refine am_E.go (t2 := (1, [vR y, vI 4, vU, vU, vU, vU, vU], [vI 0], aq_h m s F c)) rfl rfl ?_
  refine am_E.go (t2 := (2, [vR y, vI 4, vI 0, vU, vU, vU, vU], [], aq_h m s F c)) rfl rfl ?_
  refine am_E.go (t2 := (3, [vR y, vI 4, vI 0, vU, vU, vU, vU], [vI 0], aq_h m s F c)) rfl rfl ?_
  refine am_E.go (t2 := (4, [vR y, vI 4, vI 0, vU, vU, vU, vU], [vI 4, vI 0], aq_h m s F c)) rfl rfl ?_
  refine am_E.go (t2 := (7, [vR y, vI 4, vI 0, vU, vU, vU, vU], [], aq_h m s F c)) rfl rfl ?_
  refine am_E.go (t2 := (8, [vR y, vI 4, vI 0, vU, vU, vU, vU], [vR y], aq_h m s F c)) rfl rfl ?_
  refine aq_gf (v := vR (y + 13)) rfl (by omega) hFo (by decide) rfl ?_
  show am_E _ (11, [vR y, vI 4, vI 0, vU, vU, vU, vU], [vR (y + 13)], aq_h m s F c) _
  refine am_E.go (t2 := (12, [vR y, vI 4, vI 0, vU, vU, vU, vU], [vI 0, vR (y + 13)], aq_h m s F c)) rfl rfl ?_
  refine am_E.go (t2 := (13, [vR y, vI 4, vI 0, vU, vU, vU, vU], [vI 0, vI 0, vR (y + 13)], aq_h m s F c)) rfl rfl ?_
  refine aq_as (kd := 1) rfl rfl (by omega) hG13 (by omega) (by omega) rfl rfl ?_
  show am_E _ (14, [vR y, vI 4, vI 0, vU, vU, vU, vU], [], aq_h m s F (aq_u c (y + 13) 0 0)) _
  generalize hdc_1 : aq_u c (y + 13) 0 0 = c_1
  have sc_1 := aq_smu (aq_sm0 (c := c) (S := fun a => a = y + 13)) hdc_1 rfl
  have mtc_1 := mt_0 hmt hdc_1
  refine am_E.go (t2 := (17, [vR y, vI 4, vI 1, vU, vU, vU, vU], [], aq_h m s F c_1)) rfl rfl ?_
  refine am_E.go (t2 := (2, [vR y, vI 4, vI 1, vU, vU, vU, vU], [], aq_h m s F c_1)) rfl rfl ?_
  refine am_E.go (t2 := (3, [vR y, vI 4, vI 1, vU, vU, vU, vU], [vI 1], aq_h m s F c_1)) rfl rfl ?_
  refine am_E.go (t2 := (4, [vR y, vI 4, vI 1, vU, vU, vU, vU], [vI 4, vI 1], aq_h m s F c_1)) rfl rfl ?_
  refine am_E.go (t2 := (7, [vR y, vI 4, vI 1, vU, vU, vU, vU], [], aq_h m s F c_1)) rfl rfl ?_
  refine am_E.go (t2 := (8, [vR y, vI 4, vI 1, vU, vU, vU, vU], [vR y], aq_h m s F c_1)) rfl rfl ?_
  refine aq_gf (v := vR (y + 13)) rfl (by omega) hFo (by decide) rfl ?_
  show am_E _ (11, [vR y, vI 4, vI 1, vU, vU, vU, vU], [vR (y + 13)], aq_h m s F c_1) _
  refine am_E.go (t2 := (12, [vR y, vI 4, vI 1, vU, vU, vU, vU], [vI 1, vR (y + 13)], aq_h m s F c_1)) rfl rfl ?_
  refine am_E.go (t2 := (13, [vR y, vI 4, vI 1, vU, vU, vU, vU], [vI 0, vI 1, vR (y + 13)], aq_h m s F c_1)) rfl rfl ?_
  refine aq_as (kd := 1) rfl rfl (by omega) hG13 (by omega) (by omega) rfl rfl ?_
  show am_E _ (14, [vR y, vI 4, vI 1, vU, vU, vU, vU], [], aq_h m s F (aq_u c_1 (y + 13) 1 0)) _
  generalize hdc_2 : aq_u c_1 (y + 13) 1 0 = c_2
  have sc_2 := aq_smu sc_1 hdc_2 rfl
  have mtc_2 := mt_1 mtc_1 hdc_2
  refine am_E.go (t2 := (17, [vR y, vI 4, vI 2, vU, vU, vU, vU], [], aq_h m s F c_2)) rfl rfl ?_
  refine am_E.go (t2 := (2, [vR y, vI 4, vI 2, vU, vU, vU, vU], [], aq_h m s F c_2)) rfl rfl ?_
  refine am_E.go (t2 := (3, [vR y, vI 4, vI 2, vU, vU, vU, vU], [vI 2], aq_h m s F c_2)) rfl rfl ?_
  refine am_E.go (t2 := (4, [vR y, vI 4, vI 2, vU, vU, vU, vU], [vI 4, vI 2], aq_h m s F c_2)) rfl rfl ?_
  refine am_E.go (t2 := (7, [vR y, vI 4, vI 2, vU, vU, vU, vU], [], aq_h m s F c_2)) rfl rfl ?_
  refine am_E.go (t2 := (8, [vR y, vI 4, vI 2, vU, vU, vU, vU], [vR y], aq_h m s F c_2)) rfl rfl ?_
  refine aq_gf (v := vR (y + 13)) rfl (by omega) hFo (by decide) rfl ?_
  show am_E _ (11, [vR y, vI 4, vI 2, vU, vU, vU, vU], [vR (y + 13)], aq_h m s F c_2) _
  refine am_E.go (t2 := (12, [vR y, vI 4, vI 2, vU, vU, vU, vU], [vI 2, vR (y + 13)], aq_h m s F c_2)) rfl rfl ?_
  refine am_E.go (t2 := (13, [vR y, vI 4, vI 2, vU, vU, vU, vU], [vI 0, vI 2, vR (y + 13)], aq_h m s F c_2)) rfl rfl ?_
  refine aq_as (kd := 1) rfl rfl (by omega) hG13 (by omega) (by omega) rfl rfl ?_
  show am_E _ (14, [vR y, vI 4, vI 2, vU, vU, vU, vU], [], aq_h m s F (aq_u c_2 (y + 13) 2 0)) _
  generalize hdc_3 : aq_u c_2 (y + 13) 2 0 = c_3
  have sc_3 := aq_smu sc_2 hdc_3 rfl
  have mtc_3 := mt_2 mtc_2 hdc_3
  refine am_E.go (t2 := (17, [vR y, vI 4, vI 3, vU, vU, vU, vU], [], aq_h m s F c_3)) rfl rfl ?_
  refine am_E.go (t2 := (2, [vR y, vI 4, vI 3, vU, vU, vU, vU], [], aq_h m s F c_3)) rfl rfl ?_
  refine am_E.go (t2 := (3, [vR y, vI 4, vI 3, vU, vU, vU, vU], [vI 3], aq_h m s F c_3)) rfl rfl ?_
  refine am_E.go (t2 := (4, [vR y, vI 4, vI 3, vU, vU, vU, vU], [vI 4, vI 3], aq_h m s F c_3)) rfl rfl ?_
  refine am_E.go (t2 := (7, [vR y, vI 4, vI 3, vU, vU, vU, vU], [], aq_h m s F c_3)) rfl rfl ?_
  refine am_E.go (t2 := (8, [vR y, vI 4, vI 3, vU, vU, vU, vU], [vR y], aq_h m s F c_3)) rfl rfl ?_
  refine aq_gf (v := vR (y + 13)) rfl (by omega) hFo (by decide) rfl ?_
  show am_E _ (11, [vR y, vI 4, vI 3, vU, vU, vU, vU], [vR (y + 13)], aq_h m s F c_3) _
  refine am_E.go (t2 := (12, [vR y, vI 4, vI 3, vU, vU, vU, vU], [vI 3, vR (y + 13)], aq_h m s F c_3)) rfl rfl ?_
  refine am_E.go (t2 := (13, [vR y, vI 4, vI 3, vU, vU, vU, vU], [vI 0, vI 3, vR (y + 13)], aq_h m s F c_3)) rfl rfl ?_
  refine aq_as (kd := 1) rfl rfl (by omega) hG13 (by omega) (by omega) rfl rfl ?_
  show am_E _ (14, [vR y, vI 4, vI 3, vU, vU, vU, vU], [], aq_h m s F (aq_u c_3 (y + 13) 3 0)) _
  generalize hdc_4 : aq_u c_3 (y + 13) 3 0 = c_4
  have sc_4 := aq_smu sc_3 hdc_4 rfl
  have mtc_4 := mt_3 mtc_3 hdc_4
  refine am_E.go (t2 := (17, [vR y, vI 4, vI 4, vU, vU, vU, vU], [], aq_h m s F c_4)) rfl rfl ?_
  refine am_E.go (t2 := (2, [vR y, vI 4, vI 4, vU, vU, vU, vU], [], aq_h m s F c_4)) rfl rfl ?_
  refine am_E.go (t2 := (3, [vR y, vI 4, vI 4, vU, vU, vU, vU], [vI 4], aq_h m s F c_4)) rfl rfl ?_
  refine am_E.go (t2 := (4, [vR y, vI 4, vI 4, vU, vU, vU, vU], [vI 4, vI 4], aq_h m s F c_4)) rfl rfl ?_
  refine am_E.go (t2 := (20, [vR y, vI 4, vI 4, vU, vU, vU, vU], [], aq_h m s F c_4)) rfl rfl ?_
  refine am_E.go (t2 := (21, [vR y, vI 4, vI 4, vU, vU, vU, vU], [vI 0], aq_h m s F c_4)) rfl rfl ?_
  refine am_E.go (t2 := (22, [vR y, vI 4, vI 0, vU, vU, vU, vU], [], aq_h m s F c_4)) rfl rfl ?_
  refine am_E.go (t2 := (23, [vR y, vI 4, vI 0, vU, vU, vU, vU], [vI 0], aq_h m s F c_4)) rfl rfl ?_
  refine am_E.go (t2 := (24, [vR y, vI 4, vI 0, vU, vU, vU, vU], [vI 4, vI 0], aq_h m s F c_4)) rfl rfl ?_
  refine am_E.go (t2 := (27, [vR y, vI 4, vI 0, vU, vU, vU, vU], [], aq_h m s F c_4)) rfl rfl ?_
  refine am_E.go (t2 := (28, [vR y, vI 4, vI 0, vU, vU, vU, vU], [vR y], aq_h m s F c_4)) rfl rfl ?_
  refine aq_gf (v := vR (y + 18)) rfl (by omega) hFo (by decide) rfl ?_
  show am_E _ (31, [vR y, vI 4, vI 0, vU, vU, vU, vU], [vR (y + 18)], aq_h m s F c_4) _
  refine am_E.go (t2 := (32, [vR y, vI 4, vI 0, vU, vU, vU, vU], [vI 0, vR (y + 18)], aq_h m s F c_4)) rfl rfl ?_
  refine aq_al (ok := fun k => k == 0) (v := vI (c_4 (y + 18) 0)) rfl rfl (by omega) hG18 rfl (by decide) (by decide) rfl ?_
  rw [sc_4 (y + 18) (by omega), hA0]
  show am_E _ (33, [vR y, vI 4, vI 0, vU, vU, vU, vU], [vI 4], aq_h m s F c_4) _
  refine am_E.go (t2 := (34, [vR y, vI 4, vI 0, vU, vU, vU, vU], [vI 4, vI 4], aq_h m s F c_4)) rfl rfl ?_
  refine am_E.go (t2 := (37, [vR y, vI 4, vI 0, vU, vU, vU, vU], [], aq_h m s F c_4)) rfl rfl ?_
  refine am_E.go (t2 := (38, [vR y, vI 4, vI 0, vU, vU, vU, vU], [vI 0], aq_h m s F c_4)) rfl rfl ?_
  refine am_E.go (t2 := (39, [vR y, vI 4, vI 0, vI 0, vU, vU, vU], [], aq_h m s F c_4)) rfl rfl ?_
  refine am_E.go (t2 := (40, [vR y, vI 4, vI 0, vI 0, vU, vU, vU], [vI 1], aq_h m s F c_4)) rfl rfl ?_
  refine am_E.go (t2 := (42, [vR y, vI 4, vI 0, vI 0, vI 1, vU, vU], [], aq_h m s F c_4)) rfl rfl ?_
  refine am_E.go (t2 := (43, [vR y, vI 4, vI 0, vI 0, vI 1, vU, vU], [vI 1], aq_h m s F c_4)) rfl rfl ?_
  refine am_E.go (t2 := (45, [vR y, vI 4, vI 0, vI 0, vI 1, vI 1, vU], [], aq_h m s F c_4)) rfl rfl ?_
  refine am_E.go (t2 := (47, [vR y, vI 4, vI 0, vI 0, vI 1, vI 1, vU], [vI 1], aq_h m s F c_4)) rfl rfl ?_
  refine am_E.go (t2 := (50, [vR y, vI 4, vI 0, vI 0, vI 1, vI 1, vU], [], aq_h m s F c_4)) rfl rfl ?_
  refine am_E.go (t2 := (51, [vR y, vI 4, vI 0, vI 0, vI 1, vI 1, vU], [vR y], aq_h m s F c_4)) rfl rfl ?_
  refine aq_gf (v := vR (y + 13)) rfl (by omega) hFo (by decide) rfl ?_
  show am_E _ (54, [vR y, vI 4, vI 0, vI 0, vI 1, vI 1, vU], [vR (y + 13)], aq_h m s F c_4) _
  refine am_E.go (t2 := (55, [vR y, vI 4, vI 0, vI 0, vI 1, vI 1, vU], [vI 0, vR (y + 13)], aq_h m s F c_4)) rfl rfl ?_
  refine am_E.go (t2 := (56, [vR y, vI 4, vI 0, vI 0, vI 1, vI 1, vU], [vI 1, vI 0, vR (y + 13)], aq_h m s F c_4)) rfl rfl ?_
  refine aq_as (kd := 1) rfl rfl (by omega) hG13 (by omega) (by omega) rfl rfl ?_
  show am_E _ (57, [vR y, vI 4, vI 0, vI 0, vI 1, vI 1, vU], [], aq_h m s F (aq_u c_4 (y + 13) 0 1)) _
  generalize hdc_5 : aq_u c_4 (y + 13) 0 1 = c_5
  have sc_5 := aq_smu sc_4 hdc_5 rfl
  have mtc_5 := mt_0 mtc_4 hdc_5
  refine am_E.go (t2 := (59, [vR y, vI 4, vI 0, vI 0, vI 1, vI 1, vU], [vI 1], aq_h m s F c_5)) rfl rfl ?_
  refine am_E.go (t2 := (62, [vR y, vI 4, vI 0, vI 0, vI 1, vI 1, vU], [], aq_h m s F c_5)) rfl rfl ?_
  refine am_E.go (t2 := (63, [vR y, vI 4, vI 0, vI 0, vI 1, vI 1, vU], [vR y], aq_h m s F c_5)) rfl rfl ?_
  refine aq_gf (v := vR (y + 19)) rfl (by omega) hFo (by decide) rfl ?_
  show am_E _ (66, [vR y, vI 4, vI 0, vI 0, vI 1, vI 1, vU], [vR (y + 19)], aq_h m s F c_5) _
  refine am_E.go (t2 := (67, [vR y, vI 4, vI 0, vI 0, vI 1, vI 1, vU], [vI 0, vR (y + 19)], aq_h m s F c_5)) rfl rfl ?_
  refine aq_al (ok := fun k => k == 0) (v := vI (c_5 (y + 19) 0)) rfl rfl (by omega) hG19 rfl (by decide) (by decide) rfl ?_
  rw [sc_5 (y + 19) (by omega), hB0]
  show am_E _ (68, [vR y, vI 4, vI 0, vI 0, vI 1, vI 1, vU], [vI 1], aq_h m s F c_5) _
  refine am_E.go (t2 := (77, [vR y, vI 4, vI 0, vI 0, vI 1, vI 1, vU], [vI 1], aq_h m s F c_5)) rfl rfl ?_
  refine am_E.go (t2 := (79, [vR y, vI 4, vI 0, vI 0, vI 1, vI 1, vI 1], [], aq_h m s F c_5)) rfl rfl ?_
  refine am_E.go (t2 := (81, [vR y, vI 4, vI 0, vI 0, vI 1, vI 1, vI 1], [vI 1], aq_h m s F c_5)) rfl rfl ?_
  refine am_E.go (t2 := (82, [vR y, vI 4, vI 0, vI 0, vI 1, vI 1, vI 1], [vI 4, vI 1], aq_h m s F c_5)) rfl rfl ?_
  refine am_E.go (t2 := (85, [vR y, vI 4, vI 0, vI 0, vI 1, vI 1, vI 1], [], aq_h m s F c_5)) rfl rfl ?_
  refine am_E.go (t2 := (86, [vR y, vI 4, vI 0, vI 0, vI 1, vI 1, vI 1], [vI 1], aq_h m s F c_5)) rfl rfl ?_
  refine am_E.go (t2 := (90, [vR y, vI 4, vI 0, vI 0, vI 1, vI 1, vI 1], [vI 1], aq_h m s F c_5)) rfl rfl ?_
  refine am_E.go (t2 := (92, [vR y, vI 4, vI 0, vI 0, vI 1, vI 1, vI 1], [], aq_h m s F c_5)) rfl rfl ?_
  refine am_E.go (t2 := (94, [vR y, vI 4, vI 0, vI 0, vI 1, vI 1, vI 1], [vI 1], aq_h m s F c_5)) rfl rfl ?_
  refine am_E.go (t2 := (97, [vR y, vI 4, vI 0, vI 0, vI 1, vI 1, vI 1], [], aq_h m s F c_5)) rfl rfl ?_
  refine am_E.go (t2 := (99, [vR y, vI 4, vI 0, vI 0, vI 1, vI 1, vI 1], [vI 1], aq_h m s F c_5)) rfl rfl ?_
  refine am_E.go (t2 := (100, [vR y, vI 4, vI 0, vI 1, vI 1, vI 1, vI 1], [], aq_h m s F c_5)) rfl rfl ?_
  refine am_E.go (t2 := (102, [vR y, vI 4, vI 0, vI 1, vI 1, vI 1, vI 1], [vI 1], aq_h m s F c_5)) rfl rfl ?_
  refine am_E.go (t2 := (109, [vR y, vI 4, vI 0, vI 1, vI 1, vI 1, vI 1], [], aq_h m s F c_5)) rfl rfl ?_
  refine am_E.go (t2 := (110, [vR y, vI 4, vI 0, vI 1, vI 1, vI 1, vI 1], [vI 0], aq_h m s F c_5)) rfl rfl ?_
  refine am_E.go (t2 := (112, [vR y, vI 4, vI 0, vI 1, vI 0, vI 1, vI 1], [], aq_h m s F c_5)) rfl rfl ?_
  refine am_E.go (t2 := (45, [vR y, vI 4, vI 0, vI 1, vI 0, vI 1, vI 1], [], aq_h m s F c_5)) rfl rfl ?_
  refine am_E.go (t2 := (47, [vR y, vI 4, vI 0, vI 1, vI 0, vI 1, vI 1], [vI 1], aq_h m s F c_5)) rfl rfl ?_
  refine am_E.go (t2 := (50, [vR y, vI 4, vI 0, vI 1, vI 0, vI 1, vI 1], [], aq_h m s F c_5)) rfl rfl ?_
  refine am_E.go (t2 := (51, [vR y, vI 4, vI 0, vI 1, vI 0, vI 1, vI 1], [vR y], aq_h m s F c_5)) rfl rfl ?_
  refine aq_gf (v := vR (y + 13)) rfl (by omega) hFo (by decide) rfl ?_
  show am_E _ (54, [vR y, vI 4, vI 0, vI 1, vI 0, vI 1, vI 1], [vR (y + 13)], aq_h m s F c_5) _
  refine am_E.go (t2 := (55, [vR y, vI 4, vI 0, vI 1, vI 0, vI 1, vI 1], [vI 1, vR (y + 13)], aq_h m s F c_5)) rfl rfl ?_
  refine am_E.go (t2 := (56, [vR y, vI 4, vI 0, vI 1, vI 0, vI 1, vI 1], [vI 1, vI 1, vR (y + 13)], aq_h m s F c_5)) rfl rfl ?_
  refine aq_as (kd := 1) rfl rfl (by omega) hG13 (by omega) (by omega) rfl rfl ?_
  show am_E _ (57, [vR y, vI 4, vI 0, vI 1, vI 0, vI 1, vI 1], [], aq_h m s F (aq_u c_5 (y + 13) 1 1)) _
  generalize hdc_6 : aq_u c_5 (y + 13) 1 1 = c_6
  have sc_6 := aq_smu sc_5 hdc_6 rfl
  have mtc_6 := mt_1 mtc_5 hdc_6
  refine am_E.go (t2 := (59, [vR y, vI 4, vI 0, vI 1, vI 0, vI 1, vI 1], [vI 0], aq_h m s F c_6)) rfl rfl ?_
  refine am_E.go (t2 := (71, [vR y, vI 4, vI 0, vI 1, vI 0, vI 1, vI 1], [], aq_h m s F c_6)) rfl rfl ?_
  refine am_E.go (t2 := (72, [vR y, vI 4, vI 0, vI 1, vI 0, vI 1, vI 1], [vR y], aq_h m s F c_6)) rfl rfl ?_
  refine aq_gf (v := vR (y + 18)) rfl (by omega) hFo (by decide) rfl ?_
  show am_E _ (75, [vR y, vI 4, vI 0, vI 1, vI 0, vI 1, vI 1], [vR (y + 18)], aq_h m s F c_6) _
  refine am_E.go (t2 := (76, [vR y, vI 4, vI 0, vI 1, vI 0, vI 1, vI 1], [vI 1, vR (y + 18)], aq_h m s F c_6)) rfl rfl ?_
  refine aq_al (ok := fun k => k == 0) (v := vI (c_6 (y + 18) 1)) rfl rfl (by omega) hG18 rfl (by decide) (by decide) rfl ?_
  rw [sc_6 (y + 18) (by omega), hA1]
  show am_E _ (77, [vR y, vI 4, vI 0, vI 1, vI 0, vI 1, vI 1], [vI 2], aq_h m s F c_6) _
  refine am_E.go (t2 := (79, [vR y, vI 4, vI 0, vI 1, vI 0, vI 1, vI 2], [], aq_h m s F c_6)) rfl rfl ?_
  refine am_E.go (t2 := (81, [vR y, vI 4, vI 0, vI 1, vI 0, vI 1, vI 2], [vI 2], aq_h m s F c_6)) rfl rfl ?_
  refine am_E.go (t2 := (82, [vR y, vI 4, vI 0, vI 1, vI 0, vI 1, vI 2], [vI 4, vI 2], aq_h m s F c_6)) rfl rfl ?_
  refine am_E.go (t2 := (85, [vR y, vI 4, vI 0, vI 1, vI 0, vI 1, vI 2], [], aq_h m s F c_6)) rfl rfl ?_
  refine am_E.go (t2 := (86, [vR y, vI 4, vI 0, vI 1, vI 0, vI 1, vI 2], [vI 1], aq_h m s F c_6)) rfl rfl ?_
  refine am_E.go (t2 := (90, [vR y, vI 4, vI 0, vI 1, vI 0, vI 1, vI 2], [vI 1], aq_h m s F c_6)) rfl rfl ?_
  refine am_E.go (t2 := (92, [vR y, vI 4, vI 0, vI 1, vI 0, vI 1, vI 2], [], aq_h m s F c_6)) rfl rfl ?_
  refine am_E.go (t2 := (94, [vR y, vI 4, vI 0, vI 1, vI 0, vI 1, vI 2], [vI 1], aq_h m s F c_6)) rfl rfl ?_
  refine am_E.go (t2 := (97, [vR y, vI 4, vI 0, vI 1, vI 0, vI 1, vI 2], [], aq_h m s F c_6)) rfl rfl ?_
  refine am_E.go (t2 := (99, [vR y, vI 4, vI 0, vI 1, vI 0, vI 1, vI 2], [vI 2], aq_h m s F c_6)) rfl rfl ?_
  refine am_E.go (t2 := (100, [vR y, vI 4, vI 0, vI 2, vI 0, vI 1, vI 2], [], aq_h m s F c_6)) rfl rfl ?_
  refine am_E.go (t2 := (102, [vR y, vI 4, vI 0, vI 2, vI 0, vI 1, vI 2], [vI 0], aq_h m s F c_6)) rfl rfl ?_
  refine am_E.go (t2 := (105, [vR y, vI 4, vI 0, vI 2, vI 0, vI 1, vI 2], [], aq_h m s F c_6)) rfl rfl ?_
  refine am_E.go (t2 := (106, [vR y, vI 4, vI 0, vI 2, vI 0, vI 1, vI 2], [vI 1], aq_h m s F c_6)) rfl rfl ?_
  refine am_E.go (t2 := (110, [vR y, vI 4, vI 0, vI 2, vI 0, vI 1, vI 2], [vI 1], aq_h m s F c_6)) rfl rfl ?_
  refine am_E.go (t2 := (112, [vR y, vI 4, vI 0, vI 2, vI 1, vI 1, vI 2], [], aq_h m s F c_6)) rfl rfl ?_
  refine am_E.go (t2 := (45, [vR y, vI 4, vI 0, vI 2, vI 1, vI 1, vI 2], [], aq_h m s F c_6)) rfl rfl ?_
  refine am_E.go (t2 := (47, [vR y, vI 4, vI 0, vI 2, vI 1, vI 1, vI 2], [vI 1], aq_h m s F c_6)) rfl rfl ?_
  refine am_E.go (t2 := (50, [vR y, vI 4, vI 0, vI 2, vI 1, vI 1, vI 2], [], aq_h m s F c_6)) rfl rfl ?_
  refine am_E.go (t2 := (51, [vR y, vI 4, vI 0, vI 2, vI 1, vI 1, vI 2], [vR y], aq_h m s F c_6)) rfl rfl ?_
  refine aq_gf (v := vR (y + 13)) rfl (by omega) hFo (by decide) rfl ?_
  show am_E _ (54, [vR y, vI 4, vI 0, vI 2, vI 1, vI 1, vI 2], [vR (y + 13)], aq_h m s F c_6) _
  refine am_E.go (t2 := (55, [vR y, vI 4, vI 0, vI 2, vI 1, vI 1, vI 2], [vI 2, vR (y + 13)], aq_h m s F c_6)) rfl rfl ?_
  refine am_E.go (t2 := (56, [vR y, vI 4, vI 0, vI 2, vI 1, vI 1, vI 2], [vI 1, vI 2, vR (y + 13)], aq_h m s F c_6)) rfl rfl ?_
  refine aq_as (kd := 1) rfl rfl (by omega) hG13 (by omega) (by omega) rfl rfl ?_
  show am_E _ (57, [vR y, vI 4, vI 0, vI 2, vI 1, vI 1, vI 2], [], aq_h m s F (aq_u c_6 (y + 13) 2 1)) _
  generalize hdc_7 : aq_u c_6 (y + 13) 2 1 = c_7
  have sc_7 := aq_smu sc_6 hdc_7 rfl
  have mtc_7 := mt_2 mtc_6 hdc_7
  refine am_E.go (t2 := (59, [vR y, vI 4, vI 0, vI 2, vI 1, vI 1, vI 2], [vI 1], aq_h m s F c_7)) rfl rfl ?_
  refine am_E.go (t2 := (62, [vR y, vI 4, vI 0, vI 2, vI 1, vI 1, vI 2], [], aq_h m s F c_7)) rfl rfl ?_
  refine am_E.go (t2 := (63, [vR y, vI 4, vI 0, vI 2, vI 1, vI 1, vI 2], [vR y], aq_h m s F c_7)) rfl rfl ?_
  refine aq_gf (v := vR (y + 19)) rfl (by omega) hFo (by decide) rfl ?_
  show am_E _ (66, [vR y, vI 4, vI 0, vI 2, vI 1, vI 1, vI 2], [vR (y + 19)], aq_h m s F c_7) _
  refine am_E.go (t2 := (67, [vR y, vI 4, vI 0, vI 2, vI 1, vI 1, vI 2], [vI 2, vR (y + 19)], aq_h m s F c_7)) rfl rfl ?_
  refine aq_al (ok := fun k => k == 0) (v := vI (c_7 (y + 19) 2)) rfl rfl (by omega) hG19 rfl (by decide) (by decide) rfl ?_
  rw [sc_7 (y + 19) (by omega), hB2]
  show am_E _ (68, [vR y, vI 4, vI 0, vI 2, vI 1, vI 1, vI 2], [vI 4], aq_h m s F c_7) _
  refine am_E.go (t2 := (77, [vR y, vI 4, vI 0, vI 2, vI 1, vI 1, vI 2], [vI 4], aq_h m s F c_7)) rfl rfl ?_
  refine am_E.go (t2 := (79, [vR y, vI 4, vI 0, vI 2, vI 1, vI 1, vI 4], [], aq_h m s F c_7)) rfl rfl ?_
  refine am_E.go (t2 := (81, [vR y, vI 4, vI 0, vI 2, vI 1, vI 1, vI 4], [vI 4], aq_h m s F c_7)) rfl rfl ?_
  refine am_E.go (t2 := (82, [vR y, vI 4, vI 0, vI 2, vI 1, vI 1, vI 4], [vI 4, vI 4], aq_h m s F c_7)) rfl rfl ?_
  refine am_E.go (t2 := (89, [vR y, vI 4, vI 0, vI 2, vI 1, vI 1, vI 4], [], aq_h m s F c_7)) rfl rfl ?_
  refine am_E.go (t2 := (90, [vR y, vI 4, vI 0, vI 2, vI 1, vI 1, vI 4], [vI 0], aq_h m s F c_7)) rfl rfl ?_
  refine am_E.go (t2 := (92, [vR y, vI 4, vI 0, vI 2, vI 1, vI 0, vI 4], [], aq_h m s F c_7)) rfl rfl ?_
  refine am_E.go (t2 := (94, [vR y, vI 4, vI 0, vI 2, vI 1, vI 0, vI 4], [vI 0], aq_h m s F c_7)) rfl rfl ?_
  refine am_E.go (t2 := (112, [vR y, vI 4, vI 0, vI 2, vI 1, vI 0, vI 4], [], aq_h m s F c_7)) rfl rfl ?_
  refine am_E.go (t2 := (45, [vR y, vI 4, vI 0, vI 2, vI 1, vI 0, vI 4], [], aq_h m s F c_7)) rfl rfl ?_
  refine am_E.go (t2 := (47, [vR y, vI 4, vI 0, vI 2, vI 1, vI 0, vI 4], [vI 0], aq_h m s F c_7)) rfl rfl ?_
  refine am_E.go (t2 := (115, [vR y, vI 4, vI 0, vI 2, vI 1, vI 0, vI 4], [], aq_h m s F c_7)) rfl rfl ?_
  refine am_E.go (t2 := (116, [vR y, vI 4, vI 0, vI 2, vI 1, vI 0, vI 4], [vR y], aq_h m s F c_7)) rfl rfl ?_
  refine aq_gf (v := vR (y + 13)) rfl (by omega) hFo (by decide) rfl ?_
  show am_E _ (119, [vR y, vI 4, vI 0, vI 2, vI 1, vI 0, vI 4], [vR (y + 13)], aq_h m s F c_7) _
  refine am_E.go (t2 := (120, [vR y, vI 4, vI 0, vI 2, vI 1, vI 0, vI 4], [vI 2, vR (y + 13)], aq_h m s F c_7)) rfl rfl ?_
  refine am_E.go (t2 := (121, [vR y, vI 4, vI 0, vI 2, vI 1, vI 0, vI 4], [vI 1, vI 2, vR (y + 13)], aq_h m s F c_7)) rfl rfl ?_
  refine aq_as (kd := 1) rfl rfl (by omega) hG13 (by omega) (by omega) rfl rfl ?_
  show am_E _ (122, [vR y, vI 4, vI 0, vI 2, vI 1, vI 0, vI 4], [], aq_h m s F (aq_u c_7 (y + 13) 2 1)) _
  generalize hdc_8 : aq_u c_7 (y + 13) 2 1 = c_8
  have sc_8 := aq_smu sc_7 hdc_8 rfl
  have mtc_8 := mt_2 mtc_7 hdc_8
  refine am_E.go (t2 := (124, [vR y, vI 4, vI 0, vI 2, vI 1, vI 0, vI 4], [vI 1], aq_h m s F c_8)) rfl rfl ?_
  refine am_E.go (t2 := (130, [vR y, vI 4, vI 0, vI 2, vI 1, vI 0, vI 4], [], aq_h m s F c_8)) rfl rfl ?_
  refine am_E.go (t2 := (133, [vR y, vI 4, vI 1, vI 2, vI 1, vI 0, vI 4], [], aq_h m s F c_8)) rfl rfl ?_
  refine am_E.go (t2 := (22, [vR y, vI 4, vI 1, vI 2, vI 1, vI 0, vI 4], [], aq_h m s F c_8)) rfl rfl ?_
  refine am_E.go (t2 := (23, [vR y, vI 4, vI 1, vI 2, vI 1, vI 0, vI 4], [vI 1], aq_h m s F c_8)) rfl rfl ?_
  refine am_E.go (t2 := (24, [vR y, vI 4, vI 1, vI 2, vI 1, vI 0, vI 4], [vI 4, vI 1], aq_h m s F c_8)) rfl rfl ?_
  refine am_E.go (t2 := (27, [vR y, vI 4, vI 1, vI 2, vI 1, vI 0, vI 4], [], aq_h m s F c_8)) rfl rfl ?_
  refine am_E.go (t2 := (28, [vR y, vI 4, vI 1, vI 2, vI 1, vI 0, vI 4], [vR y], aq_h m s F c_8)) rfl rfl ?_
  refine aq_gf (v := vR (y + 18)) rfl (by omega) hFo (by decide) rfl ?_
  show am_E _ (31, [vR y, vI 4, vI 1, vI 2, vI 1, vI 0, vI 4], [vR (y + 18)], aq_h m s F c_8) _
  refine am_E.go (t2 := (32, [vR y, vI 4, vI 1, vI 2, vI 1, vI 0, vI 4], [vI 1, vR (y + 18)], aq_h m s F c_8)) rfl rfl ?_
  refine aq_al (ok := fun k => k == 0) (v := vI (c_8 (y + 18) 1)) rfl rfl (by omega) hG18 rfl (by decide) (by decide) rfl ?_
  rw [sc_8 (y + 18) (by omega), hA1]
  show am_E _ (33, [vR y, vI 4, vI 1, vI 2, vI 1, vI 0, vI 4], [vI 2], aq_h m s F c_8) _
  refine am_E.go (t2 := (34, [vR y, vI 4, vI 1, vI 2, vI 1, vI 0, vI 4], [vI 4, vI 2], aq_h m s F c_8)) rfl rfl ?_
  refine am_E.go (t2 := (130, [vR y, vI 4, vI 1, vI 2, vI 1, vI 0, vI 4], [], aq_h m s F c_8)) rfl rfl ?_
  refine am_E.go (t2 := (133, [vR y, vI 4, vI 2, vI 2, vI 1, vI 0, vI 4], [], aq_h m s F c_8)) rfl rfl ?_
  refine am_E.go (t2 := (22, [vR y, vI 4, vI 2, vI 2, vI 1, vI 0, vI 4], [], aq_h m s F c_8)) rfl rfl ?_
  refine am_E.go (t2 := (23, [vR y, vI 4, vI 2, vI 2, vI 1, vI 0, vI 4], [vI 2], aq_h m s F c_8)) rfl rfl ?_
  refine am_E.go (t2 := (24, [vR y, vI 4, vI 2, vI 2, vI 1, vI 0, vI 4], [vI 4, vI 2], aq_h m s F c_8)) rfl rfl ?_
  refine am_E.go (t2 := (27, [vR y, vI 4, vI 2, vI 2, vI 1, vI 0, vI 4], [], aq_h m s F c_8)) rfl rfl ?_
  refine am_E.go (t2 := (28, [vR y, vI 4, vI 2, vI 2, vI 1, vI 0, vI 4], [vR y], aq_h m s F c_8)) rfl rfl ?_
  refine aq_gf (v := vR (y + 18)) rfl (by omega) hFo (by decide) rfl ?_
  show am_E _ (31, [vR y, vI 4, vI 2, vI 2, vI 1, vI 0, vI 4], [vR (y + 18)], aq_h m s F c_8) _
  refine am_E.go (t2 := (32, [vR y, vI 4, vI 2, vI 2, vI 1, vI 0, vI 4], [vI 2, vR (y + 18)], aq_h m s F c_8)) rfl rfl ?_
  refine aq_al (ok := fun k => k == 0) (v := vI (c_8 (y + 18) 2)) rfl rfl (by omega) hG18 rfl (by decide) (by decide) rfl ?_
  rw [sc_8 (y + 18) (by omega), hA2]
  show am_E _ (33, [vR y, vI 4, vI 2, vI 2, vI 1, vI 0, vI 4], [vI 1], aq_h m s F c_8) _
  refine am_E.go (t2 := (34, [vR y, vI 4, vI 2, vI 2, vI 1, vI 0, vI 4], [vI 4, vI 1], aq_h m s F c_8)) rfl rfl ?_
  refine am_E.go (t2 := (130, [vR y, vI 4, vI 2, vI 2, vI 1, vI 0, vI 4], [], aq_h m s F c_8)) rfl rfl ?_
  refine am_E.go (t2 := (133, [vR y, vI 4, vI 3, vI 2, vI 1, vI 0, vI 4], [], aq_h m s F c_8)) rfl rfl ?_
  refine am_E.go (t2 := (22, [vR y, vI 4, vI 3, vI 2, vI 1, vI 0, vI 4], [], aq_h m s F c_8)) rfl rfl ?_
  refine am_E.go (t2 := (23, [vR y, vI 4, vI 3, vI 2, vI 1, vI 0, vI 4], [vI 3], aq_h m s F c_8)) rfl rfl ?_
  refine am_E.go (t2 := (24, [vR y, vI 4, vI 3, vI 2, vI 1, vI 0, vI 4], [vI 4, vI 3], aq_h m s F c_8)) rfl rfl ?_
  refine am_E.go (t2 := (27, [vR y, vI 4, vI 3, vI 2, vI 1, vI 0, vI 4], [], aq_h m s F c_8)) rfl rfl ?_
  refine am_E.go (t2 := (28, [vR y, vI 4, vI 3, vI 2, vI 1, vI 0, vI 4], [vR y], aq_h m s F c_8)) rfl rfl ?_
  refine aq_gf (v := vR (y + 18)) rfl (by omega) hFo (by decide) rfl ?_
  show am_E _ (31, [vR y, vI 4, vI 3, vI 2, vI 1, vI 0, vI 4], [vR (y + 18)], aq_h m s F c_8) _
  refine am_E.go (t2 := (32, [vR y, vI 4, vI 3, vI 2, vI 1, vI 0, vI 4], [vI 3, vR (y + 18)], aq_h m s F c_8)) rfl rfl ?_
  refine aq_al (ok := fun k => k == 0) (v := vI (c_8 (y + 18) 3)) rfl rfl (by omega) hG18 rfl (by decide) (by decide) rfl ?_
  rw [sc_8 (y + 18) (by omega), hA3]
  show am_E _ (33, [vR y, vI 4, vI 3, vI 2, vI 1, vI 0, vI 4], [vI 4], aq_h m s F c_8) _
  refine am_E.go (t2 := (34, [vR y, vI 4, vI 3, vI 2, vI 1, vI 0, vI 4], [vI 4, vI 4], aq_h m s F c_8)) rfl rfl ?_
  refine am_E.go (t2 := (37, [vR y, vI 4, vI 3, vI 2, vI 1, vI 0, vI 4], [], aq_h m s F c_8)) rfl rfl ?_
  refine am_E.go (t2 := (38, [vR y, vI 4, vI 3, vI 2, vI 1, vI 0, vI 4], [vI 3], aq_h m s F c_8)) rfl rfl ?_
  refine am_E.go (t2 := (39, [vR y, vI 4, vI 3, vI 3, vI 1, vI 0, vI 4], [], aq_h m s F c_8)) rfl rfl ?_
  refine am_E.go (t2 := (40, [vR y, vI 4, vI 3, vI 3, vI 1, vI 0, vI 4], [vI 1], aq_h m s F c_8)) rfl rfl ?_
  refine am_E.go (t2 := (42, [vR y, vI 4, vI 3, vI 3, vI 1, vI 0, vI 4], [], aq_h m s F c_8)) rfl rfl ?_
  refine am_E.go (t2 := (43, [vR y, vI 4, vI 3, vI 3, vI 1, vI 0, vI 4], [vI 1], aq_h m s F c_8)) rfl rfl ?_
  refine am_E.go (t2 := (45, [vR y, vI 4, vI 3, vI 3, vI 1, vI 1, vI 4], [], aq_h m s F c_8)) rfl rfl ?_
  refine am_E.go (t2 := (47, [vR y, vI 4, vI 3, vI 3, vI 1, vI 1, vI 4], [vI 1], aq_h m s F c_8)) rfl rfl ?_
  refine am_E.go (t2 := (50, [vR y, vI 4, vI 3, vI 3, vI 1, vI 1, vI 4], [], aq_h m s F c_8)) rfl rfl ?_
  refine am_E.go (t2 := (51, [vR y, vI 4, vI 3, vI 3, vI 1, vI 1, vI 4], [vR y], aq_h m s F c_8)) rfl rfl ?_
  refine aq_gf (v := vR (y + 13)) rfl (by omega) hFo (by decide) rfl ?_
  show am_E _ (54, [vR y, vI 4, vI 3, vI 3, vI 1, vI 1, vI 4], [vR (y + 13)], aq_h m s F c_8) _
  refine am_E.go (t2 := (55, [vR y, vI 4, vI 3, vI 3, vI 1, vI 1, vI 4], [vI 3, vR (y + 13)], aq_h m s F c_8)) rfl rfl ?_
  refine am_E.go (t2 := (56, [vR y, vI 4, vI 3, vI 3, vI 1, vI 1, vI 4], [vI 1, vI 3, vR (y + 13)], aq_h m s F c_8)) rfl rfl ?_
  refine aq_as (kd := 1) rfl rfl (by omega) hG13 (by omega) (by omega) rfl rfl ?_
  show am_E _ (57, [vR y, vI 4, vI 3, vI 3, vI 1, vI 1, vI 4], [], aq_h m s F (aq_u c_8 (y + 13) 3 1)) _
  generalize hdc_9 : aq_u c_8 (y + 13) 3 1 = c_9
  have sc_9 := aq_smu sc_8 hdc_9 rfl
  have mtc_9 := mt_3 mtc_8 hdc_9
  refine am_E.go (t2 := (59, [vR y, vI 4, vI 3, vI 3, vI 1, vI 1, vI 4], [vI 1], aq_h m s F c_9)) rfl rfl ?_
  refine am_E.go (t2 := (62, [vR y, vI 4, vI 3, vI 3, vI 1, vI 1, vI 4], [], aq_h m s F c_9)) rfl rfl ?_
  refine am_E.go (t2 := (63, [vR y, vI 4, vI 3, vI 3, vI 1, vI 1, vI 4], [vR y], aq_h m s F c_9)) rfl rfl ?_
  refine aq_gf (v := vR (y + 19)) rfl (by omega) hFo (by decide) rfl ?_
  show am_E _ (66, [vR y, vI 4, vI 3, vI 3, vI 1, vI 1, vI 4], [vR (y + 19)], aq_h m s F c_9) _
  refine am_E.go (t2 := (67, [vR y, vI 4, vI 3, vI 3, vI 1, vI 1, vI 4], [vI 3, vR (y + 19)], aq_h m s F c_9)) rfl rfl ?_
  refine aq_al (ok := fun k => k == 0) (v := vI (c_9 (y + 19) 3)) rfl rfl (by omega) hG19 rfl (by decide) (by decide) rfl ?_
  rw [sc_9 (y + 19) (by omega), hB3]
  show am_E _ (68, [vR y, vI 4, vI 3, vI 3, vI 1, vI 1, vI 4], [vI 4], aq_h m s F c_9) _
  refine am_E.go (t2 := (77, [vR y, vI 4, vI 3, vI 3, vI 1, vI 1, vI 4], [vI 4], aq_h m s F c_9)) rfl rfl ?_
  refine am_E.go (t2 := (79, [vR y, vI 4, vI 3, vI 3, vI 1, vI 1, vI 4], [], aq_h m s F c_9)) rfl rfl ?_
  refine am_E.go (t2 := (81, [vR y, vI 4, vI 3, vI 3, vI 1, vI 1, vI 4], [vI 4], aq_h m s F c_9)) rfl rfl ?_
  refine am_E.go (t2 := (82, [vR y, vI 4, vI 3, vI 3, vI 1, vI 1, vI 4], [vI 4, vI 4], aq_h m s F c_9)) rfl rfl ?_
  refine am_E.go (t2 := (89, [vR y, vI 4, vI 3, vI 3, vI 1, vI 1, vI 4], [], aq_h m s F c_9)) rfl rfl ?_
  refine am_E.go (t2 := (90, [vR y, vI 4, vI 3, vI 3, vI 1, vI 1, vI 4], [vI 0], aq_h m s F c_9)) rfl rfl ?_
  refine am_E.go (t2 := (92, [vR y, vI 4, vI 3, vI 3, vI 1, vI 0, vI 4], [], aq_h m s F c_9)) rfl rfl ?_
  refine am_E.go (t2 := (94, [vR y, vI 4, vI 3, vI 3, vI 1, vI 0, vI 4], [vI 0], aq_h m s F c_9)) rfl rfl ?_
  refine am_E.go (t2 := (112, [vR y, vI 4, vI 3, vI 3, vI 1, vI 0, vI 4], [], aq_h m s F c_9)) rfl rfl ?_
  refine am_E.go (t2 := (45, [vR y, vI 4, vI 3, vI 3, vI 1, vI 0, vI 4], [], aq_h m s F c_9)) rfl rfl ?_
  refine am_E.go (t2 := (47, [vR y, vI 4, vI 3, vI 3, vI 1, vI 0, vI 4], [vI 0], aq_h m s F c_9)) rfl rfl ?_
  refine am_E.go (t2 := (115, [vR y, vI 4, vI 3, vI 3, vI 1, vI 0, vI 4], [], aq_h m s F c_9)) rfl rfl ?_
  refine am_E.go (t2 := (116, [vR y, vI 4, vI 3, vI 3, vI 1, vI 0, vI 4], [vR y], aq_h m s F c_9)) rfl rfl ?_
  refine aq_gf (v := vR (y + 13)) rfl (by omega) hFo (by decide) rfl ?_
  show am_E _ (119, [vR y, vI 4, vI 3, vI 3, vI 1, vI 0, vI 4], [vR (y + 13)], aq_h m s F c_9) _
  refine am_E.go (t2 := (120, [vR y, vI 4, vI 3, vI 3, vI 1, vI 0, vI 4], [vI 3, vR (y + 13)], aq_h m s F c_9)) rfl rfl ?_
  refine am_E.go (t2 := (121, [vR y, vI 4, vI 3, vI 3, vI 1, vI 0, vI 4], [vI 1, vI 3, vR (y + 13)], aq_h m s F c_9)) rfl rfl ?_
  refine aq_as (kd := 1) rfl rfl (by omega) hG13 (by omega) (by omega) rfl rfl ?_
  show am_E _ (122, [vR y, vI 4, vI 3, vI 3, vI 1, vI 0, vI 4], [], aq_h m s F (aq_u c_9 (y + 13) 3 1)) _
  generalize hdc_10 : aq_u c_9 (y + 13) 3 1 = c_10
  have sc_10 := aq_smu sc_9 hdc_10 rfl
  have mtc_10 := mt_3 mtc_9 hdc_10
  refine am_E.go (t2 := (124, [vR y, vI 4, vI 3, vI 3, vI 1, vI 0, vI 4], [vI 1], aq_h m s F c_10)) rfl rfl ?_
  refine am_E.go (t2 := (130, [vR y, vI 4, vI 3, vI 3, vI 1, vI 0, vI 4], [], aq_h m s F c_10)) rfl rfl ?_
  refine am_E.go (t2 := (133, [vR y, vI 4, vI 4, vI 3, vI 1, vI 0, vI 4], [], aq_h m s F c_10)) rfl rfl ?_
  refine am_E.go (t2 := (22, [vR y, vI 4, vI 4, vI 3, vI 1, vI 0, vI 4], [], aq_h m s F c_10)) rfl rfl ?_
  refine am_E.go (t2 := (23, [vR y, vI 4, vI 4, vI 3, vI 1, vI 0, vI 4], [vI 4], aq_h m s F c_10)) rfl rfl ?_
  refine am_E.go (t2 := (24, [vR y, vI 4, vI 4, vI 3, vI 1, vI 0, vI 4], [vI 4, vI 4], aq_h m s F c_10)) rfl rfl ?_
  refine am_E.go (t2 := (136, [vR y, vI 4, vI 4, vI 3, vI 1, vI 0, vI 4], [], aq_h m s F c_10)) rfl rfl ?_
  refine am_E.go (t2 := (137, [vR y, vI 4, vI 4, vI 3, vI 1, vI 0, vI 4], [vI 0], aq_h m s F c_10)) rfl rfl ?_
  refine am_E.go (t2 := (138, [vR y, vI 4, vI 0, vI 3, vI 1, vI 0, vI 4], [], aq_h m s F c_10)) rfl rfl ?_
  refine am_E.go (t2 := (139, [vR y, vI 4, vI 0, vI 3, vI 1, vI 0, vI 4], [vI 0], aq_h m s F c_10)) rfl rfl ?_
  refine am_E.go (t2 := (140, [vR y, vI 4, vI 0, vI 3, vI 1, vI 0, vI 4], [vI 4, vI 0], aq_h m s F c_10)) rfl rfl ?_
  refine am_E.go (t2 := (143, [vR y, vI 4, vI 0, vI 3, vI 1, vI 0, vI 4], [], aq_h m s F c_10)) rfl rfl ?_
  refine am_E.go (t2 := (144, [vR y, vI 4, vI 0, vI 3, vI 1, vI 0, vI 4], [vR y], aq_h m s F c_10)) rfl rfl ?_
  refine aq_gf (v := vR (y + 13)) rfl (by omega) hFo (by decide) rfl ?_
  show am_E _ (147, [vR y, vI 4, vI 0, vI 3, vI 1, vI 0, vI 4], [vR (y + 13)], aq_h m s F c_10) _
  refine am_E.go (t2 := (148, [vR y, vI 4, vI 0, vI 3, vI 1, vI 0, vI 4], [vI 0, vR (y + 13)], aq_h m s F c_10)) rfl rfl ?_
  refine aq_al (ok := fun k => k == 1) (v := vI (c_10 (y + 13) 0)) rfl rfl (by omega) hG13 rfl (by decide) (by decide) rfl ?_
  rw [mtc_10.1]
  show am_E _ (149, [vR y, vI 4, vI 0, vI 3, vI 1, vI 0, vI 4], [vI 1], aq_h m s F c_10) _
  refine am_E.go (t2 := (165, [vR y, vI 4, vI 0, vI 3, vI 1, vI 0, vI 4], [], aq_h m s F c_10)) rfl rfl ?_
  refine am_E.go (t2 := (168, [vR y, vI 4, vI 1, vI 3, vI 1, vI 0, vI 4], [], aq_h m s F c_10)) rfl rfl ?_
  refine am_E.go (t2 := (138, [vR y, vI 4, vI 1, vI 3, vI 1, vI 0, vI 4], [], aq_h m s F c_10)) rfl rfl ?_
  refine am_E.go (t2 := (139, [vR y, vI 4, vI 1, vI 3, vI 1, vI 0, vI 4], [vI 1], aq_h m s F c_10)) rfl rfl ?_
  refine am_E.go (t2 := (140, [vR y, vI 4, vI 1, vI 3, vI 1, vI 0, vI 4], [vI 4, vI 1], aq_h m s F c_10)) rfl rfl ?_
  refine am_E.go (t2 := (143, [vR y, vI 4, vI 1, vI 3, vI 1, vI 0, vI 4], [], aq_h m s F c_10)) rfl rfl ?_
  refine am_E.go (t2 := (144, [vR y, vI 4, vI 1, vI 3, vI 1, vI 0, vI 4], [vR y], aq_h m s F c_10)) rfl rfl ?_
  refine aq_gf (v := vR (y + 13)) rfl (by omega) hFo (by decide) rfl ?_
  show am_E _ (147, [vR y, vI 4, vI 1, vI 3, vI 1, vI 0, vI 4], [vR (y + 13)], aq_h m s F c_10) _
  refine am_E.go (t2 := (148, [vR y, vI 4, vI 1, vI 3, vI 1, vI 0, vI 4], [vI 1, vR (y + 13)], aq_h m s F c_10)) rfl rfl ?_
  refine aq_al (ok := fun k => k == 1) (v := vI (c_10 (y + 13) 1)) rfl rfl (by omega) hG13 rfl (by decide) (by decide) rfl ?_
  rw [mtc_10.2.1]
  show am_E _ (149, [vR y, vI 4, vI 1, vI 3, vI 1, vI 0, vI 4], [vI 1], aq_h m s F c_10) _
  refine am_E.go (t2 := (165, [vR y, vI 4, vI 1, vI 3, vI 1, vI 0, vI 4], [], aq_h m s F c_10)) rfl rfl ?_
  refine am_E.go (t2 := (168, [vR y, vI 4, vI 2, vI 3, vI 1, vI 0, vI 4], [], aq_h m s F c_10)) rfl rfl ?_
  refine am_E.go (t2 := (138, [vR y, vI 4, vI 2, vI 3, vI 1, vI 0, vI 4], [], aq_h m s F c_10)) rfl rfl ?_
  refine am_E.go (t2 := (139, [vR y, vI 4, vI 2, vI 3, vI 1, vI 0, vI 4], [vI 2], aq_h m s F c_10)) rfl rfl ?_
  refine am_E.go (t2 := (140, [vR y, vI 4, vI 2, vI 3, vI 1, vI 0, vI 4], [vI 4, vI 2], aq_h m s F c_10)) rfl rfl ?_
  refine am_E.go (t2 := (143, [vR y, vI 4, vI 2, vI 3, vI 1, vI 0, vI 4], [], aq_h m s F c_10)) rfl rfl ?_
  refine am_E.go (t2 := (144, [vR y, vI 4, vI 2, vI 3, vI 1, vI 0, vI 4], [vR y], aq_h m s F c_10)) rfl rfl ?_
  refine aq_gf (v := vR (y + 13)) rfl (by omega) hFo (by decide) rfl ?_
  show am_E _ (147, [vR y, vI 4, vI 2, vI 3, vI 1, vI 0, vI 4], [vR (y + 13)], aq_h m s F c_10) _
  refine am_E.go (t2 := (148, [vR y, vI 4, vI 2, vI 3, vI 1, vI 0, vI 4], [vI 2, vR (y + 13)], aq_h m s F c_10)) rfl rfl ?_
  refine aq_al (ok := fun k => k == 1) (v := vI (c_10 (y + 13) 2)) rfl rfl (by omega) hG13 rfl (by decide) (by decide) rfl ?_
  rw [mtc_10.2.2.1]
  show am_E _ (149, [vR y, vI 4, vI 2, vI 3, vI 1, vI 0, vI 4], [vI 1], aq_h m s F c_10) _
  refine am_E.go (t2 := (165, [vR y, vI 4, vI 2, vI 3, vI 1, vI 0, vI 4], [], aq_h m s F c_10)) rfl rfl ?_
  refine am_E.go (t2 := (168, [vR y, vI 4, vI 3, vI 3, vI 1, vI 0, vI 4], [], aq_h m s F c_10)) rfl rfl ?_
  refine am_E.go (t2 := (138, [vR y, vI 4, vI 3, vI 3, vI 1, vI 0, vI 4], [], aq_h m s F c_10)) rfl rfl ?_
  refine am_E.go (t2 := (139, [vR y, vI 4, vI 3, vI 3, vI 1, vI 0, vI 4], [vI 3], aq_h m s F c_10)) rfl rfl ?_
  refine am_E.go (t2 := (140, [vR y, vI 4, vI 3, vI 3, vI 1, vI 0, vI 4], [vI 4, vI 3], aq_h m s F c_10)) rfl rfl ?_
  refine am_E.go (t2 := (143, [vR y, vI 4, vI 3, vI 3, vI 1, vI 0, vI 4], [], aq_h m s F c_10)) rfl rfl ?_
  refine am_E.go (t2 := (144, [vR y, vI 4, vI 3, vI 3, vI 1, vI 0, vI 4], [vR y], aq_h m s F c_10)) rfl rfl ?_
  refine aq_gf (v := vR (y + 13)) rfl (by omega) hFo (by decide) rfl ?_
  show am_E _ (147, [vR y, vI 4, vI 3, vI 3, vI 1, vI 0, vI 4], [vR (y + 13)], aq_h m s F c_10) _
  refine am_E.go (t2 := (148, [vR y, vI 4, vI 3, vI 3, vI 1, vI 0, vI 4], [vI 3, vR (y + 13)], aq_h m s F c_10)) rfl rfl ?_
  refine aq_al (ok := fun k => k == 1) (v := vI (c_10 (y + 13) 3)) rfl rfl (by omega) hG13 rfl (by decide) (by decide) rfl ?_
  rw [mtc_10.2.2.2]
  show am_E _ (149, [vR y, vI 4, vI 3, vI 3, vI 1, vI 0, vI 4], [vI 1], aq_h m s F c_10) _
  refine am_E.go (t2 := (165, [vR y, vI 4, vI 3, vI 3, vI 1, vI 0, vI 4], [], aq_h m s F c_10)) rfl rfl ?_
  refine am_E.go (t2 := (168, [vR y, vI 4, vI 4, vI 3, vI 1, vI 0, vI 4], [], aq_h m s F c_10)) rfl rfl ?_
  refine am_E.go (t2 := (138, [vR y, vI 4, vI 4, vI 3, vI 1, vI 0, vI 4], [], aq_h m s F c_10)) rfl rfl ?_
  refine am_E.go (t2 := (139, [vR y, vI 4, vI 4, vI 3, vI 1, vI 0, vI 4], [vI 4], aq_h m s F c_10)) rfl rfl ?_
  refine am_E.go (t2 := (140, [vR y, vI 4, vI 4, vI 3, vI 1, vI 0, vI 4], [vI 4, vI 4], aq_h m s F c_10)) rfl rfl ?_
  refine am_E.go (t2 := (171, [vR y, vI 4, vI 4, vI 3, vI 1, vI 0, vI 4], [], aq_h m s F c_10)) rfl rfl ?_
  refine am_E.go (t2 := (172, [vR y, vI 4, vI 4, vI 3, vI 1, vI 0, vI 4], [vI 0], aq_h m s F c_10)) rfl rfl ?_
  refine am_E.go (t2 := (173, [vR y, vI 4, vI 0, vI 3, vI 1, vI 0, vI 4], [], aq_h m s F c_10)) rfl rfl ?_
  refine am_E.go (t2 := (174, [vR y, vI 4, vI 0, vI 3, vI 1, vI 0, vI 4], [vI 0], aq_h m s F c_10)) rfl rfl ?_
  refine am_E.go (t2 := (175, [vR y, vI 4, vI 0, vI 0, vI 1, vI 0, vI 4], [], aq_h m s F c_10)) rfl rfl ?_
  refine am_E.go (t2 := (176, [vR y, vI 4, vI 0, vI 0, vI 1, vI 0, vI 4], [vI 0], aq_h m s F c_10)) rfl rfl ?_
  refine am_E.go (t2 := (177, [vR y, vI 4, vI 0, vI 0, vI 1, vI 0, vI 4], [vI 4, vI 0], aq_h m s F c_10)) rfl rfl ?_
  refine am_E.go (t2 := (180, [vR y, vI 4, vI 0, vI 0, vI 1, vI 0, vI 4], [], aq_h m s F c_10)) rfl rfl ?_
  refine am_E.go (t2 := (181, [vR y, vI 4, vI 0, vI 0, vI 1, vI 0, vI 4], [vR y], aq_h m s F c_10)) rfl rfl ?_
  refine aq_gf (v := vR (y + 13)) rfl (by omega) hFo (by decide) rfl ?_
  show am_E _ (184, [vR y, vI 4, vI 0, vI 0, vI 1, vI 0, vI 4], [vR (y + 13)], aq_h m s F c_10) _
  refine am_E.go (t2 := (185, [vR y, vI 4, vI 0, vI 0, vI 1, vI 0, vI 4], [vI 0, vR (y + 13)], aq_h m s F c_10)) rfl rfl ?_
  refine aq_al (ok := fun k => k == 1) (v := vI (c_10 (y + 13) 0)) rfl rfl (by omega) hG13 rfl (by decide) (by decide) rfl ?_
  rw [mtc_10.1]
  show am_E _ (186, [vR y, vI 4, vI 0, vI 0, vI 1, vI 0, vI 4], [vI 1], aq_h m s F c_10) _
  refine am_E.go (t2 := (253, [vR y, vI 4, vI 0, vI 0, vI 1, vI 0, vI 4], [], aq_h m s F c_10)) rfl rfl ?_
  refine am_E.go (t2 := (256, [vR y, vI 4, vI 0, vI 1, vI 1, vI 0, vI 4], [], aq_h m s F c_10)) rfl rfl ?_
  refine am_E.go (t2 := (175, [vR y, vI 4, vI 0, vI 1, vI 1, vI 0, vI 4], [], aq_h m s F c_10)) rfl rfl ?_
  refine am_E.go (t2 := (176, [vR y, vI 4, vI 0, vI 1, vI 1, vI 0, vI 4], [vI 1], aq_h m s F c_10)) rfl rfl ?_
  refine am_E.go (t2 := (177, [vR y, vI 4, vI 0, vI 1, vI 1, vI 0, vI 4], [vI 4, vI 1], aq_h m s F c_10)) rfl rfl ?_
  refine am_E.go (t2 := (180, [vR y, vI 4, vI 0, vI 1, vI 1, vI 0, vI 4], [], aq_h m s F c_10)) rfl rfl ?_
  refine am_E.go (t2 := (181, [vR y, vI 4, vI 0, vI 1, vI 1, vI 0, vI 4], [vR y], aq_h m s F c_10)) rfl rfl ?_
  refine aq_gf (v := vR (y + 13)) rfl (by omega) hFo (by decide) rfl ?_
  show am_E _ (184, [vR y, vI 4, vI 0, vI 1, vI 1, vI 0, vI 4], [vR (y + 13)], aq_h m s F c_10) _
  refine am_E.go (t2 := (185, [vR y, vI 4, vI 0, vI 1, vI 1, vI 0, vI 4], [vI 1, vR (y + 13)], aq_h m s F c_10)) rfl rfl ?_
  refine aq_al (ok := fun k => k == 1) (v := vI (c_10 (y + 13) 1)) rfl rfl (by omega) hG13 rfl (by decide) (by decide) rfl ?_
  rw [mtc_10.2.1]
  show am_E _ (186, [vR y, vI 4, vI 0, vI 1, vI 1, vI 0, vI 4], [vI 1], aq_h m s F c_10) _
  refine am_E.go (t2 := (253, [vR y, vI 4, vI 0, vI 1, vI 1, vI 0, vI 4], [], aq_h m s F c_10)) rfl rfl ?_
  refine am_E.go (t2 := (256, [vR y, vI 4, vI 0, vI 2, vI 1, vI 0, vI 4], [], aq_h m s F c_10)) rfl rfl ?_
  refine am_E.go (t2 := (175, [vR y, vI 4, vI 0, vI 2, vI 1, vI 0, vI 4], [], aq_h m s F c_10)) rfl rfl ?_
  refine am_E.go (t2 := (176, [vR y, vI 4, vI 0, vI 2, vI 1, vI 0, vI 4], [vI 2], aq_h m s F c_10)) rfl rfl ?_
  refine am_E.go (t2 := (177, [vR y, vI 4, vI 0, vI 2, vI 1, vI 0, vI 4], [vI 4, vI 2], aq_h m s F c_10)) rfl rfl ?_
  refine am_E.go (t2 := (180, [vR y, vI 4, vI 0, vI 2, vI 1, vI 0, vI 4], [], aq_h m s F c_10)) rfl rfl ?_
  refine am_E.go (t2 := (181, [vR y, vI 4, vI 0, vI 2, vI 1, vI 0, vI 4], [vR y], aq_h m s F c_10)) rfl rfl ?_
  refine aq_gf (v := vR (y + 13)) rfl (by omega) hFo (by decide) rfl ?_
  show am_E _ (184, [vR y, vI 4, vI 0, vI 2, vI 1, vI 0, vI 4], [vR (y + 13)], aq_h m s F c_10) _
  refine am_E.go (t2 := (185, [vR y, vI 4, vI 0, vI 2, vI 1, vI 0, vI 4], [vI 2, vR (y + 13)], aq_h m s F c_10)) rfl rfl ?_
  refine aq_al (ok := fun k => k == 1) (v := vI (c_10 (y + 13) 2)) rfl rfl (by omega) hG13 rfl (by decide) (by decide) rfl ?_
  rw [mtc_10.2.2.1]
  show am_E _ (186, [vR y, vI 4, vI 0, vI 2, vI 1, vI 0, vI 4], [vI 1], aq_h m s F c_10) _
  refine am_E.go (t2 := (253, [vR y, vI 4, vI 0, vI 2, vI 1, vI 0, vI 4], [], aq_h m s F c_10)) rfl rfl ?_
  refine am_E.go (t2 := (256, [vR y, vI 4, vI 0, vI 3, vI 1, vI 0, vI 4], [], aq_h m s F c_10)) rfl rfl ?_
  refine am_E.go (t2 := (175, [vR y, vI 4, vI 0, vI 3, vI 1, vI 0, vI 4], [], aq_h m s F c_10)) rfl rfl ?_
  refine am_E.go (t2 := (176, [vR y, vI 4, vI 0, vI 3, vI 1, vI 0, vI 4], [vI 3], aq_h m s F c_10)) rfl rfl ?_
  refine am_E.go (t2 := (177, [vR y, vI 4, vI 0, vI 3, vI 1, vI 0, vI 4], [vI 4, vI 3], aq_h m s F c_10)) rfl rfl ?_
  refine am_E.go (t2 := (180, [vR y, vI 4, vI 0, vI 3, vI 1, vI 0, vI 4], [], aq_h m s F c_10)) rfl rfl ?_
  refine am_E.go (t2 := (181, [vR y, vI 4, vI 0, vI 3, vI 1, vI 0, vI 4], [vR y], aq_h m s F c_10)) rfl rfl ?_
  refine aq_gf (v := vR (y + 13)) rfl (by omega) hFo (by decide) rfl ?_
  show am_E _ (184, [vR y, vI 4, vI 0, vI 3, vI 1, vI 0, vI 4], [vR (y + 13)], aq_h m s F c_10) _
  refine am_E.go (t2 := (185, [vR y, vI 4, vI 0, vI 3, vI 1, vI 0, vI 4], [vI 3, vR (y + 13)], aq_h m s F c_10)) rfl rfl ?_
  refine aq_al (ok := fun k => k == 1) (v := vI (c_10 (y + 13) 3)) rfl rfl (by omega) hG13 rfl (by decide) (by decide) rfl ?_
  rw [mtc_10.2.2.2]
  show am_E _ (186, [vR y, vI 4, vI 0, vI 3, vI 1, vI 0, vI 4], [vI 1], aq_h m s F c_10) _
  refine am_E.go (t2 := (253, [vR y, vI 4, vI 0, vI 3, vI 1, vI 0, vI 4], [], aq_h m s F c_10)) rfl rfl ?_
  refine am_E.go (t2 := (256, [vR y, vI 4, vI 0, vI 4, vI 1, vI 0, vI 4], [], aq_h m s F c_10)) rfl rfl ?_
  refine am_E.go (t2 := (175, [vR y, vI 4, vI 0, vI 4, vI 1, vI 0, vI 4], [], aq_h m s F c_10)) rfl rfl ?_
  refine am_E.go (t2 := (176, [vR y, vI 4, vI 0, vI 4, vI 1, vI 0, vI 4], [vI 4], aq_h m s F c_10)) rfl rfl ?_
  refine am_E.go (t2 := (177, [vR y, vI 4, vI 0, vI 4, vI 1, vI 0, vI 4], [vI 4, vI 4], aq_h m s F c_10)) rfl rfl ?_
  refine am_E.go (t2 := (259, [vR y, vI 4, vI 0, vI 4, vI 1, vI 0, vI 4], [], aq_h m s F c_10)) rfl rfl ?_
  refine am_E.go (t2 := (260, [vR y, vI 4, vI 0, vI 4, vI 1, vI 0, vI 4], [vI 0], aq_h m s F c_10)) rfl rfl ?_
  refine am_E.ret rfl rfl ?_
  exact ⟨_, rfl, sc_10, rfl⟩

theorem qm_fo_4211 {m s : Nat} {F : aq_F} {c : aq_C} {y : Nat} (hO : mo_0 m F y) (hA0 : c (y + 18) 0 = 4) (hA1 : c (y + 18) 1 = 2) (hA2 : c (y + 18) 2 = 1) (hA3 : c (y + 18) 3 = 4) (hB0 : c (y + 19) 0 = 4) (hB1 : c (y + 19) 1 = 2) (hB2 : c (y + 19) 2 = 1) (hB3 : c (y + 19) 3 = 4) : am_E ac_X5_formOf (0, [vR y, vI 4, vU, vU, vU, vU, vU], [], aq_h m s F c) (aq_Z m s F (fun a => a = y + 13) c (fun r _ => r = some (vI 1))) := by
  obtain ⟨hm, hFo, hG5, hG6, hG7, hG8, hG9, hG10, hG11, hG12, hG13, hG14, hG15, hG16, hG17, hG18, hG19, hG20, hG21, hG22, hG23⟩ := hO
  have hmt : mt_ y (c (y + 13) 0) (c (y + 13) 1) (c (y + 13) 2) (c (y + 13) 3) c := ⟨rfl, rfl, rfl, rfl⟩
  refine am_E.go (t2 := (1, [vR y, vI 4, vU, vU, vU, vU, vU], [vI 0], aq_h m s F c)) rfl rfl ?_
  refine am_E.go (t2 := (2, [vR y, vI 4, vI 0, vU, vU, vU, vU], [], aq_h m s F c)) rfl rfl ?_
  refine am_E.go (t2 := (3, [vR y, vI 4, vI 0, vU, vU, vU, vU], [vI 0], aq_h m s F c)) rfl rfl ?_
  refine am_E.go (t2 := (4, [vR y, vI 4, vI 0, vU, vU, vU, vU], [vI 4, vI 0], aq_h m s F c)) rfl rfl ?_
  refine am_E.go (t2 := (7, [vR y, vI 4, vI 0, vU, vU, vU, vU], [], aq_h m s F c)) rfl rfl ?_
  refine am_E.go (t2 := (8, [vR y, vI 4, vI 0, vU, vU, vU, vU], [vR y], aq_h m s F c)) rfl rfl ?_
  refine aq_gf (v := vR (y + 13)) rfl (by omega) hFo (by decide) rfl ?_
  show am_E _ (11, [vR y, vI 4, vI 0, vU, vU, vU, vU], [vR (y + 13)], aq_h m s F c) _
  refine am_E.go (t2 := (12, [vR y, vI 4, vI 0, vU, vU, vU, vU], [vI 0, vR (y + 13)], aq_h m s F c)) rfl rfl ?_
  refine am_E.go (t2 := (13, [vR y, vI 4, vI 0, vU, vU, vU, vU], [vI 0, vI 0, vR (y + 13)], aq_h m s F c)) rfl rfl ?_
  refine aq_as (kd := 1) rfl rfl (by omega) hG13 (by omega) (by omega) rfl rfl ?_
  show am_E _ (14, [vR y, vI 4, vI 0, vU, vU, vU, vU], [], aq_h m s F (aq_u c (y + 13) 0 0)) _
  generalize hdc_1 : aq_u c (y + 13) 0 0 = c_1
  have sc_1 := aq_smu (aq_sm0 (c := c) (S := fun a => a = y + 13)) hdc_1 rfl
  have mtc_1 := mt_0 hmt hdc_1
  refine am_E.go (t2 := (17, [vR y, vI 4, vI 1, vU, vU, vU, vU], [], aq_h m s F c_1)) rfl rfl ?_
  refine am_E.go (t2 := (2, [vR y, vI 4, vI 1, vU, vU, vU, vU], [], aq_h m s F c_1)) rfl rfl ?_
  refine am_E.go (t2 := (3, [vR y, vI 4, vI 1, vU, vU, vU, vU], [vI 1], aq_h m s F c_1)) rfl rfl ?_
  refine am_E.go (t2 := (4, [vR y, vI 4, vI 1, vU, vU, vU, vU], [vI 4, vI 1], aq_h m s F c_1)) rfl rfl ?_
  refine am_E.go (t2 := (7, [vR y, vI 4, vI 1, vU, vU, vU, vU], [], aq_h m s F c_1)) rfl rfl ?_
  refine am_E.go (t2 := (8, [vR y, vI 4, vI 1, vU, vU, vU, vU], [vR y], aq_h m s F c_1)) rfl rfl ?_
  refine aq_gf (v := vR (y + 13)) rfl (by omega) hFo (by decide) rfl ?_
  show am_E _ (11, [vR y, vI 4, vI 1, vU, vU, vU, vU], [vR (y + 13)], aq_h m s F c_1) _
  refine am_E.go (t2 := (12, [vR y, vI 4, vI 1, vU, vU, vU, vU], [vI 1, vR (y + 13)], aq_h m s F c_1)) rfl rfl ?_
  refine am_E.go (t2 := (13, [vR y, vI 4, vI 1, vU, vU, vU, vU], [vI 0, vI 1, vR (y + 13)], aq_h m s F c_1)) rfl rfl ?_
  refine aq_as (kd := 1) rfl rfl (by omega) hG13 (by omega) (by omega) rfl rfl ?_
  show am_E _ (14, [vR y, vI 4, vI 1, vU, vU, vU, vU], [], aq_h m s F (aq_u c_1 (y + 13) 1 0)) _
  generalize hdc_2 : aq_u c_1 (y + 13) 1 0 = c_2
  have sc_2 := aq_smu sc_1 hdc_2 rfl
  have mtc_2 := mt_1 mtc_1 hdc_2
  refine am_E.go (t2 := (17, [vR y, vI 4, vI 2, vU, vU, vU, vU], [], aq_h m s F c_2)) rfl rfl ?_
  refine am_E.go (t2 := (2, [vR y, vI 4, vI 2, vU, vU, vU, vU], [], aq_h m s F c_2)) rfl rfl ?_
  refine am_E.go (t2 := (3, [vR y, vI 4, vI 2, vU, vU, vU, vU], [vI 2], aq_h m s F c_2)) rfl rfl ?_
  refine am_E.go (t2 := (4, [vR y, vI 4, vI 2, vU, vU, vU, vU], [vI 4, vI 2], aq_h m s F c_2)) rfl rfl ?_
  refine am_E.go (t2 := (7, [vR y, vI 4, vI 2, vU, vU, vU, vU], [], aq_h m s F c_2)) rfl rfl ?_
  refine am_E.go (t2 := (8, [vR y, vI 4, vI 2, vU, vU, vU, vU], [vR y], aq_h m s F c_2)) rfl rfl ?_
  refine aq_gf (v := vR (y + 13)) rfl (by omega) hFo (by decide) rfl ?_
  show am_E _ (11, [vR y, vI 4, vI 2, vU, vU, vU, vU], [vR (y + 13)], aq_h m s F c_2) _
  refine am_E.go (t2 := (12, [vR y, vI 4, vI 2, vU, vU, vU, vU], [vI 2, vR (y + 13)], aq_h m s F c_2)) rfl rfl ?_
  refine am_E.go (t2 := (13, [vR y, vI 4, vI 2, vU, vU, vU, vU], [vI 0, vI 2, vR (y + 13)], aq_h m s F c_2)) rfl rfl ?_
  refine aq_as (kd := 1) rfl rfl (by omega) hG13 (by omega) (by omega) rfl rfl ?_
  show am_E _ (14, [vR y, vI 4, vI 2, vU, vU, vU, vU], [], aq_h m s F (aq_u c_2 (y + 13) 2 0)) _
  generalize hdc_3 : aq_u c_2 (y + 13) 2 0 = c_3
  have sc_3 := aq_smu sc_2 hdc_3 rfl
  have mtc_3 := mt_2 mtc_2 hdc_3
  refine am_E.go (t2 := (17, [vR y, vI 4, vI 3, vU, vU, vU, vU], [], aq_h m s F c_3)) rfl rfl ?_
  refine am_E.go (t2 := (2, [vR y, vI 4, vI 3, vU, vU, vU, vU], [], aq_h m s F c_3)) rfl rfl ?_
  refine am_E.go (t2 := (3, [vR y, vI 4, vI 3, vU, vU, vU, vU], [vI 3], aq_h m s F c_3)) rfl rfl ?_
  refine am_E.go (t2 := (4, [vR y, vI 4, vI 3, vU, vU, vU, vU], [vI 4, vI 3], aq_h m s F c_3)) rfl rfl ?_
  refine am_E.go (t2 := (7, [vR y, vI 4, vI 3, vU, vU, vU, vU], [], aq_h m s F c_3)) rfl rfl ?_
  refine am_E.go (t2 := (8, [vR y, vI 4, vI 3, vU, vU, vU, vU], [vR y], aq_h m s F c_3)) rfl rfl ?_
  refine aq_gf (v := vR (y + 13)) rfl (by omega) hFo (by decide) rfl ?_
  show am_E _ (11, [vR y, vI 4, vI 3, vU, vU, vU, vU], [vR (y + 13)], aq_h m s F c_3) _
  refine am_E.go (t2 := (12, [vR y, vI 4, vI 3, vU, vU, vU, vU], [vI 3, vR (y + 13)], aq_h m s F c_3)) rfl rfl ?_
  refine am_E.go (t2 := (13, [vR y, vI 4, vI 3, vU, vU, vU, vU], [vI 0, vI 3, vR (y + 13)], aq_h m s F c_3)) rfl rfl ?_
  refine aq_as (kd := 1) rfl rfl (by omega) hG13 (by omega) (by omega) rfl rfl ?_
  show am_E _ (14, [vR y, vI 4, vI 3, vU, vU, vU, vU], [], aq_h m s F (aq_u c_3 (y + 13) 3 0)) _
  generalize hdc_4 : aq_u c_3 (y + 13) 3 0 = c_4
  have sc_4 := aq_smu sc_3 hdc_4 rfl
  have mtc_4 := mt_3 mtc_3 hdc_4
  refine am_E.go (t2 := (17, [vR y, vI 4, vI 4, vU, vU, vU, vU], [], aq_h m s F c_4)) rfl rfl ?_
  refine am_E.go (t2 := (2, [vR y, vI 4, vI 4, vU, vU, vU, vU], [], aq_h m s F c_4)) rfl rfl ?_
  refine am_E.go (t2 := (3, [vR y, vI 4, vI 4, vU, vU, vU, vU], [vI 4], aq_h m s F c_4)) rfl rfl ?_
  refine am_E.go (t2 := (4, [vR y, vI 4, vI 4, vU, vU, vU, vU], [vI 4, vI 4], aq_h m s F c_4)) rfl rfl ?_
  refine am_E.go (t2 := (20, [vR y, vI 4, vI 4, vU, vU, vU, vU], [], aq_h m s F c_4)) rfl rfl ?_
  refine am_E.go (t2 := (21, [vR y, vI 4, vI 4, vU, vU, vU, vU], [vI 0], aq_h m s F c_4)) rfl rfl ?_
  refine am_E.go (t2 := (22, [vR y, vI 4, vI 0, vU, vU, vU, vU], [], aq_h m s F c_4)) rfl rfl ?_
  refine am_E.go (t2 := (23, [vR y, vI 4, vI 0, vU, vU, vU, vU], [vI 0], aq_h m s F c_4)) rfl rfl ?_
  refine am_E.go (t2 := (24, [vR y, vI 4, vI 0, vU, vU, vU, vU], [vI 4, vI 0], aq_h m s F c_4)) rfl rfl ?_
  refine am_E.go (t2 := (27, [vR y, vI 4, vI 0, vU, vU, vU, vU], [], aq_h m s F c_4)) rfl rfl ?_
  refine am_E.go (t2 := (28, [vR y, vI 4, vI 0, vU, vU, vU, vU], [vR y], aq_h m s F c_4)) rfl rfl ?_
  refine aq_gf (v := vR (y + 18)) rfl (by omega) hFo (by decide) rfl ?_
  show am_E _ (31, [vR y, vI 4, vI 0, vU, vU, vU, vU], [vR (y + 18)], aq_h m s F c_4) _
  refine am_E.go (t2 := (32, [vR y, vI 4, vI 0, vU, vU, vU, vU], [vI 0, vR (y + 18)], aq_h m s F c_4)) rfl rfl ?_
  refine aq_al (ok := fun k => k == 0) (v := vI (c_4 (y + 18) 0)) rfl rfl (by omega) hG18 rfl (by decide) (by decide) rfl ?_
  rw [sc_4 (y + 18) (by omega), hA0]
  show am_E _ (33, [vR y, vI 4, vI 0, vU, vU, vU, vU], [vI 4], aq_h m s F c_4) _
  refine am_E.go (t2 := (34, [vR y, vI 4, vI 0, vU, vU, vU, vU], [vI 4, vI 4], aq_h m s F c_4)) rfl rfl ?_
  refine am_E.go (t2 := (37, [vR y, vI 4, vI 0, vU, vU, vU, vU], [], aq_h m s F c_4)) rfl rfl ?_
  refine am_E.go (t2 := (38, [vR y, vI 4, vI 0, vU, vU, vU, vU], [vI 0], aq_h m s F c_4)) rfl rfl ?_
  refine am_E.go (t2 := (39, [vR y, vI 4, vI 0, vI 0, vU, vU, vU], [], aq_h m s F c_4)) rfl rfl ?_
  refine am_E.go (t2 := (40, [vR y, vI 4, vI 0, vI 0, vU, vU, vU], [vI 1], aq_h m s F c_4)) rfl rfl ?_
  refine am_E.go (t2 := (42, [vR y, vI 4, vI 0, vI 0, vI 1, vU, vU], [], aq_h m s F c_4)) rfl rfl ?_
  refine am_E.go (t2 := (43, [vR y, vI 4, vI 0, vI 0, vI 1, vU, vU], [vI 1], aq_h m s F c_4)) rfl rfl ?_
  refine am_E.go (t2 := (45, [vR y, vI 4, vI 0, vI 0, vI 1, vI 1, vU], [], aq_h m s F c_4)) rfl rfl ?_
  refine am_E.go (t2 := (47, [vR y, vI 4, vI 0, vI 0, vI 1, vI 1, vU], [vI 1], aq_h m s F c_4)) rfl rfl ?_
  refine am_E.go (t2 := (50, [vR y, vI 4, vI 0, vI 0, vI 1, vI 1, vU], [], aq_h m s F c_4)) rfl rfl ?_
  refine am_E.go (t2 := (51, [vR y, vI 4, vI 0, vI 0, vI 1, vI 1, vU], [vR y], aq_h m s F c_4)) rfl rfl ?_
  refine aq_gf (v := vR (y + 13)) rfl (by omega) hFo (by decide) rfl ?_
  show am_E _ (54, [vR y, vI 4, vI 0, vI 0, vI 1, vI 1, vU], [vR (y + 13)], aq_h m s F c_4) _
  refine am_E.go (t2 := (55, [vR y, vI 4, vI 0, vI 0, vI 1, vI 1, vU], [vI 0, vR (y + 13)], aq_h m s F c_4)) rfl rfl ?_
  refine am_E.go (t2 := (56, [vR y, vI 4, vI 0, vI 0, vI 1, vI 1, vU], [vI 1, vI 0, vR (y + 13)], aq_h m s F c_4)) rfl rfl ?_
  refine aq_as (kd := 1) rfl rfl (by omega) hG13 (by omega) (by omega) rfl rfl ?_
  show am_E _ (57, [vR y, vI 4, vI 0, vI 0, vI 1, vI 1, vU], [], aq_h m s F (aq_u c_4 (y + 13) 0 1)) _
  generalize hdc_5 : aq_u c_4 (y + 13) 0 1 = c_5
  have sc_5 := aq_smu sc_4 hdc_5 rfl
  have mtc_5 := mt_0 mtc_4 hdc_5
  refine am_E.go (t2 := (59, [vR y, vI 4, vI 0, vI 0, vI 1, vI 1, vU], [vI 1], aq_h m s F c_5)) rfl rfl ?_
  refine am_E.go (t2 := (62, [vR y, vI 4, vI 0, vI 0, vI 1, vI 1, vU], [], aq_h m s F c_5)) rfl rfl ?_
  refine am_E.go (t2 := (63, [vR y, vI 4, vI 0, vI 0, vI 1, vI 1, vU], [vR y], aq_h m s F c_5)) rfl rfl ?_
  refine aq_gf (v := vR (y + 19)) rfl (by omega) hFo (by decide) rfl ?_
  show am_E _ (66, [vR y, vI 4, vI 0, vI 0, vI 1, vI 1, vU], [vR (y + 19)], aq_h m s F c_5) _
  refine am_E.go (t2 := (67, [vR y, vI 4, vI 0, vI 0, vI 1, vI 1, vU], [vI 0, vR (y + 19)], aq_h m s F c_5)) rfl rfl ?_
  refine aq_al (ok := fun k => k == 0) (v := vI (c_5 (y + 19) 0)) rfl rfl (by omega) hG19 rfl (by decide) (by decide) rfl ?_
  rw [sc_5 (y + 19) (by omega), hB0]
  show am_E _ (68, [vR y, vI 4, vI 0, vI 0, vI 1, vI 1, vU], [vI 4], aq_h m s F c_5) _
  refine am_E.go (t2 := (77, [vR y, vI 4, vI 0, vI 0, vI 1, vI 1, vU], [vI 4], aq_h m s F c_5)) rfl rfl ?_
  refine am_E.go (t2 := (79, [vR y, vI 4, vI 0, vI 0, vI 1, vI 1, vI 4], [], aq_h m s F c_5)) rfl rfl ?_
  refine am_E.go (t2 := (81, [vR y, vI 4, vI 0, vI 0, vI 1, vI 1, vI 4], [vI 4], aq_h m s F c_5)) rfl rfl ?_
  refine am_E.go (t2 := (82, [vR y, vI 4, vI 0, vI 0, vI 1, vI 1, vI 4], [vI 4, vI 4], aq_h m s F c_5)) rfl rfl ?_
  refine am_E.go (t2 := (89, [vR y, vI 4, vI 0, vI 0, vI 1, vI 1, vI 4], [], aq_h m s F c_5)) rfl rfl ?_
  refine am_E.go (t2 := (90, [vR y, vI 4, vI 0, vI 0, vI 1, vI 1, vI 4], [vI 0], aq_h m s F c_5)) rfl rfl ?_
  refine am_E.go (t2 := (92, [vR y, vI 4, vI 0, vI 0, vI 1, vI 0, vI 4], [], aq_h m s F c_5)) rfl rfl ?_
  refine am_E.go (t2 := (94, [vR y, vI 4, vI 0, vI 0, vI 1, vI 0, vI 4], [vI 0], aq_h m s F c_5)) rfl rfl ?_
  refine am_E.go (t2 := (112, [vR y, vI 4, vI 0, vI 0, vI 1, vI 0, vI 4], [], aq_h m s F c_5)) rfl rfl ?_
  refine am_E.go (t2 := (45, [vR y, vI 4, vI 0, vI 0, vI 1, vI 0, vI 4], [], aq_h m s F c_5)) rfl rfl ?_
  refine am_E.go (t2 := (47, [vR y, vI 4, vI 0, vI 0, vI 1, vI 0, vI 4], [vI 0], aq_h m s F c_5)) rfl rfl ?_
  refine am_E.go (t2 := (115, [vR y, vI 4, vI 0, vI 0, vI 1, vI 0, vI 4], [], aq_h m s F c_5)) rfl rfl ?_
  refine am_E.go (t2 := (116, [vR y, vI 4, vI 0, vI 0, vI 1, vI 0, vI 4], [vR y], aq_h m s F c_5)) rfl rfl ?_
  refine aq_gf (v := vR (y + 13)) rfl (by omega) hFo (by decide) rfl ?_
  show am_E _ (119, [vR y, vI 4, vI 0, vI 0, vI 1, vI 0, vI 4], [vR (y + 13)], aq_h m s F c_5) _
  refine am_E.go (t2 := (120, [vR y, vI 4, vI 0, vI 0, vI 1, vI 0, vI 4], [vI 0, vR (y + 13)], aq_h m s F c_5)) rfl rfl ?_
  refine am_E.go (t2 := (121, [vR y, vI 4, vI 0, vI 0, vI 1, vI 0, vI 4], [vI 1, vI 0, vR (y + 13)], aq_h m s F c_5)) rfl rfl ?_
  refine aq_as (kd := 1) rfl rfl (by omega) hG13 (by omega) (by omega) rfl rfl ?_
  show am_E _ (122, [vR y, vI 4, vI 0, vI 0, vI 1, vI 0, vI 4], [], aq_h m s F (aq_u c_5 (y + 13) 0 1)) _
  generalize hdc_6 : aq_u c_5 (y + 13) 0 1 = c_6
  have sc_6 := aq_smu sc_5 hdc_6 rfl
  have mtc_6 := mt_0 mtc_5 hdc_6
  refine am_E.go (t2 := (124, [vR y, vI 4, vI 0, vI 0, vI 1, vI 0, vI 4], [vI 1], aq_h m s F c_6)) rfl rfl ?_
  refine am_E.go (t2 := (130, [vR y, vI 4, vI 0, vI 0, vI 1, vI 0, vI 4], [], aq_h m s F c_6)) rfl rfl ?_
  refine am_E.go (t2 := (133, [vR y, vI 4, vI 1, vI 0, vI 1, vI 0, vI 4], [], aq_h m s F c_6)) rfl rfl ?_
  refine am_E.go (t2 := (22, [vR y, vI 4, vI 1, vI 0, vI 1, vI 0, vI 4], [], aq_h m s F c_6)) rfl rfl ?_
  refine am_E.go (t2 := (23, [vR y, vI 4, vI 1, vI 0, vI 1, vI 0, vI 4], [vI 1], aq_h m s F c_6)) rfl rfl ?_
  refine am_E.go (t2 := (24, [vR y, vI 4, vI 1, vI 0, vI 1, vI 0, vI 4], [vI 4, vI 1], aq_h m s F c_6)) rfl rfl ?_
  refine am_E.go (t2 := (27, [vR y, vI 4, vI 1, vI 0, vI 1, vI 0, vI 4], [], aq_h m s F c_6)) rfl rfl ?_
  refine am_E.go (t2 := (28, [vR y, vI 4, vI 1, vI 0, vI 1, vI 0, vI 4], [vR y], aq_h m s F c_6)) rfl rfl ?_
  refine aq_gf (v := vR (y + 18)) rfl (by omega) hFo (by decide) rfl ?_
  show am_E _ (31, [vR y, vI 4, vI 1, vI 0, vI 1, vI 0, vI 4], [vR (y + 18)], aq_h m s F c_6) _
  refine am_E.go (t2 := (32, [vR y, vI 4, vI 1, vI 0, vI 1, vI 0, vI 4], [vI 1, vR (y + 18)], aq_h m s F c_6)) rfl rfl ?_
  refine aq_al (ok := fun k => k == 0) (v := vI (c_6 (y + 18) 1)) rfl rfl (by omega) hG18 rfl (by decide) (by decide) rfl ?_
  rw [sc_6 (y + 18) (by omega), hA1]
  show am_E _ (33, [vR y, vI 4, vI 1, vI 0, vI 1, vI 0, vI 4], [vI 2], aq_h m s F c_6) _
  refine am_E.go (t2 := (34, [vR y, vI 4, vI 1, vI 0, vI 1, vI 0, vI 4], [vI 4, vI 2], aq_h m s F c_6)) rfl rfl ?_
  refine am_E.go (t2 := (130, [vR y, vI 4, vI 1, vI 0, vI 1, vI 0, vI 4], [], aq_h m s F c_6)) rfl rfl ?_
  refine am_E.go (t2 := (133, [vR y, vI 4, vI 2, vI 0, vI 1, vI 0, vI 4], [], aq_h m s F c_6)) rfl rfl ?_
  refine am_E.go (t2 := (22, [vR y, vI 4, vI 2, vI 0, vI 1, vI 0, vI 4], [], aq_h m s F c_6)) rfl rfl ?_
  refine am_E.go (t2 := (23, [vR y, vI 4, vI 2, vI 0, vI 1, vI 0, vI 4], [vI 2], aq_h m s F c_6)) rfl rfl ?_
  refine am_E.go (t2 := (24, [vR y, vI 4, vI 2, vI 0, vI 1, vI 0, vI 4], [vI 4, vI 2], aq_h m s F c_6)) rfl rfl ?_
  refine am_E.go (t2 := (27, [vR y, vI 4, vI 2, vI 0, vI 1, vI 0, vI 4], [], aq_h m s F c_6)) rfl rfl ?_
  refine am_E.go (t2 := (28, [vR y, vI 4, vI 2, vI 0, vI 1, vI 0, vI 4], [vR y], aq_h m s F c_6)) rfl rfl ?_
  refine aq_gf (v := vR (y + 18)) rfl (by omega) hFo (by decide) rfl ?_
  show am_E _ (31, [vR y, vI 4, vI 2, vI 0, vI 1, vI 0, vI 4], [vR (y + 18)], aq_h m s F c_6) _
  refine am_E.go (t2 := (32, [vR y, vI 4, vI 2, vI 0, vI 1, vI 0, vI 4], [vI 2, vR (y + 18)], aq_h m s F c_6)) rfl rfl ?_
  refine aq_al (ok := fun k => k == 0) (v := vI (c_6 (y + 18) 2)) rfl rfl (by omega) hG18 rfl (by decide) (by decide) rfl ?_
  rw [sc_6 (y + 18) (by omega), hA2]
  show am_E _ (33, [vR y, vI 4, vI 2, vI 0, vI 1, vI 0, vI 4], [vI 1], aq_h m s F c_6) _
  refine am_E.go (t2 := (34, [vR y, vI 4, vI 2, vI 0, vI 1, vI 0, vI 4], [vI 4, vI 1], aq_h m s F c_6)) rfl rfl ?_
  refine am_E.go (t2 := (130, [vR y, vI 4, vI 2, vI 0, vI 1, vI 0, vI 4], [], aq_h m s F c_6)) rfl rfl ?_
  refine am_E.go (t2 := (133, [vR y, vI 4, vI 3, vI 0, vI 1, vI 0, vI 4], [], aq_h m s F c_6)) rfl rfl ?_
  refine am_E.go (t2 := (22, [vR y, vI 4, vI 3, vI 0, vI 1, vI 0, vI 4], [], aq_h m s F c_6)) rfl rfl ?_
  refine am_E.go (t2 := (23, [vR y, vI 4, vI 3, vI 0, vI 1, vI 0, vI 4], [vI 3], aq_h m s F c_6)) rfl rfl ?_
  refine am_E.go (t2 := (24, [vR y, vI 4, vI 3, vI 0, vI 1, vI 0, vI 4], [vI 4, vI 3], aq_h m s F c_6)) rfl rfl ?_
  refine am_E.go (t2 := (27, [vR y, vI 4, vI 3, vI 0, vI 1, vI 0, vI 4], [], aq_h m s F c_6)) rfl rfl ?_
  refine am_E.go (t2 := (28, [vR y, vI 4, vI 3, vI 0, vI 1, vI 0, vI 4], [vR y], aq_h m s F c_6)) rfl rfl ?_
  refine aq_gf (v := vR (y + 18)) rfl (by omega) hFo (by decide) rfl ?_
  show am_E _ (31, [vR y, vI 4, vI 3, vI 0, vI 1, vI 0, vI 4], [vR (y + 18)], aq_h m s F c_6) _
  refine am_E.go (t2 := (32, [vR y, vI 4, vI 3, vI 0, vI 1, vI 0, vI 4], [vI 3, vR (y + 18)], aq_h m s F c_6)) rfl rfl ?_
  refine aq_al (ok := fun k => k == 0) (v := vI (c_6 (y + 18) 3)) rfl rfl (by omega) hG18 rfl (by decide) (by decide) rfl ?_
  rw [sc_6 (y + 18) (by omega), hA3]
  show am_E _ (33, [vR y, vI 4, vI 3, vI 0, vI 1, vI 0, vI 4], [vI 4], aq_h m s F c_6) _
  refine am_E.go (t2 := (34, [vR y, vI 4, vI 3, vI 0, vI 1, vI 0, vI 4], [vI 4, vI 4], aq_h m s F c_6)) rfl rfl ?_
  refine am_E.go (t2 := (37, [vR y, vI 4, vI 3, vI 0, vI 1, vI 0, vI 4], [], aq_h m s F c_6)) rfl rfl ?_
  refine am_E.go (t2 := (38, [vR y, vI 4, vI 3, vI 0, vI 1, vI 0, vI 4], [vI 3], aq_h m s F c_6)) rfl rfl ?_
  refine am_E.go (t2 := (39, [vR y, vI 4, vI 3, vI 3, vI 1, vI 0, vI 4], [], aq_h m s F c_6)) rfl rfl ?_
  refine am_E.go (t2 := (40, [vR y, vI 4, vI 3, vI 3, vI 1, vI 0, vI 4], [vI 1], aq_h m s F c_6)) rfl rfl ?_
  refine am_E.go (t2 := (42, [vR y, vI 4, vI 3, vI 3, vI 1, vI 0, vI 4], [], aq_h m s F c_6)) rfl rfl ?_
  refine am_E.go (t2 := (43, [vR y, vI 4, vI 3, vI 3, vI 1, vI 0, vI 4], [vI 1], aq_h m s F c_6)) rfl rfl ?_
  refine am_E.go (t2 := (45, [vR y, vI 4, vI 3, vI 3, vI 1, vI 1, vI 4], [], aq_h m s F c_6)) rfl rfl ?_
  refine am_E.go (t2 := (47, [vR y, vI 4, vI 3, vI 3, vI 1, vI 1, vI 4], [vI 1], aq_h m s F c_6)) rfl rfl ?_
  refine am_E.go (t2 := (50, [vR y, vI 4, vI 3, vI 3, vI 1, vI 1, vI 4], [], aq_h m s F c_6)) rfl rfl ?_
  refine am_E.go (t2 := (51, [vR y, vI 4, vI 3, vI 3, vI 1, vI 1, vI 4], [vR y], aq_h m s F c_6)) rfl rfl ?_
  refine aq_gf (v := vR (y + 13)) rfl (by omega) hFo (by decide) rfl ?_
  show am_E _ (54, [vR y, vI 4, vI 3, vI 3, vI 1, vI 1, vI 4], [vR (y + 13)], aq_h m s F c_6) _
  refine am_E.go (t2 := (55, [vR y, vI 4, vI 3, vI 3, vI 1, vI 1, vI 4], [vI 3, vR (y + 13)], aq_h m s F c_6)) rfl rfl ?_
  refine am_E.go (t2 := (56, [vR y, vI 4, vI 3, vI 3, vI 1, vI 1, vI 4], [vI 1, vI 3, vR (y + 13)], aq_h m s F c_6)) rfl rfl ?_
  refine aq_as (kd := 1) rfl rfl (by omega) hG13 (by omega) (by omega) rfl rfl ?_
  show am_E _ (57, [vR y, vI 4, vI 3, vI 3, vI 1, vI 1, vI 4], [], aq_h m s F (aq_u c_6 (y + 13) 3 1)) _
  generalize hdc_7 : aq_u c_6 (y + 13) 3 1 = c_7
  have sc_7 := aq_smu sc_6 hdc_7 rfl
  have mtc_7 := mt_3 mtc_6 hdc_7
  refine am_E.go (t2 := (59, [vR y, vI 4, vI 3, vI 3, vI 1, vI 1, vI 4], [vI 1], aq_h m s F c_7)) rfl rfl ?_
  refine am_E.go (t2 := (62, [vR y, vI 4, vI 3, vI 3, vI 1, vI 1, vI 4], [], aq_h m s F c_7)) rfl rfl ?_
  refine am_E.go (t2 := (63, [vR y, vI 4, vI 3, vI 3, vI 1, vI 1, vI 4], [vR y], aq_h m s F c_7)) rfl rfl ?_
  refine aq_gf (v := vR (y + 19)) rfl (by omega) hFo (by decide) rfl ?_
  show am_E _ (66, [vR y, vI 4, vI 3, vI 3, vI 1, vI 1, vI 4], [vR (y + 19)], aq_h m s F c_7) _
  refine am_E.go (t2 := (67, [vR y, vI 4, vI 3, vI 3, vI 1, vI 1, vI 4], [vI 3, vR (y + 19)], aq_h m s F c_7)) rfl rfl ?_
  refine aq_al (ok := fun k => k == 0) (v := vI (c_7 (y + 19) 3)) rfl rfl (by omega) hG19 rfl (by decide) (by decide) rfl ?_
  rw [sc_7 (y + 19) (by omega), hB3]
  show am_E _ (68, [vR y, vI 4, vI 3, vI 3, vI 1, vI 1, vI 4], [vI 4], aq_h m s F c_7) _
  refine am_E.go (t2 := (77, [vR y, vI 4, vI 3, vI 3, vI 1, vI 1, vI 4], [vI 4], aq_h m s F c_7)) rfl rfl ?_
  refine am_E.go (t2 := (79, [vR y, vI 4, vI 3, vI 3, vI 1, vI 1, vI 4], [], aq_h m s F c_7)) rfl rfl ?_
  refine am_E.go (t2 := (81, [vR y, vI 4, vI 3, vI 3, vI 1, vI 1, vI 4], [vI 4], aq_h m s F c_7)) rfl rfl ?_
  refine am_E.go (t2 := (82, [vR y, vI 4, vI 3, vI 3, vI 1, vI 1, vI 4], [vI 4, vI 4], aq_h m s F c_7)) rfl rfl ?_
  refine am_E.go (t2 := (89, [vR y, vI 4, vI 3, vI 3, vI 1, vI 1, vI 4], [], aq_h m s F c_7)) rfl rfl ?_
  refine am_E.go (t2 := (90, [vR y, vI 4, vI 3, vI 3, vI 1, vI 1, vI 4], [vI 0], aq_h m s F c_7)) rfl rfl ?_
  refine am_E.go (t2 := (92, [vR y, vI 4, vI 3, vI 3, vI 1, vI 0, vI 4], [], aq_h m s F c_7)) rfl rfl ?_
  refine am_E.go (t2 := (94, [vR y, vI 4, vI 3, vI 3, vI 1, vI 0, vI 4], [vI 0], aq_h m s F c_7)) rfl rfl ?_
  refine am_E.go (t2 := (112, [vR y, vI 4, vI 3, vI 3, vI 1, vI 0, vI 4], [], aq_h m s F c_7)) rfl rfl ?_
  refine am_E.go (t2 := (45, [vR y, vI 4, vI 3, vI 3, vI 1, vI 0, vI 4], [], aq_h m s F c_7)) rfl rfl ?_
  refine am_E.go (t2 := (47, [vR y, vI 4, vI 3, vI 3, vI 1, vI 0, vI 4], [vI 0], aq_h m s F c_7)) rfl rfl ?_
  refine am_E.go (t2 := (115, [vR y, vI 4, vI 3, vI 3, vI 1, vI 0, vI 4], [], aq_h m s F c_7)) rfl rfl ?_
  refine am_E.go (t2 := (116, [vR y, vI 4, vI 3, vI 3, vI 1, vI 0, vI 4], [vR y], aq_h m s F c_7)) rfl rfl ?_
  refine aq_gf (v := vR (y + 13)) rfl (by omega) hFo (by decide) rfl ?_
  show am_E _ (119, [vR y, vI 4, vI 3, vI 3, vI 1, vI 0, vI 4], [vR (y + 13)], aq_h m s F c_7) _
  refine am_E.go (t2 := (120, [vR y, vI 4, vI 3, vI 3, vI 1, vI 0, vI 4], [vI 3, vR (y + 13)], aq_h m s F c_7)) rfl rfl ?_
  refine am_E.go (t2 := (121, [vR y, vI 4, vI 3, vI 3, vI 1, vI 0, vI 4], [vI 1, vI 3, vR (y + 13)], aq_h m s F c_7)) rfl rfl ?_
  refine aq_as (kd := 1) rfl rfl (by omega) hG13 (by omega) (by omega) rfl rfl ?_
  show am_E _ (122, [vR y, vI 4, vI 3, vI 3, vI 1, vI 0, vI 4], [], aq_h m s F (aq_u c_7 (y + 13) 3 1)) _
  generalize hdc_8 : aq_u c_7 (y + 13) 3 1 = c_8
  have sc_8 := aq_smu sc_7 hdc_8 rfl
  have mtc_8 := mt_3 mtc_7 hdc_8
  refine am_E.go (t2 := (124, [vR y, vI 4, vI 3, vI 3, vI 1, vI 0, vI 4], [vI 1], aq_h m s F c_8)) rfl rfl ?_
  refine am_E.go (t2 := (130, [vR y, vI 4, vI 3, vI 3, vI 1, vI 0, vI 4], [], aq_h m s F c_8)) rfl rfl ?_
  refine am_E.go (t2 := (133, [vR y, vI 4, vI 4, vI 3, vI 1, vI 0, vI 4], [], aq_h m s F c_8)) rfl rfl ?_
  refine am_E.go (t2 := (22, [vR y, vI 4, vI 4, vI 3, vI 1, vI 0, vI 4], [], aq_h m s F c_8)) rfl rfl ?_
  refine am_E.go (t2 := (23, [vR y, vI 4, vI 4, vI 3, vI 1, vI 0, vI 4], [vI 4], aq_h m s F c_8)) rfl rfl ?_
  refine am_E.go (t2 := (24, [vR y, vI 4, vI 4, vI 3, vI 1, vI 0, vI 4], [vI 4, vI 4], aq_h m s F c_8)) rfl rfl ?_
  refine am_E.go (t2 := (136, [vR y, vI 4, vI 4, vI 3, vI 1, vI 0, vI 4], [], aq_h m s F c_8)) rfl rfl ?_
  refine am_E.go (t2 := (137, [vR y, vI 4, vI 4, vI 3, vI 1, vI 0, vI 4], [vI 0], aq_h m s F c_8)) rfl rfl ?_
  refine am_E.go (t2 := (138, [vR y, vI 4, vI 0, vI 3, vI 1, vI 0, vI 4], [], aq_h m s F c_8)) rfl rfl ?_
  refine am_E.go (t2 := (139, [vR y, vI 4, vI 0, vI 3, vI 1, vI 0, vI 4], [vI 0], aq_h m s F c_8)) rfl rfl ?_
  refine am_E.go (t2 := (140, [vR y, vI 4, vI 0, vI 3, vI 1, vI 0, vI 4], [vI 4, vI 0], aq_h m s F c_8)) rfl rfl ?_
  refine am_E.go (t2 := (143, [vR y, vI 4, vI 0, vI 3, vI 1, vI 0, vI 4], [], aq_h m s F c_8)) rfl rfl ?_
  refine am_E.go (t2 := (144, [vR y, vI 4, vI 0, vI 3, vI 1, vI 0, vI 4], [vR y], aq_h m s F c_8)) rfl rfl ?_
  refine aq_gf (v := vR (y + 13)) rfl (by omega) hFo (by decide) rfl ?_
  show am_E _ (147, [vR y, vI 4, vI 0, vI 3, vI 1, vI 0, vI 4], [vR (y + 13)], aq_h m s F c_8) _
  refine am_E.go (t2 := (148, [vR y, vI 4, vI 0, vI 3, vI 1, vI 0, vI 4], [vI 0, vR (y + 13)], aq_h m s F c_8)) rfl rfl ?_
  refine aq_al (ok := fun k => k == 1) (v := vI (c_8 (y + 13) 0)) rfl rfl (by omega) hG13 rfl (by decide) (by decide) rfl ?_
  rw [mtc_8.1]
  show am_E _ (149, [vR y, vI 4, vI 0, vI 3, vI 1, vI 0, vI 4], [vI 1], aq_h m s F c_8) _
  refine am_E.go (t2 := (165, [vR y, vI 4, vI 0, vI 3, vI 1, vI 0, vI 4], [], aq_h m s F c_8)) rfl rfl ?_
  refine am_E.go (t2 := (168, [vR y, vI 4, vI 1, vI 3, vI 1, vI 0, vI 4], [], aq_h m s F c_8)) rfl rfl ?_
  refine am_E.go (t2 := (138, [vR y, vI 4, vI 1, vI 3, vI 1, vI 0, vI 4], [], aq_h m s F c_8)) rfl rfl ?_
  refine am_E.go (t2 := (139, [vR y, vI 4, vI 1, vI 3, vI 1, vI 0, vI 4], [vI 1], aq_h m s F c_8)) rfl rfl ?_
  refine am_E.go (t2 := (140, [vR y, vI 4, vI 1, vI 3, vI 1, vI 0, vI 4], [vI 4, vI 1], aq_h m s F c_8)) rfl rfl ?_
  refine am_E.go (t2 := (143, [vR y, vI 4, vI 1, vI 3, vI 1, vI 0, vI 4], [], aq_h m s F c_8)) rfl rfl ?_
  refine am_E.go (t2 := (144, [vR y, vI 4, vI 1, vI 3, vI 1, vI 0, vI 4], [vR y], aq_h m s F c_8)) rfl rfl ?_
  refine aq_gf (v := vR (y + 13)) rfl (by omega) hFo (by decide) rfl ?_
  show am_E _ (147, [vR y, vI 4, vI 1, vI 3, vI 1, vI 0, vI 4], [vR (y + 13)], aq_h m s F c_8) _
  refine am_E.go (t2 := (148, [vR y, vI 4, vI 1, vI 3, vI 1, vI 0, vI 4], [vI 1, vR (y + 13)], aq_h m s F c_8)) rfl rfl ?_
  refine aq_al (ok := fun k => k == 1) (v := vI (c_8 (y + 13) 1)) rfl rfl (by omega) hG13 rfl (by decide) (by decide) rfl ?_
  rw [mtc_8.2.1]
  show am_E _ (149, [vR y, vI 4, vI 1, vI 3, vI 1, vI 0, vI 4], [vI 0], aq_h m s F c_8) _
  refine am_E.go (t2 := (152, [vR y, vI 4, vI 1, vI 3, vI 1, vI 0, vI 4], [], aq_h m s F c_8)) rfl rfl ?_
  refine am_E.go (t2 := (153, [vR y, vI 4, vI 1, vI 3, vI 1, vI 0, vI 4], [vR y], aq_h m s F c_8)) rfl rfl ?_
  refine aq_gf (v := vR (y + 19)) rfl (by omega) hFo (by decide) rfl ?_
  show am_E _ (156, [vR y, vI 4, vI 1, vI 3, vI 1, vI 0, vI 4], [vR (y + 19)], aq_h m s F c_8) _
  refine am_E.go (t2 := (157, [vR y, vI 4, vI 1, vI 3, vI 1, vI 0, vI 4], [vI 1, vR (y + 19)], aq_h m s F c_8)) rfl rfl ?_
  refine aq_al (ok := fun k => k == 0) (v := vI (c_8 (y + 19) 1)) rfl rfl (by omega) hG19 rfl (by decide) (by decide) rfl ?_
  rw [sc_8 (y + 19) (by omega), hB1]
  show am_E _ (158, [vR y, vI 4, vI 1, vI 3, vI 1, vI 0, vI 4], [vI 2], aq_h m s F c_8) _
  refine am_E.go (t2 := (159, [vR y, vI 4, vI 1, vI 3, vI 1, vI 0, vI 4], [vI 4, vI 2], aq_h m s F c_8)) rfl rfl ?_
  refine am_E.go (t2 := (165, [vR y, vI 4, vI 1, vI 3, vI 1, vI 0, vI 4], [], aq_h m s F c_8)) rfl rfl ?_
  refine am_E.go (t2 := (168, [vR y, vI 4, vI 2, vI 3, vI 1, vI 0, vI 4], [], aq_h m s F c_8)) rfl rfl ?_
  refine am_E.go (t2 := (138, [vR y, vI 4, vI 2, vI 3, vI 1, vI 0, vI 4], [], aq_h m s F c_8)) rfl rfl ?_
  refine am_E.go (t2 := (139, [vR y, vI 4, vI 2, vI 3, vI 1, vI 0, vI 4], [vI 2], aq_h m s F c_8)) rfl rfl ?_
  refine am_E.go (t2 := (140, [vR y, vI 4, vI 2, vI 3, vI 1, vI 0, vI 4], [vI 4, vI 2], aq_h m s F c_8)) rfl rfl ?_
  refine am_E.go (t2 := (143, [vR y, vI 4, vI 2, vI 3, vI 1, vI 0, vI 4], [], aq_h m s F c_8)) rfl rfl ?_
  refine am_E.go (t2 := (144, [vR y, vI 4, vI 2, vI 3, vI 1, vI 0, vI 4], [vR y], aq_h m s F c_8)) rfl rfl ?_
  refine aq_gf (v := vR (y + 13)) rfl (by omega) hFo (by decide) rfl ?_
  show am_E _ (147, [vR y, vI 4, vI 2, vI 3, vI 1, vI 0, vI 4], [vR (y + 13)], aq_h m s F c_8) _
  refine am_E.go (t2 := (148, [vR y, vI 4, vI 2, vI 3, vI 1, vI 0, vI 4], [vI 2, vR (y + 13)], aq_h m s F c_8)) rfl rfl ?_
  refine aq_al (ok := fun k => k == 1) (v := vI (c_8 (y + 13) 2)) rfl rfl (by omega) hG13 rfl (by decide) (by decide) rfl ?_
  rw [mtc_8.2.2.1]
  show am_E _ (149, [vR y, vI 4, vI 2, vI 3, vI 1, vI 0, vI 4], [vI 0], aq_h m s F c_8) _
  refine am_E.go (t2 := (152, [vR y, vI 4, vI 2, vI 3, vI 1, vI 0, vI 4], [], aq_h m s F c_8)) rfl rfl ?_
  refine am_E.go (t2 := (153, [vR y, vI 4, vI 2, vI 3, vI 1, vI 0, vI 4], [vR y], aq_h m s F c_8)) rfl rfl ?_
  refine aq_gf (v := vR (y + 19)) rfl (by omega) hFo (by decide) rfl ?_
  show am_E _ (156, [vR y, vI 4, vI 2, vI 3, vI 1, vI 0, vI 4], [vR (y + 19)], aq_h m s F c_8) _
  refine am_E.go (t2 := (157, [vR y, vI 4, vI 2, vI 3, vI 1, vI 0, vI 4], [vI 2, vR (y + 19)], aq_h m s F c_8)) rfl rfl ?_
  refine aq_al (ok := fun k => k == 0) (v := vI (c_8 (y + 19) 2)) rfl rfl (by omega) hG19 rfl (by decide) (by decide) rfl ?_
  rw [sc_8 (y + 19) (by omega), hB2]
  show am_E _ (158, [vR y, vI 4, vI 2, vI 3, vI 1, vI 0, vI 4], [vI 1], aq_h m s F c_8) _
  refine am_E.go (t2 := (159, [vR y, vI 4, vI 2, vI 3, vI 1, vI 0, vI 4], [vI 4, vI 1], aq_h m s F c_8)) rfl rfl ?_
  refine am_E.go (t2 := (165, [vR y, vI 4, vI 2, vI 3, vI 1, vI 0, vI 4], [], aq_h m s F c_8)) rfl rfl ?_
  refine am_E.go (t2 := (168, [vR y, vI 4, vI 3, vI 3, vI 1, vI 0, vI 4], [], aq_h m s F c_8)) rfl rfl ?_
  refine am_E.go (t2 := (138, [vR y, vI 4, vI 3, vI 3, vI 1, vI 0, vI 4], [], aq_h m s F c_8)) rfl rfl ?_
  refine am_E.go (t2 := (139, [vR y, vI 4, vI 3, vI 3, vI 1, vI 0, vI 4], [vI 3], aq_h m s F c_8)) rfl rfl ?_
  refine am_E.go (t2 := (140, [vR y, vI 4, vI 3, vI 3, vI 1, vI 0, vI 4], [vI 4, vI 3], aq_h m s F c_8)) rfl rfl ?_
  refine am_E.go (t2 := (143, [vR y, vI 4, vI 3, vI 3, vI 1, vI 0, vI 4], [], aq_h m s F c_8)) rfl rfl ?_
  refine am_E.go (t2 := (144, [vR y, vI 4, vI 3, vI 3, vI 1, vI 0, vI 4], [vR y], aq_h m s F c_8)) rfl rfl ?_
  refine aq_gf (v := vR (y + 13)) rfl (by omega) hFo (by decide) rfl ?_
  show am_E _ (147, [vR y, vI 4, vI 3, vI 3, vI 1, vI 0, vI 4], [vR (y + 13)], aq_h m s F c_8) _
  refine am_E.go (t2 := (148, [vR y, vI 4, vI 3, vI 3, vI 1, vI 0, vI 4], [vI 3, vR (y + 13)], aq_h m s F c_8)) rfl rfl ?_
  refine aq_al (ok := fun k => k == 1) (v := vI (c_8 (y + 13) 3)) rfl rfl (by omega) hG13 rfl (by decide) (by decide) rfl ?_
  rw [mtc_8.2.2.2]
  show am_E _ (149, [vR y, vI 4, vI 3, vI 3, vI 1, vI 0, vI 4], [vI 1], aq_h m s F c_8) _
  refine am_E.go (t2 := (165, [vR y, vI 4, vI 3, vI 3, vI 1, vI 0, vI 4], [], aq_h m s F c_8)) rfl rfl ?_
  refine am_E.go (t2 := (168, [vR y, vI 4, vI 4, vI 3, vI 1, vI 0, vI 4], [], aq_h m s F c_8)) rfl rfl ?_
  refine am_E.go (t2 := (138, [vR y, vI 4, vI 4, vI 3, vI 1, vI 0, vI 4], [], aq_h m s F c_8)) rfl rfl ?_
  refine am_E.go (t2 := (139, [vR y, vI 4, vI 4, vI 3, vI 1, vI 0, vI 4], [vI 4], aq_h m s F c_8)) rfl rfl ?_
  refine am_E.go (t2 := (140, [vR y, vI 4, vI 4, vI 3, vI 1, vI 0, vI 4], [vI 4, vI 4], aq_h m s F c_8)) rfl rfl ?_
  refine am_E.go (t2 := (171, [vR y, vI 4, vI 4, vI 3, vI 1, vI 0, vI 4], [], aq_h m s F c_8)) rfl rfl ?_
  refine am_E.go (t2 := (172, [vR y, vI 4, vI 4, vI 3, vI 1, vI 0, vI 4], [vI 0], aq_h m s F c_8)) rfl rfl ?_
  refine am_E.go (t2 := (173, [vR y, vI 4, vI 0, vI 3, vI 1, vI 0, vI 4], [], aq_h m s F c_8)) rfl rfl ?_
  refine am_E.go (t2 := (174, [vR y, vI 4, vI 0, vI 3, vI 1, vI 0, vI 4], [vI 0], aq_h m s F c_8)) rfl rfl ?_
  refine am_E.go (t2 := (175, [vR y, vI 4, vI 0, vI 0, vI 1, vI 0, vI 4], [], aq_h m s F c_8)) rfl rfl ?_
  refine am_E.go (t2 := (176, [vR y, vI 4, vI 0, vI 0, vI 1, vI 0, vI 4], [vI 0], aq_h m s F c_8)) rfl rfl ?_
  refine am_E.go (t2 := (177, [vR y, vI 4, vI 0, vI 0, vI 1, vI 0, vI 4], [vI 4, vI 0], aq_h m s F c_8)) rfl rfl ?_
  refine am_E.go (t2 := (180, [vR y, vI 4, vI 0, vI 0, vI 1, vI 0, vI 4], [], aq_h m s F c_8)) rfl rfl ?_
  refine am_E.go (t2 := (181, [vR y, vI 4, vI 0, vI 0, vI 1, vI 0, vI 4], [vR y], aq_h m s F c_8)) rfl rfl ?_
  refine aq_gf (v := vR (y + 13)) rfl (by omega) hFo (by decide) rfl ?_
  show am_E _ (184, [vR y, vI 4, vI 0, vI 0, vI 1, vI 0, vI 4], [vR (y + 13)], aq_h m s F c_8) _
  refine am_E.go (t2 := (185, [vR y, vI 4, vI 0, vI 0, vI 1, vI 0, vI 4], [vI 0, vR (y + 13)], aq_h m s F c_8)) rfl rfl ?_
  refine aq_al (ok := fun k => k == 1) (v := vI (c_8 (y + 13) 0)) rfl rfl (by omega) hG13 rfl (by decide) (by decide) rfl ?_
  rw [mtc_8.1]
  show am_E _ (186, [vR y, vI 4, vI 0, vI 0, vI 1, vI 0, vI 4], [vI 1], aq_h m s F c_8) _
  refine am_E.go (t2 := (253, [vR y, vI 4, vI 0, vI 0, vI 1, vI 0, vI 4], [], aq_h m s F c_8)) rfl rfl ?_
  refine am_E.go (t2 := (256, [vR y, vI 4, vI 0, vI 1, vI 1, vI 0, vI 4], [], aq_h m s F c_8)) rfl rfl ?_
  refine am_E.go (t2 := (175, [vR y, vI 4, vI 0, vI 1, vI 1, vI 0, vI 4], [], aq_h m s F c_8)) rfl rfl ?_
  refine am_E.go (t2 := (176, [vR y, vI 4, vI 0, vI 1, vI 1, vI 0, vI 4], [vI 1], aq_h m s F c_8)) rfl rfl ?_
  refine am_E.go (t2 := (177, [vR y, vI 4, vI 0, vI 1, vI 1, vI 0, vI 4], [vI 4, vI 1], aq_h m s F c_8)) rfl rfl ?_
  refine am_E.go (t2 := (180, [vR y, vI 4, vI 0, vI 1, vI 1, vI 0, vI 4], [], aq_h m s F c_8)) rfl rfl ?_
  refine am_E.go (t2 := (181, [vR y, vI 4, vI 0, vI 1, vI 1, vI 0, vI 4], [vR y], aq_h m s F c_8)) rfl rfl ?_
  refine aq_gf (v := vR (y + 13)) rfl (by omega) hFo (by decide) rfl ?_
  show am_E _ (184, [vR y, vI 4, vI 0, vI 1, vI 1, vI 0, vI 4], [vR (y + 13)], aq_h m s F c_8) _
  refine am_E.go (t2 := (185, [vR y, vI 4, vI 0, vI 1, vI 1, vI 0, vI 4], [vI 1, vR (y + 13)], aq_h m s F c_8)) rfl rfl ?_
  refine aq_al (ok := fun k => k == 1) (v := vI (c_8 (y + 13) 1)) rfl rfl (by omega) hG13 rfl (by decide) (by decide) rfl ?_
  rw [mtc_8.2.1]
  show am_E _ (186, [vR y, vI 4, vI 0, vI 1, vI 1, vI 0, vI 4], [vI 0], aq_h m s F c_8) _
  refine am_E.go (t2 := (189, [vR y, vI 4, vI 0, vI 1, vI 1, vI 0, vI 4], [], aq_h m s F c_8)) rfl rfl ?_
  refine am_E.go (t2 := (192, [vR y, vI 4, vI 1, vI 1, vI 1, vI 0, vI 4], [], aq_h m s F c_8)) rfl rfl ?_
  refine am_E.go (t2 := (193, [vR y, vI 4, vI 1, vI 1, vI 1, vI 0, vI 4], [vI 1], aq_h m s F c_8)) rfl rfl ?_
  refine am_E.go (t2 := (195, [vR y, vI 4, vI 1, vI 1, vI 1, vI 0, vI 4], [], aq_h m s F c_8)) rfl rfl ?_
  refine am_E.go (t2 := (196, [vR y, vI 4, vI 1, vI 1, vI 1, vI 0, vI 4], [vI 1], aq_h m s F c_8)) rfl rfl ?_
  refine am_E.go (t2 := (198, [vR y, vI 4, vI 1, vI 1, vI 1, vI 1, vI 4], [], aq_h m s F c_8)) rfl rfl ?_
  refine am_E.go (t2 := (200, [vR y, vI 4, vI 1, vI 1, vI 1, vI 1, vI 4], [vI 1], aq_h m s F c_8)) rfl rfl ?_
  refine am_E.go (t2 := (203, [vR y, vI 4, vI 1, vI 1, vI 1, vI 1, vI 4], [], aq_h m s F c_8)) rfl rfl ?_
  refine am_E.go (t2 := (204, [vR y, vI 4, vI 1, vI 1, vI 1, vI 1, vI 4], [vR y], aq_h m s F c_8)) rfl rfl ?_
  refine aq_gf (v := vR (y + 13)) rfl (by omega) hFo (by decide) rfl ?_
  show am_E _ (207, [vR y, vI 4, vI 1, vI 1, vI 1, vI 1, vI 4], [vR (y + 13)], aq_h m s F c_8) _
  refine am_E.go (t2 := (209, [vR y, vI 4, vI 1, vI 1, vI 1, vI 1, vI 4], [vI 1, vR (y + 13)], aq_h m s F c_8)) rfl rfl ?_
  refine am_E.go (t2 := (210, [vR y, vI 4, vI 1, vI 1, vI 1, vI 1, vI 4], [vI 1, vI 1, vR (y + 13)], aq_h m s F c_8)) rfl rfl ?_
  refine aq_as (kd := 1) rfl rfl (by omega) hG13 (by omega) (by omega) rfl rfl ?_
  show am_E _ (211, [vR y, vI 4, vI 1, vI 1, vI 1, vI 1, vI 4], [], aq_h m s F (aq_u c_8 (y + 13) 1 1)) _
  generalize hdc_9 : aq_u c_8 (y + 13) 1 1 = c_9
  have sc_9 := aq_smu sc_8 hdc_9 rfl
  have mtc_9 := mt_1 mtc_8 hdc_9
  refine am_E.go (t2 := (212, [vR y, vI 4, vI 1, vI 1, vI 1, vI 1, vI 4], [vR y], aq_h m s F c_9)) rfl rfl ?_
  refine aq_gf (v := vR (y + 18)) rfl (by omega) hFo (by decide) rfl ?_
  show am_E _ (215, [vR y, vI 4, vI 1, vI 1, vI 1, vI 1, vI 4], [vR (y + 18)], aq_h m s F c_9) _
  refine am_E.go (t2 := (217, [vR y, vI 4, vI 1, vI 1, vI 1, vI 1, vI 4], [vI 1, vR (y + 18)], aq_h m s F c_9)) rfl rfl ?_
  refine aq_al (ok := fun k => k == 0) (v := vI (c_9 (y + 18) 1)) rfl rfl (by omega) hG18 rfl (by decide) (by decide) rfl ?_
  rw [sc_9 (y + 18) (by omega), hA1]
  show am_E _ (218, [vR y, vI 4, vI 1, vI 1, vI 1, vI 1, vI 4], [vI 2], aq_h m s F c_9) _
  refine am_E.go (t2 := (220, [vR y, vI 4, vI 1, vI 1, vI 2, vI 1, vI 4], [], aq_h m s F c_9)) rfl rfl ?_
  refine am_E.go (t2 := (221, [vR y, vI 4, vI 1, vI 1, vI 2, vI 1, vI 4], [vR y], aq_h m s F c_9)) rfl rfl ?_
  refine aq_gf (v := vR (y + 13)) rfl (by omega) hFo (by decide) rfl ?_
  show am_E _ (224, [vR y, vI 4, vI 1, vI 1, vI 2, vI 1, vI 4], [vR (y + 13)], aq_h m s F c_9) _
  refine am_E.go (t2 := (226, [vR y, vI 4, vI 1, vI 1, vI 2, vI 1, vI 4], [vI 2, vR (y + 13)], aq_h m s F c_9)) rfl rfl ?_
  refine am_E.go (t2 := (227, [vR y, vI 4, vI 1, vI 1, vI 2, vI 1, vI 4], [vI 1, vI 2, vR (y + 13)], aq_h m s F c_9)) rfl rfl ?_
  refine aq_as (kd := 1) rfl rfl (by omega) hG13 (by omega) (by omega) rfl rfl ?_
  show am_E _ (228, [vR y, vI 4, vI 1, vI 1, vI 2, vI 1, vI 4], [], aq_h m s F (aq_u c_9 (y + 13) 2 1)) _
  generalize hdc_10 : aq_u c_9 (y + 13) 2 1 = c_10
  have sc_10 := aq_smu sc_9 hdc_10 rfl
  have mtc_10 := mt_2 mtc_9 hdc_10
  refine am_E.go (t2 := (229, [vR y, vI 4, vI 1, vI 1, vI 2, vI 1, vI 4], [vR y], aq_h m s F c_10)) rfl rfl ?_
  refine aq_gf (v := vR (y + 19)) rfl (by omega) hFo (by decide) rfl ?_
  show am_E _ (232, [vR y, vI 4, vI 1, vI 1, vI 2, vI 1, vI 4], [vR (y + 19)], aq_h m s F c_10) _
  refine am_E.go (t2 := (234, [vR y, vI 4, vI 1, vI 1, vI 2, vI 1, vI 4], [vI 2, vR (y + 19)], aq_h m s F c_10)) rfl rfl ?_
  refine aq_al (ok := fun k => k == 0) (v := vI (c_10 (y + 19) 2)) rfl rfl (by omega) hG19 rfl (by decide) (by decide) rfl ?_
  rw [sc_10 (y + 19) (by omega), hB2]
  show am_E _ (235, [vR y, vI 4, vI 1, vI 1, vI 2, vI 1, vI 4], [vI 1], aq_h m s F c_10) _
  refine am_E.go (t2 := (237, [vR y, vI 4, vI 1, vI 1, vI 1, vI 1, vI 4], [], aq_h m s F c_10)) rfl rfl ?_
  refine am_E.go (t2 := (239, [vR y, vI 4, vI 1, vI 1, vI 1, vI 1, vI 4], [vI 1], aq_h m s F c_10)) rfl rfl ?_
  refine am_E.go (t2 := (240, [vR y, vI 4, vI 1, vI 1, vI 1, vI 1, vI 4], [vI 1, vI 1], aq_h m s F c_10)) rfl rfl ?_
  refine am_E.go (t2 := (247, [vR y, vI 4, vI 1, vI 1, vI 1, vI 1, vI 4], [], aq_h m s F c_10)) rfl rfl ?_
  refine am_E.go (t2 := (248, [vR y, vI 4, vI 1, vI 1, vI 1, vI 1, vI 4], [vI 0], aq_h m s F c_10)) rfl rfl ?_
  refine am_E.go (t2 := (250, [vR y, vI 4, vI 1, vI 1, vI 1, vI 0, vI 4], [], aq_h m s F c_10)) rfl rfl ?_
  refine am_E.go (t2 := (198, [vR y, vI 4, vI 1, vI 1, vI 1, vI 0, vI 4], [], aq_h m s F c_10)) rfl rfl ?_
  refine am_E.go (t2 := (200, [vR y, vI 4, vI 1, vI 1, vI 1, vI 0, vI 4], [vI 0], aq_h m s F c_10)) rfl rfl ?_
  refine am_E.go (t2 := (253, [vR y, vI 4, vI 1, vI 1, vI 1, vI 0, vI 4], [], aq_h m s F c_10)) rfl rfl ?_
  refine am_E.go (t2 := (256, [vR y, vI 4, vI 1, vI 2, vI 1, vI 0, vI 4], [], aq_h m s F c_10)) rfl rfl ?_
  refine am_E.go (t2 := (175, [vR y, vI 4, vI 1, vI 2, vI 1, vI 0, vI 4], [], aq_h m s F c_10)) rfl rfl ?_
  refine am_E.go (t2 := (176, [vR y, vI 4, vI 1, vI 2, vI 1, vI 0, vI 4], [vI 2], aq_h m s F c_10)) rfl rfl ?_
  refine am_E.go (t2 := (177, [vR y, vI 4, vI 1, vI 2, vI 1, vI 0, vI 4], [vI 4, vI 2], aq_h m s F c_10)) rfl rfl ?_
  refine am_E.go (t2 := (180, [vR y, vI 4, vI 1, vI 2, vI 1, vI 0, vI 4], [], aq_h m s F c_10)) rfl rfl ?_
  refine am_E.go (t2 := (181, [vR y, vI 4, vI 1, vI 2, vI 1, vI 0, vI 4], [vR y], aq_h m s F c_10)) rfl rfl ?_
  refine aq_gf (v := vR (y + 13)) rfl (by omega) hFo (by decide) rfl ?_
  show am_E _ (184, [vR y, vI 4, vI 1, vI 2, vI 1, vI 0, vI 4], [vR (y + 13)], aq_h m s F c_10) _
  refine am_E.go (t2 := (185, [vR y, vI 4, vI 1, vI 2, vI 1, vI 0, vI 4], [vI 2, vR (y + 13)], aq_h m s F c_10)) rfl rfl ?_
  refine aq_al (ok := fun k => k == 1) (v := vI (c_10 (y + 13) 2)) rfl rfl (by omega) hG13 rfl (by decide) (by decide) rfl ?_
  rw [mtc_10.2.2.1]
  show am_E _ (186, [vR y, vI 4, vI 1, vI 2, vI 1, vI 0, vI 4], [vI 1], aq_h m s F c_10) _
  refine am_E.go (t2 := (253, [vR y, vI 4, vI 1, vI 2, vI 1, vI 0, vI 4], [], aq_h m s F c_10)) rfl rfl ?_
  refine am_E.go (t2 := (256, [vR y, vI 4, vI 1, vI 3, vI 1, vI 0, vI 4], [], aq_h m s F c_10)) rfl rfl ?_
  refine am_E.go (t2 := (175, [vR y, vI 4, vI 1, vI 3, vI 1, vI 0, vI 4], [], aq_h m s F c_10)) rfl rfl ?_
  refine am_E.go (t2 := (176, [vR y, vI 4, vI 1, vI 3, vI 1, vI 0, vI 4], [vI 3], aq_h m s F c_10)) rfl rfl ?_
  refine am_E.go (t2 := (177, [vR y, vI 4, vI 1, vI 3, vI 1, vI 0, vI 4], [vI 4, vI 3], aq_h m s F c_10)) rfl rfl ?_
  refine am_E.go (t2 := (180, [vR y, vI 4, vI 1, vI 3, vI 1, vI 0, vI 4], [], aq_h m s F c_10)) rfl rfl ?_
  refine am_E.go (t2 := (181, [vR y, vI 4, vI 1, vI 3, vI 1, vI 0, vI 4], [vR y], aq_h m s F c_10)) rfl rfl ?_
  refine aq_gf (v := vR (y + 13)) rfl (by omega) hFo (by decide) rfl ?_
  show am_E _ (184, [vR y, vI 4, vI 1, vI 3, vI 1, vI 0, vI 4], [vR (y + 13)], aq_h m s F c_10) _
  refine am_E.go (t2 := (185, [vR y, vI 4, vI 1, vI 3, vI 1, vI 0, vI 4], [vI 3, vR (y + 13)], aq_h m s F c_10)) rfl rfl ?_
  refine aq_al (ok := fun k => k == 1) (v := vI (c_10 (y + 13) 3)) rfl rfl (by omega) hG13 rfl (by decide) (by decide) rfl ?_
  rw [mtc_10.2.2.2]
  show am_E _ (186, [vR y, vI 4, vI 1, vI 3, vI 1, vI 0, vI 4], [vI 1], aq_h m s F c_10) _
  refine am_E.go (t2 := (253, [vR y, vI 4, vI 1, vI 3, vI 1, vI 0, vI 4], [], aq_h m s F c_10)) rfl rfl ?_
  refine am_E.go (t2 := (256, [vR y, vI 4, vI 1, vI 4, vI 1, vI 0, vI 4], [], aq_h m s F c_10)) rfl rfl ?_
  refine am_E.go (t2 := (175, [vR y, vI 4, vI 1, vI 4, vI 1, vI 0, vI 4], [], aq_h m s F c_10)) rfl rfl ?_
  refine am_E.go (t2 := (176, [vR y, vI 4, vI 1, vI 4, vI 1, vI 0, vI 4], [vI 4], aq_h m s F c_10)) rfl rfl ?_
  refine am_E.go (t2 := (177, [vR y, vI 4, vI 1, vI 4, vI 1, vI 0, vI 4], [vI 4, vI 4], aq_h m s F c_10)) rfl rfl ?_
  refine am_E.go (t2 := (259, [vR y, vI 4, vI 1, vI 4, vI 1, vI 0, vI 4], [], aq_h m s F c_10)) rfl rfl ?_
  refine am_E.go (t2 := (260, [vR y, vI 4, vI 1, vI 4, vI 1, vI 0, vI 4], [vI 1], aq_h m s F c_10)) rfl rfl ?_
  refine am_E.ret rfl rfl ?_
  exact ⟨_, rfl, sc_10, rfl⟩

theorem qm_fo_4212 {m s : Nat} {F : aq_F} {c : aq_C} {y : Nat} (hO : mo_0 m F y) (hA0 : c (y + 18) 0 = 4) (hA1 : c (y + 18) 1 = 2) (hA2 : c (y + 18) 2 = 1) (hA3 : c (y + 18) 3 = 4) (hB0 : c (y + 19) 0 = 4) (hB1 : c (y + 19) 1 = 4) (hB2 : c (y + 19) 2 = 3) (hB3 : c (y + 19) 3 = 2) : am_E ac_X5_formOf (0, [vR y, vI 4, vU, vU, vU, vU, vU], [], aq_h m s F c) (aq_Z m s F (fun a => a = y + 13) c (fun r _ => r = some (vI 0))) := by
  obtain ⟨hm, hFo, hG5, hG6, hG7, hG8, hG9, hG10, hG11, hG12, hG13, hG14, hG15, hG16, hG17, hG18, hG19, hG20, hG21, hG22, hG23⟩ := hO
  have hmt : mt_ y (c (y + 13) 0) (c (y + 13) 1) (c (y + 13) 2) (c (y + 13) 3) c := ⟨rfl, rfl, rfl, rfl⟩
  refine am_E.go (t2 := (1, [vR y, vI 4, vU, vU, vU, vU, vU], [vI 0], aq_h m s F c)) rfl rfl ?_
  refine am_E.go (t2 := (2, [vR y, vI 4, vI 0, vU, vU, vU, vU], [], aq_h m s F c)) rfl rfl ?_
  refine am_E.go (t2 := (3, [vR y, vI 4, vI 0, vU, vU, vU, vU], [vI 0], aq_h m s F c)) rfl rfl ?_
  refine am_E.go (t2 := (4, [vR y, vI 4, vI 0, vU, vU, vU, vU], [vI 4, vI 0], aq_h m s F c)) rfl rfl ?_
  refine am_E.go (t2 := (7, [vR y, vI 4, vI 0, vU, vU, vU, vU], [], aq_h m s F c)) rfl rfl ?_
  refine am_E.go (t2 := (8, [vR y, vI 4, vI 0, vU, vU, vU, vU], [vR y], aq_h m s F c)) rfl rfl ?_
  refine aq_gf (v := vR (y + 13)) rfl (by omega) hFo (by decide) rfl ?_
  show am_E _ (11, [vR y, vI 4, vI 0, vU, vU, vU, vU], [vR (y + 13)], aq_h m s F c) _
  refine am_E.go (t2 := (12, [vR y, vI 4, vI 0, vU, vU, vU, vU], [vI 0, vR (y + 13)], aq_h m s F c)) rfl rfl ?_
  refine am_E.go (t2 := (13, [vR y, vI 4, vI 0, vU, vU, vU, vU], [vI 0, vI 0, vR (y + 13)], aq_h m s F c)) rfl rfl ?_
  refine aq_as (kd := 1) rfl rfl (by omega) hG13 (by omega) (by omega) rfl rfl ?_
  show am_E _ (14, [vR y, vI 4, vI 0, vU, vU, vU, vU], [], aq_h m s F (aq_u c (y + 13) 0 0)) _
  generalize hdc_1 : aq_u c (y + 13) 0 0 = c_1
  have sc_1 := aq_smu (aq_sm0 (c := c) (S := fun a => a = y + 13)) hdc_1 rfl
  have mtc_1 := mt_0 hmt hdc_1
  refine am_E.go (t2 := (17, [vR y, vI 4, vI 1, vU, vU, vU, vU], [], aq_h m s F c_1)) rfl rfl ?_
  refine am_E.go (t2 := (2, [vR y, vI 4, vI 1, vU, vU, vU, vU], [], aq_h m s F c_1)) rfl rfl ?_
  refine am_E.go (t2 := (3, [vR y, vI 4, vI 1, vU, vU, vU, vU], [vI 1], aq_h m s F c_1)) rfl rfl ?_
  refine am_E.go (t2 := (4, [vR y, vI 4, vI 1, vU, vU, vU, vU], [vI 4, vI 1], aq_h m s F c_1)) rfl rfl ?_
  refine am_E.go (t2 := (7, [vR y, vI 4, vI 1, vU, vU, vU, vU], [], aq_h m s F c_1)) rfl rfl ?_
  refine am_E.go (t2 := (8, [vR y, vI 4, vI 1, vU, vU, vU, vU], [vR y], aq_h m s F c_1)) rfl rfl ?_
  refine aq_gf (v := vR (y + 13)) rfl (by omega) hFo (by decide) rfl ?_
  show am_E _ (11, [vR y, vI 4, vI 1, vU, vU, vU, vU], [vR (y + 13)], aq_h m s F c_1) _
  refine am_E.go (t2 := (12, [vR y, vI 4, vI 1, vU, vU, vU, vU], [vI 1, vR (y + 13)], aq_h m s F c_1)) rfl rfl ?_
  refine am_E.go (t2 := (13, [vR y, vI 4, vI 1, vU, vU, vU, vU], [vI 0, vI 1, vR (y + 13)], aq_h m s F c_1)) rfl rfl ?_
  refine aq_as (kd := 1) rfl rfl (by omega) hG13 (by omega) (by omega) rfl rfl ?_
  show am_E _ (14, [vR y, vI 4, vI 1, vU, vU, vU, vU], [], aq_h m s F (aq_u c_1 (y + 13) 1 0)) _
  generalize hdc_2 : aq_u c_1 (y + 13) 1 0 = c_2
  have sc_2 := aq_smu sc_1 hdc_2 rfl
  have mtc_2 := mt_1 mtc_1 hdc_2
  refine am_E.go (t2 := (17, [vR y, vI 4, vI 2, vU, vU, vU, vU], [], aq_h m s F c_2)) rfl rfl ?_
  refine am_E.go (t2 := (2, [vR y, vI 4, vI 2, vU, vU, vU, vU], [], aq_h m s F c_2)) rfl rfl ?_
  refine am_E.go (t2 := (3, [vR y, vI 4, vI 2, vU, vU, vU, vU], [vI 2], aq_h m s F c_2)) rfl rfl ?_
  refine am_E.go (t2 := (4, [vR y, vI 4, vI 2, vU, vU, vU, vU], [vI 4, vI 2], aq_h m s F c_2)) rfl rfl ?_
  refine am_E.go (t2 := (7, [vR y, vI 4, vI 2, vU, vU, vU, vU], [], aq_h m s F c_2)) rfl rfl ?_
  refine am_E.go (t2 := (8, [vR y, vI 4, vI 2, vU, vU, vU, vU], [vR y], aq_h m s F c_2)) rfl rfl ?_
  refine aq_gf (v := vR (y + 13)) rfl (by omega) hFo (by decide) rfl ?_
  show am_E _ (11, [vR y, vI 4, vI 2, vU, vU, vU, vU], [vR (y + 13)], aq_h m s F c_2) _
  refine am_E.go (t2 := (12, [vR y, vI 4, vI 2, vU, vU, vU, vU], [vI 2, vR (y + 13)], aq_h m s F c_2)) rfl rfl ?_
  refine am_E.go (t2 := (13, [vR y, vI 4, vI 2, vU, vU, vU, vU], [vI 0, vI 2, vR (y + 13)], aq_h m s F c_2)) rfl rfl ?_
  refine aq_as (kd := 1) rfl rfl (by omega) hG13 (by omega) (by omega) rfl rfl ?_
  show am_E _ (14, [vR y, vI 4, vI 2, vU, vU, vU, vU], [], aq_h m s F (aq_u c_2 (y + 13) 2 0)) _
  generalize hdc_3 : aq_u c_2 (y + 13) 2 0 = c_3
  have sc_3 := aq_smu sc_2 hdc_3 rfl
  have mtc_3 := mt_2 mtc_2 hdc_3
  refine am_E.go (t2 := (17, [vR y, vI 4, vI 3, vU, vU, vU, vU], [], aq_h m s F c_3)) rfl rfl ?_
  refine am_E.go (t2 := (2, [vR y, vI 4, vI 3, vU, vU, vU, vU], [], aq_h m s F c_3)) rfl rfl ?_
  refine am_E.go (t2 := (3, [vR y, vI 4, vI 3, vU, vU, vU, vU], [vI 3], aq_h m s F c_3)) rfl rfl ?_
  refine am_E.go (t2 := (4, [vR y, vI 4, vI 3, vU, vU, vU, vU], [vI 4, vI 3], aq_h m s F c_3)) rfl rfl ?_
  refine am_E.go (t2 := (7, [vR y, vI 4, vI 3, vU, vU, vU, vU], [], aq_h m s F c_3)) rfl rfl ?_
  refine am_E.go (t2 := (8, [vR y, vI 4, vI 3, vU, vU, vU, vU], [vR y], aq_h m s F c_3)) rfl rfl ?_
  refine aq_gf (v := vR (y + 13)) rfl (by omega) hFo (by decide) rfl ?_
  show am_E _ (11, [vR y, vI 4, vI 3, vU, vU, vU, vU], [vR (y + 13)], aq_h m s F c_3) _
  refine am_E.go (t2 := (12, [vR y, vI 4, vI 3, vU, vU, vU, vU], [vI 3, vR (y + 13)], aq_h m s F c_3)) rfl rfl ?_
  refine am_E.go (t2 := (13, [vR y, vI 4, vI 3, vU, vU, vU, vU], [vI 0, vI 3, vR (y + 13)], aq_h m s F c_3)) rfl rfl ?_
  refine aq_as (kd := 1) rfl rfl (by omega) hG13 (by omega) (by omega) rfl rfl ?_
  show am_E _ (14, [vR y, vI 4, vI 3, vU, vU, vU, vU], [], aq_h m s F (aq_u c_3 (y + 13) 3 0)) _
  generalize hdc_4 : aq_u c_3 (y + 13) 3 0 = c_4
  have sc_4 := aq_smu sc_3 hdc_4 rfl
  have mtc_4 := mt_3 mtc_3 hdc_4
  refine am_E.go (t2 := (17, [vR y, vI 4, vI 4, vU, vU, vU, vU], [], aq_h m s F c_4)) rfl rfl ?_
  refine am_E.go (t2 := (2, [vR y, vI 4, vI 4, vU, vU, vU, vU], [], aq_h m s F c_4)) rfl rfl ?_
  refine am_E.go (t2 := (3, [vR y, vI 4, vI 4, vU, vU, vU, vU], [vI 4], aq_h m s F c_4)) rfl rfl ?_
  refine am_E.go (t2 := (4, [vR y, vI 4, vI 4, vU, vU, vU, vU], [vI 4, vI 4], aq_h m s F c_4)) rfl rfl ?_
  refine am_E.go (t2 := (20, [vR y, vI 4, vI 4, vU, vU, vU, vU], [], aq_h m s F c_4)) rfl rfl ?_
  refine am_E.go (t2 := (21, [vR y, vI 4, vI 4, vU, vU, vU, vU], [vI 0], aq_h m s F c_4)) rfl rfl ?_
  refine am_E.go (t2 := (22, [vR y, vI 4, vI 0, vU, vU, vU, vU], [], aq_h m s F c_4)) rfl rfl ?_
  refine am_E.go (t2 := (23, [vR y, vI 4, vI 0, vU, vU, vU, vU], [vI 0], aq_h m s F c_4)) rfl rfl ?_
  refine am_E.go (t2 := (24, [vR y, vI 4, vI 0, vU, vU, vU, vU], [vI 4, vI 0], aq_h m s F c_4)) rfl rfl ?_
  refine am_E.go (t2 := (27, [vR y, vI 4, vI 0, vU, vU, vU, vU], [], aq_h m s F c_4)) rfl rfl ?_
  refine am_E.go (t2 := (28, [vR y, vI 4, vI 0, vU, vU, vU, vU], [vR y], aq_h m s F c_4)) rfl rfl ?_
  refine aq_gf (v := vR (y + 18)) rfl (by omega) hFo (by decide) rfl ?_
  show am_E _ (31, [vR y, vI 4, vI 0, vU, vU, vU, vU], [vR (y + 18)], aq_h m s F c_4) _
  refine am_E.go (t2 := (32, [vR y, vI 4, vI 0, vU, vU, vU, vU], [vI 0, vR (y + 18)], aq_h m s F c_4)) rfl rfl ?_
  refine aq_al (ok := fun k => k == 0) (v := vI (c_4 (y + 18) 0)) rfl rfl (by omega) hG18 rfl (by decide) (by decide) rfl ?_
  rw [sc_4 (y + 18) (by omega), hA0]
  show am_E _ (33, [vR y, vI 4, vI 0, vU, vU, vU, vU], [vI 4], aq_h m s F c_4) _
  refine am_E.go (t2 := (34, [vR y, vI 4, vI 0, vU, vU, vU, vU], [vI 4, vI 4], aq_h m s F c_4)) rfl rfl ?_
  refine am_E.go (t2 := (37, [vR y, vI 4, vI 0, vU, vU, vU, vU], [], aq_h m s F c_4)) rfl rfl ?_
  refine am_E.go (t2 := (38, [vR y, vI 4, vI 0, vU, vU, vU, vU], [vI 0], aq_h m s F c_4)) rfl rfl ?_
  refine am_E.go (t2 := (39, [vR y, vI 4, vI 0, vI 0, vU, vU, vU], [], aq_h m s F c_4)) rfl rfl ?_
  refine am_E.go (t2 := (40, [vR y, vI 4, vI 0, vI 0, vU, vU, vU], [vI 1], aq_h m s F c_4)) rfl rfl ?_
  refine am_E.go (t2 := (42, [vR y, vI 4, vI 0, vI 0, vI 1, vU, vU], [], aq_h m s F c_4)) rfl rfl ?_
  refine am_E.go (t2 := (43, [vR y, vI 4, vI 0, vI 0, vI 1, vU, vU], [vI 1], aq_h m s F c_4)) rfl rfl ?_
  refine am_E.go (t2 := (45, [vR y, vI 4, vI 0, vI 0, vI 1, vI 1, vU], [], aq_h m s F c_4)) rfl rfl ?_
  refine am_E.go (t2 := (47, [vR y, vI 4, vI 0, vI 0, vI 1, vI 1, vU], [vI 1], aq_h m s F c_4)) rfl rfl ?_
  refine am_E.go (t2 := (50, [vR y, vI 4, vI 0, vI 0, vI 1, vI 1, vU], [], aq_h m s F c_4)) rfl rfl ?_
  refine am_E.go (t2 := (51, [vR y, vI 4, vI 0, vI 0, vI 1, vI 1, vU], [vR y], aq_h m s F c_4)) rfl rfl ?_
  refine aq_gf (v := vR (y + 13)) rfl (by omega) hFo (by decide) rfl ?_
  show am_E _ (54, [vR y, vI 4, vI 0, vI 0, vI 1, vI 1, vU], [vR (y + 13)], aq_h m s F c_4) _
  refine am_E.go (t2 := (55, [vR y, vI 4, vI 0, vI 0, vI 1, vI 1, vU], [vI 0, vR (y + 13)], aq_h m s F c_4)) rfl rfl ?_
  refine am_E.go (t2 := (56, [vR y, vI 4, vI 0, vI 0, vI 1, vI 1, vU], [vI 1, vI 0, vR (y + 13)], aq_h m s F c_4)) rfl rfl ?_
  refine aq_as (kd := 1) rfl rfl (by omega) hG13 (by omega) (by omega) rfl rfl ?_
  show am_E _ (57, [vR y, vI 4, vI 0, vI 0, vI 1, vI 1, vU], [], aq_h m s F (aq_u c_4 (y + 13) 0 1)) _
  generalize hdc_5 : aq_u c_4 (y + 13) 0 1 = c_5
  have sc_5 := aq_smu sc_4 hdc_5 rfl
  have mtc_5 := mt_0 mtc_4 hdc_5
  refine am_E.go (t2 := (59, [vR y, vI 4, vI 0, vI 0, vI 1, vI 1, vU], [vI 1], aq_h m s F c_5)) rfl rfl ?_
  refine am_E.go (t2 := (62, [vR y, vI 4, vI 0, vI 0, vI 1, vI 1, vU], [], aq_h m s F c_5)) rfl rfl ?_
  refine am_E.go (t2 := (63, [vR y, vI 4, vI 0, vI 0, vI 1, vI 1, vU], [vR y], aq_h m s F c_5)) rfl rfl ?_
  refine aq_gf (v := vR (y + 19)) rfl (by omega) hFo (by decide) rfl ?_
  show am_E _ (66, [vR y, vI 4, vI 0, vI 0, vI 1, vI 1, vU], [vR (y + 19)], aq_h m s F c_5) _
  refine am_E.go (t2 := (67, [vR y, vI 4, vI 0, vI 0, vI 1, vI 1, vU], [vI 0, vR (y + 19)], aq_h m s F c_5)) rfl rfl ?_
  refine aq_al (ok := fun k => k == 0) (v := vI (c_5 (y + 19) 0)) rfl rfl (by omega) hG19 rfl (by decide) (by decide) rfl ?_
  rw [sc_5 (y + 19) (by omega), hB0]
  show am_E _ (68, [vR y, vI 4, vI 0, vI 0, vI 1, vI 1, vU], [vI 4], aq_h m s F c_5) _
  refine am_E.go (t2 := (77, [vR y, vI 4, vI 0, vI 0, vI 1, vI 1, vU], [vI 4], aq_h m s F c_5)) rfl rfl ?_
  refine am_E.go (t2 := (79, [vR y, vI 4, vI 0, vI 0, vI 1, vI 1, vI 4], [], aq_h m s F c_5)) rfl rfl ?_
  refine am_E.go (t2 := (81, [vR y, vI 4, vI 0, vI 0, vI 1, vI 1, vI 4], [vI 4], aq_h m s F c_5)) rfl rfl ?_
  refine am_E.go (t2 := (82, [vR y, vI 4, vI 0, vI 0, vI 1, vI 1, vI 4], [vI 4, vI 4], aq_h m s F c_5)) rfl rfl ?_
  refine am_E.go (t2 := (89, [vR y, vI 4, vI 0, vI 0, vI 1, vI 1, vI 4], [], aq_h m s F c_5)) rfl rfl ?_
  refine am_E.go (t2 := (90, [vR y, vI 4, vI 0, vI 0, vI 1, vI 1, vI 4], [vI 0], aq_h m s F c_5)) rfl rfl ?_
  refine am_E.go (t2 := (92, [vR y, vI 4, vI 0, vI 0, vI 1, vI 0, vI 4], [], aq_h m s F c_5)) rfl rfl ?_
  refine am_E.go (t2 := (94, [vR y, vI 4, vI 0, vI 0, vI 1, vI 0, vI 4], [vI 0], aq_h m s F c_5)) rfl rfl ?_
  refine am_E.go (t2 := (112, [vR y, vI 4, vI 0, vI 0, vI 1, vI 0, vI 4], [], aq_h m s F c_5)) rfl rfl ?_
  refine am_E.go (t2 := (45, [vR y, vI 4, vI 0, vI 0, vI 1, vI 0, vI 4], [], aq_h m s F c_5)) rfl rfl ?_
  refine am_E.go (t2 := (47, [vR y, vI 4, vI 0, vI 0, vI 1, vI 0, vI 4], [vI 0], aq_h m s F c_5)) rfl rfl ?_
  refine am_E.go (t2 := (115, [vR y, vI 4, vI 0, vI 0, vI 1, vI 0, vI 4], [], aq_h m s F c_5)) rfl rfl ?_
  refine am_E.go (t2 := (116, [vR y, vI 4, vI 0, vI 0, vI 1, vI 0, vI 4], [vR y], aq_h m s F c_5)) rfl rfl ?_
  refine aq_gf (v := vR (y + 13)) rfl (by omega) hFo (by decide) rfl ?_
  show am_E _ (119, [vR y, vI 4, vI 0, vI 0, vI 1, vI 0, vI 4], [vR (y + 13)], aq_h m s F c_5) _
  refine am_E.go (t2 := (120, [vR y, vI 4, vI 0, vI 0, vI 1, vI 0, vI 4], [vI 0, vR (y + 13)], aq_h m s F c_5)) rfl rfl ?_
  refine am_E.go (t2 := (121, [vR y, vI 4, vI 0, vI 0, vI 1, vI 0, vI 4], [vI 1, vI 0, vR (y + 13)], aq_h m s F c_5)) rfl rfl ?_
  refine aq_as (kd := 1) rfl rfl (by omega) hG13 (by omega) (by omega) rfl rfl ?_
  show am_E _ (122, [vR y, vI 4, vI 0, vI 0, vI 1, vI 0, vI 4], [], aq_h m s F (aq_u c_5 (y + 13) 0 1)) _
  generalize hdc_6 : aq_u c_5 (y + 13) 0 1 = c_6
  have sc_6 := aq_smu sc_5 hdc_6 rfl
  have mtc_6 := mt_0 mtc_5 hdc_6
  refine am_E.go (t2 := (124, [vR y, vI 4, vI 0, vI 0, vI 1, vI 0, vI 4], [vI 1], aq_h m s F c_6)) rfl rfl ?_
  refine am_E.go (t2 := (130, [vR y, vI 4, vI 0, vI 0, vI 1, vI 0, vI 4], [], aq_h m s F c_6)) rfl rfl ?_
  refine am_E.go (t2 := (133, [vR y, vI 4, vI 1, vI 0, vI 1, vI 0, vI 4], [], aq_h m s F c_6)) rfl rfl ?_
  refine am_E.go (t2 := (22, [vR y, vI 4, vI 1, vI 0, vI 1, vI 0, vI 4], [], aq_h m s F c_6)) rfl rfl ?_
  refine am_E.go (t2 := (23, [vR y, vI 4, vI 1, vI 0, vI 1, vI 0, vI 4], [vI 1], aq_h m s F c_6)) rfl rfl ?_
  refine am_E.go (t2 := (24, [vR y, vI 4, vI 1, vI 0, vI 1, vI 0, vI 4], [vI 4, vI 1], aq_h m s F c_6)) rfl rfl ?_
  refine am_E.go (t2 := (27, [vR y, vI 4, vI 1, vI 0, vI 1, vI 0, vI 4], [], aq_h m s F c_6)) rfl rfl ?_
  refine am_E.go (t2 := (28, [vR y, vI 4, vI 1, vI 0, vI 1, vI 0, vI 4], [vR y], aq_h m s F c_6)) rfl rfl ?_
  refine aq_gf (v := vR (y + 18)) rfl (by omega) hFo (by decide) rfl ?_
  show am_E _ (31, [vR y, vI 4, vI 1, vI 0, vI 1, vI 0, vI 4], [vR (y + 18)], aq_h m s F c_6) _
  refine am_E.go (t2 := (32, [vR y, vI 4, vI 1, vI 0, vI 1, vI 0, vI 4], [vI 1, vR (y + 18)], aq_h m s F c_6)) rfl rfl ?_
  refine aq_al (ok := fun k => k == 0) (v := vI (c_6 (y + 18) 1)) rfl rfl (by omega) hG18 rfl (by decide) (by decide) rfl ?_
  rw [sc_6 (y + 18) (by omega), hA1]
  show am_E _ (33, [vR y, vI 4, vI 1, vI 0, vI 1, vI 0, vI 4], [vI 2], aq_h m s F c_6) _
  refine am_E.go (t2 := (34, [vR y, vI 4, vI 1, vI 0, vI 1, vI 0, vI 4], [vI 4, vI 2], aq_h m s F c_6)) rfl rfl ?_
  refine am_E.go (t2 := (130, [vR y, vI 4, vI 1, vI 0, vI 1, vI 0, vI 4], [], aq_h m s F c_6)) rfl rfl ?_
  refine am_E.go (t2 := (133, [vR y, vI 4, vI 2, vI 0, vI 1, vI 0, vI 4], [], aq_h m s F c_6)) rfl rfl ?_
  refine am_E.go (t2 := (22, [vR y, vI 4, vI 2, vI 0, vI 1, vI 0, vI 4], [], aq_h m s F c_6)) rfl rfl ?_
  refine am_E.go (t2 := (23, [vR y, vI 4, vI 2, vI 0, vI 1, vI 0, vI 4], [vI 2], aq_h m s F c_6)) rfl rfl ?_
  refine am_E.go (t2 := (24, [vR y, vI 4, vI 2, vI 0, vI 1, vI 0, vI 4], [vI 4, vI 2], aq_h m s F c_6)) rfl rfl ?_
  refine am_E.go (t2 := (27, [vR y, vI 4, vI 2, vI 0, vI 1, vI 0, vI 4], [], aq_h m s F c_6)) rfl rfl ?_
  refine am_E.go (t2 := (28, [vR y, vI 4, vI 2, vI 0, vI 1, vI 0, vI 4], [vR y], aq_h m s F c_6)) rfl rfl ?_
  refine aq_gf (v := vR (y + 18)) rfl (by omega) hFo (by decide) rfl ?_
  show am_E _ (31, [vR y, vI 4, vI 2, vI 0, vI 1, vI 0, vI 4], [vR (y + 18)], aq_h m s F c_6) _
  refine am_E.go (t2 := (32, [vR y, vI 4, vI 2, vI 0, vI 1, vI 0, vI 4], [vI 2, vR (y + 18)], aq_h m s F c_6)) rfl rfl ?_
  refine aq_al (ok := fun k => k == 0) (v := vI (c_6 (y + 18) 2)) rfl rfl (by omega) hG18 rfl (by decide) (by decide) rfl ?_
  rw [sc_6 (y + 18) (by omega), hA2]
  show am_E _ (33, [vR y, vI 4, vI 2, vI 0, vI 1, vI 0, vI 4], [vI 1], aq_h m s F c_6) _
  refine am_E.go (t2 := (34, [vR y, vI 4, vI 2, vI 0, vI 1, vI 0, vI 4], [vI 4, vI 1], aq_h m s F c_6)) rfl rfl ?_
  refine am_E.go (t2 := (130, [vR y, vI 4, vI 2, vI 0, vI 1, vI 0, vI 4], [], aq_h m s F c_6)) rfl rfl ?_
  refine am_E.go (t2 := (133, [vR y, vI 4, vI 3, vI 0, vI 1, vI 0, vI 4], [], aq_h m s F c_6)) rfl rfl ?_
  refine am_E.go (t2 := (22, [vR y, vI 4, vI 3, vI 0, vI 1, vI 0, vI 4], [], aq_h m s F c_6)) rfl rfl ?_
  refine am_E.go (t2 := (23, [vR y, vI 4, vI 3, vI 0, vI 1, vI 0, vI 4], [vI 3], aq_h m s F c_6)) rfl rfl ?_
  refine am_E.go (t2 := (24, [vR y, vI 4, vI 3, vI 0, vI 1, vI 0, vI 4], [vI 4, vI 3], aq_h m s F c_6)) rfl rfl ?_
  refine am_E.go (t2 := (27, [vR y, vI 4, vI 3, vI 0, vI 1, vI 0, vI 4], [], aq_h m s F c_6)) rfl rfl ?_
  refine am_E.go (t2 := (28, [vR y, vI 4, vI 3, vI 0, vI 1, vI 0, vI 4], [vR y], aq_h m s F c_6)) rfl rfl ?_
  refine aq_gf (v := vR (y + 18)) rfl (by omega) hFo (by decide) rfl ?_
  show am_E _ (31, [vR y, vI 4, vI 3, vI 0, vI 1, vI 0, vI 4], [vR (y + 18)], aq_h m s F c_6) _
  refine am_E.go (t2 := (32, [vR y, vI 4, vI 3, vI 0, vI 1, vI 0, vI 4], [vI 3, vR (y + 18)], aq_h m s F c_6)) rfl rfl ?_
  refine aq_al (ok := fun k => k == 0) (v := vI (c_6 (y + 18) 3)) rfl rfl (by omega) hG18 rfl (by decide) (by decide) rfl ?_
  rw [sc_6 (y + 18) (by omega), hA3]
  show am_E _ (33, [vR y, vI 4, vI 3, vI 0, vI 1, vI 0, vI 4], [vI 4], aq_h m s F c_6) _
  refine am_E.go (t2 := (34, [vR y, vI 4, vI 3, vI 0, vI 1, vI 0, vI 4], [vI 4, vI 4], aq_h m s F c_6)) rfl rfl ?_
  refine am_E.go (t2 := (37, [vR y, vI 4, vI 3, vI 0, vI 1, vI 0, vI 4], [], aq_h m s F c_6)) rfl rfl ?_
  refine am_E.go (t2 := (38, [vR y, vI 4, vI 3, vI 0, vI 1, vI 0, vI 4], [vI 3], aq_h m s F c_6)) rfl rfl ?_
  refine am_E.go (t2 := (39, [vR y, vI 4, vI 3, vI 3, vI 1, vI 0, vI 4], [], aq_h m s F c_6)) rfl rfl ?_
  refine am_E.go (t2 := (40, [vR y, vI 4, vI 3, vI 3, vI 1, vI 0, vI 4], [vI 1], aq_h m s F c_6)) rfl rfl ?_
  refine am_E.go (t2 := (42, [vR y, vI 4, vI 3, vI 3, vI 1, vI 0, vI 4], [], aq_h m s F c_6)) rfl rfl ?_
  refine am_E.go (t2 := (43, [vR y, vI 4, vI 3, vI 3, vI 1, vI 0, vI 4], [vI 1], aq_h m s F c_6)) rfl rfl ?_
  refine am_E.go (t2 := (45, [vR y, vI 4, vI 3, vI 3, vI 1, vI 1, vI 4], [], aq_h m s F c_6)) rfl rfl ?_
  refine am_E.go (t2 := (47, [vR y, vI 4, vI 3, vI 3, vI 1, vI 1, vI 4], [vI 1], aq_h m s F c_6)) rfl rfl ?_
  refine am_E.go (t2 := (50, [vR y, vI 4, vI 3, vI 3, vI 1, vI 1, vI 4], [], aq_h m s F c_6)) rfl rfl ?_
  refine am_E.go (t2 := (51, [vR y, vI 4, vI 3, vI 3, vI 1, vI 1, vI 4], [vR y], aq_h m s F c_6)) rfl rfl ?_
  refine aq_gf (v := vR (y + 13)) rfl (by omega) hFo (by decide) rfl ?_
  show am_E _ (54, [vR y, vI 4, vI 3, vI 3, vI 1, vI 1, vI 4], [vR (y + 13)], aq_h m s F c_6) _
  refine am_E.go (t2 := (55, [vR y, vI 4, vI 3, vI 3, vI 1, vI 1, vI 4], [vI 3, vR (y + 13)], aq_h m s F c_6)) rfl rfl ?_
  refine am_E.go (t2 := (56, [vR y, vI 4, vI 3, vI 3, vI 1, vI 1, vI 4], [vI 1, vI 3, vR (y + 13)], aq_h m s F c_6)) rfl rfl ?_
  refine aq_as (kd := 1) rfl rfl (by omega) hG13 (by omega) (by omega) rfl rfl ?_
  show am_E _ (57, [vR y, vI 4, vI 3, vI 3, vI 1, vI 1, vI 4], [], aq_h m s F (aq_u c_6 (y + 13) 3 1)) _
  generalize hdc_7 : aq_u c_6 (y + 13) 3 1 = c_7
  have sc_7 := aq_smu sc_6 hdc_7 rfl
  have mtc_7 := mt_3 mtc_6 hdc_7
  refine am_E.go (t2 := (59, [vR y, vI 4, vI 3, vI 3, vI 1, vI 1, vI 4], [vI 1], aq_h m s F c_7)) rfl rfl ?_
  refine am_E.go (t2 := (62, [vR y, vI 4, vI 3, vI 3, vI 1, vI 1, vI 4], [], aq_h m s F c_7)) rfl rfl ?_
  refine am_E.go (t2 := (63, [vR y, vI 4, vI 3, vI 3, vI 1, vI 1, vI 4], [vR y], aq_h m s F c_7)) rfl rfl ?_
  refine aq_gf (v := vR (y + 19)) rfl (by omega) hFo (by decide) rfl ?_
  show am_E _ (66, [vR y, vI 4, vI 3, vI 3, vI 1, vI 1, vI 4], [vR (y + 19)], aq_h m s F c_7) _
  refine am_E.go (t2 := (67, [vR y, vI 4, vI 3, vI 3, vI 1, vI 1, vI 4], [vI 3, vR (y + 19)], aq_h m s F c_7)) rfl rfl ?_
  refine aq_al (ok := fun k => k == 0) (v := vI (c_7 (y + 19) 3)) rfl rfl (by omega) hG19 rfl (by decide) (by decide) rfl ?_
  rw [sc_7 (y + 19) (by omega), hB3]
  show am_E _ (68, [vR y, vI 4, vI 3, vI 3, vI 1, vI 1, vI 4], [vI 2], aq_h m s F c_7) _
  refine am_E.go (t2 := (77, [vR y, vI 4, vI 3, vI 3, vI 1, vI 1, vI 4], [vI 2], aq_h m s F c_7)) rfl rfl ?_
  refine am_E.go (t2 := (79, [vR y, vI 4, vI 3, vI 3, vI 1, vI 1, vI 2], [], aq_h m s F c_7)) rfl rfl ?_
  refine am_E.go (t2 := (81, [vR y, vI 4, vI 3, vI 3, vI 1, vI 1, vI 2], [vI 2], aq_h m s F c_7)) rfl rfl ?_
  refine am_E.go (t2 := (82, [vR y, vI 4, vI 3, vI 3, vI 1, vI 1, vI 2], [vI 4, vI 2], aq_h m s F c_7)) rfl rfl ?_
  refine am_E.go (t2 := (85, [vR y, vI 4, vI 3, vI 3, vI 1, vI 1, vI 2], [], aq_h m s F c_7)) rfl rfl ?_
  refine am_E.go (t2 := (86, [vR y, vI 4, vI 3, vI 3, vI 1, vI 1, vI 2], [vI 1], aq_h m s F c_7)) rfl rfl ?_
  refine am_E.go (t2 := (90, [vR y, vI 4, vI 3, vI 3, vI 1, vI 1, vI 2], [vI 1], aq_h m s F c_7)) rfl rfl ?_
  refine am_E.go (t2 := (92, [vR y, vI 4, vI 3, vI 3, vI 1, vI 1, vI 2], [], aq_h m s F c_7)) rfl rfl ?_
  refine am_E.go (t2 := (94, [vR y, vI 4, vI 3, vI 3, vI 1, vI 1, vI 2], [vI 1], aq_h m s F c_7)) rfl rfl ?_
  refine am_E.go (t2 := (97, [vR y, vI 4, vI 3, vI 3, vI 1, vI 1, vI 2], [], aq_h m s F c_7)) rfl rfl ?_
  refine am_E.go (t2 := (99, [vR y, vI 4, vI 3, vI 3, vI 1, vI 1, vI 2], [vI 2], aq_h m s F c_7)) rfl rfl ?_
  refine am_E.go (t2 := (100, [vR y, vI 4, vI 3, vI 2, vI 1, vI 1, vI 2], [], aq_h m s F c_7)) rfl rfl ?_
  refine am_E.go (t2 := (102, [vR y, vI 4, vI 3, vI 2, vI 1, vI 1, vI 2], [vI 1], aq_h m s F c_7)) rfl rfl ?_
  refine am_E.go (t2 := (109, [vR y, vI 4, vI 3, vI 2, vI 1, vI 1, vI 2], [], aq_h m s F c_7)) rfl rfl ?_
  refine am_E.go (t2 := (110, [vR y, vI 4, vI 3, vI 2, vI 1, vI 1, vI 2], [vI 0], aq_h m s F c_7)) rfl rfl ?_
  refine am_E.go (t2 := (112, [vR y, vI 4, vI 3, vI 2, vI 0, vI 1, vI 2], [], aq_h m s F c_7)) rfl rfl ?_
  refine am_E.go (t2 := (45, [vR y, vI 4, vI 3, vI 2, vI 0, vI 1, vI 2], [], aq_h m s F c_7)) rfl rfl ?_
  refine am_E.go (t2 := (47, [vR y, vI 4, vI 3, vI 2, vI 0, vI 1, vI 2], [vI 1], aq_h m s F c_7)) rfl rfl ?_
  refine am_E.go (t2 := (50, [vR y, vI 4, vI 3, vI 2, vI 0, vI 1, vI 2], [], aq_h m s F c_7)) rfl rfl ?_
  refine am_E.go (t2 := (51, [vR y, vI 4, vI 3, vI 2, vI 0, vI 1, vI 2], [vR y], aq_h m s F c_7)) rfl rfl ?_
  refine aq_gf (v := vR (y + 13)) rfl (by omega) hFo (by decide) rfl ?_
  show am_E _ (54, [vR y, vI 4, vI 3, vI 2, vI 0, vI 1, vI 2], [vR (y + 13)], aq_h m s F c_7) _
  refine am_E.go (t2 := (55, [vR y, vI 4, vI 3, vI 2, vI 0, vI 1, vI 2], [vI 2, vR (y + 13)], aq_h m s F c_7)) rfl rfl ?_
  refine am_E.go (t2 := (56, [vR y, vI 4, vI 3, vI 2, vI 0, vI 1, vI 2], [vI 1, vI 2, vR (y + 13)], aq_h m s F c_7)) rfl rfl ?_
  refine aq_as (kd := 1) rfl rfl (by omega) hG13 (by omega) (by omega) rfl rfl ?_
  show am_E _ (57, [vR y, vI 4, vI 3, vI 2, vI 0, vI 1, vI 2], [], aq_h m s F (aq_u c_7 (y + 13) 2 1)) _
  generalize hdc_8 : aq_u c_7 (y + 13) 2 1 = c_8
  have sc_8 := aq_smu sc_7 hdc_8 rfl
  have mtc_8 := mt_2 mtc_7 hdc_8
  refine am_E.go (t2 := (59, [vR y, vI 4, vI 3, vI 2, vI 0, vI 1, vI 2], [vI 0], aq_h m s F c_8)) rfl rfl ?_
  refine am_E.go (t2 := (71, [vR y, vI 4, vI 3, vI 2, vI 0, vI 1, vI 2], [], aq_h m s F c_8)) rfl rfl ?_
  refine am_E.go (t2 := (72, [vR y, vI 4, vI 3, vI 2, vI 0, vI 1, vI 2], [vR y], aq_h m s F c_8)) rfl rfl ?_
  refine aq_gf (v := vR (y + 18)) rfl (by omega) hFo (by decide) rfl ?_
  show am_E _ (75, [vR y, vI 4, vI 3, vI 2, vI 0, vI 1, vI 2], [vR (y + 18)], aq_h m s F c_8) _
  refine am_E.go (t2 := (76, [vR y, vI 4, vI 3, vI 2, vI 0, vI 1, vI 2], [vI 2, vR (y + 18)], aq_h m s F c_8)) rfl rfl ?_
  refine aq_al (ok := fun k => k == 0) (v := vI (c_8 (y + 18) 2)) rfl rfl (by omega) hG18 rfl (by decide) (by decide) rfl ?_
  rw [sc_8 (y + 18) (by omega), hA2]
  show am_E _ (77, [vR y, vI 4, vI 3, vI 2, vI 0, vI 1, vI 2], [vI 1], aq_h m s F c_8) _
  refine am_E.go (t2 := (79, [vR y, vI 4, vI 3, vI 2, vI 0, vI 1, vI 1], [], aq_h m s F c_8)) rfl rfl ?_
  refine am_E.go (t2 := (81, [vR y, vI 4, vI 3, vI 2, vI 0, vI 1, vI 1], [vI 1], aq_h m s F c_8)) rfl rfl ?_
  refine am_E.go (t2 := (82, [vR y, vI 4, vI 3, vI 2, vI 0, vI 1, vI 1], [vI 4, vI 1], aq_h m s F c_8)) rfl rfl ?_
  refine am_E.go (t2 := (85, [vR y, vI 4, vI 3, vI 2, vI 0, vI 1, vI 1], [], aq_h m s F c_8)) rfl rfl ?_
  refine am_E.go (t2 := (86, [vR y, vI 4, vI 3, vI 2, vI 0, vI 1, vI 1], [vI 1], aq_h m s F c_8)) rfl rfl ?_
  refine am_E.go (t2 := (90, [vR y, vI 4, vI 3, vI 2, vI 0, vI 1, vI 1], [vI 1], aq_h m s F c_8)) rfl rfl ?_
  refine am_E.go (t2 := (92, [vR y, vI 4, vI 3, vI 2, vI 0, vI 1, vI 1], [], aq_h m s F c_8)) rfl rfl ?_
  refine am_E.go (t2 := (94, [vR y, vI 4, vI 3, vI 2, vI 0, vI 1, vI 1], [vI 1], aq_h m s F c_8)) rfl rfl ?_
  refine am_E.go (t2 := (97, [vR y, vI 4, vI 3, vI 2, vI 0, vI 1, vI 1], [], aq_h m s F c_8)) rfl rfl ?_
  refine am_E.go (t2 := (99, [vR y, vI 4, vI 3, vI 2, vI 0, vI 1, vI 1], [vI 1], aq_h m s F c_8)) rfl rfl ?_
  refine am_E.go (t2 := (100, [vR y, vI 4, vI 3, vI 1, vI 0, vI 1, vI 1], [], aq_h m s F c_8)) rfl rfl ?_
  refine am_E.go (t2 := (102, [vR y, vI 4, vI 3, vI 1, vI 0, vI 1, vI 1], [vI 0], aq_h m s F c_8)) rfl rfl ?_
  refine am_E.go (t2 := (105, [vR y, vI 4, vI 3, vI 1, vI 0, vI 1, vI 1], [], aq_h m s F c_8)) rfl rfl ?_
  refine am_E.go (t2 := (106, [vR y, vI 4, vI 3, vI 1, vI 0, vI 1, vI 1], [vI 1], aq_h m s F c_8)) rfl rfl ?_
  refine am_E.go (t2 := (110, [vR y, vI 4, vI 3, vI 1, vI 0, vI 1, vI 1], [vI 1], aq_h m s F c_8)) rfl rfl ?_
  refine am_E.go (t2 := (112, [vR y, vI 4, vI 3, vI 1, vI 1, vI 1, vI 1], [], aq_h m s F c_8)) rfl rfl ?_
  refine am_E.go (t2 := (45, [vR y, vI 4, vI 3, vI 1, vI 1, vI 1, vI 1], [], aq_h m s F c_8)) rfl rfl ?_
  refine am_E.go (t2 := (47, [vR y, vI 4, vI 3, vI 1, vI 1, vI 1, vI 1], [vI 1], aq_h m s F c_8)) rfl rfl ?_
  refine am_E.go (t2 := (50, [vR y, vI 4, vI 3, vI 1, vI 1, vI 1, vI 1], [], aq_h m s F c_8)) rfl rfl ?_
  refine am_E.go (t2 := (51, [vR y, vI 4, vI 3, vI 1, vI 1, vI 1, vI 1], [vR y], aq_h m s F c_8)) rfl rfl ?_
  refine aq_gf (v := vR (y + 13)) rfl (by omega) hFo (by decide) rfl ?_
  show am_E _ (54, [vR y, vI 4, vI 3, vI 1, vI 1, vI 1, vI 1], [vR (y + 13)], aq_h m s F c_8) _
  refine am_E.go (t2 := (55, [vR y, vI 4, vI 3, vI 1, vI 1, vI 1, vI 1], [vI 1, vR (y + 13)], aq_h m s F c_8)) rfl rfl ?_
  refine am_E.go (t2 := (56, [vR y, vI 4, vI 3, vI 1, vI 1, vI 1, vI 1], [vI 1, vI 1, vR (y + 13)], aq_h m s F c_8)) rfl rfl ?_
  refine aq_as (kd := 1) rfl rfl (by omega) hG13 (by omega) (by omega) rfl rfl ?_
  show am_E _ (57, [vR y, vI 4, vI 3, vI 1, vI 1, vI 1, vI 1], [], aq_h m s F (aq_u c_8 (y + 13) 1 1)) _
  generalize hdc_9 : aq_u c_8 (y + 13) 1 1 = c_9
  have sc_9 := aq_smu sc_8 hdc_9 rfl
  have mtc_9 := mt_1 mtc_8 hdc_9
  refine am_E.go (t2 := (59, [vR y, vI 4, vI 3, vI 1, vI 1, vI 1, vI 1], [vI 1], aq_h m s F c_9)) rfl rfl ?_
  refine am_E.go (t2 := (62, [vR y, vI 4, vI 3, vI 1, vI 1, vI 1, vI 1], [], aq_h m s F c_9)) rfl rfl ?_
  refine am_E.go (t2 := (63, [vR y, vI 4, vI 3, vI 1, vI 1, vI 1, vI 1], [vR y], aq_h m s F c_9)) rfl rfl ?_
  refine aq_gf (v := vR (y + 19)) rfl (by omega) hFo (by decide) rfl ?_
  show am_E _ (66, [vR y, vI 4, vI 3, vI 1, vI 1, vI 1, vI 1], [vR (y + 19)], aq_h m s F c_9) _
  refine am_E.go (t2 := (67, [vR y, vI 4, vI 3, vI 1, vI 1, vI 1, vI 1], [vI 1, vR (y + 19)], aq_h m s F c_9)) rfl rfl ?_
  refine aq_al (ok := fun k => k == 0) (v := vI (c_9 (y + 19) 1)) rfl rfl (by omega) hG19 rfl (by decide) (by decide) rfl ?_
  rw [sc_9 (y + 19) (by omega), hB1]
  show am_E _ (68, [vR y, vI 4, vI 3, vI 1, vI 1, vI 1, vI 1], [vI 4], aq_h m s F c_9) _
  refine am_E.go (t2 := (77, [vR y, vI 4, vI 3, vI 1, vI 1, vI 1, vI 1], [vI 4], aq_h m s F c_9)) rfl rfl ?_
  refine am_E.go (t2 := (79, [vR y, vI 4, vI 3, vI 1, vI 1, vI 1, vI 4], [], aq_h m s F c_9)) rfl rfl ?_
  refine am_E.go (t2 := (81, [vR y, vI 4, vI 3, vI 1, vI 1, vI 1, vI 4], [vI 4], aq_h m s F c_9)) rfl rfl ?_
  refine am_E.go (t2 := (82, [vR y, vI 4, vI 3, vI 1, vI 1, vI 1, vI 4], [vI 4, vI 4], aq_h m s F c_9)) rfl rfl ?_
  refine am_E.go (t2 := (89, [vR y, vI 4, vI 3, vI 1, vI 1, vI 1, vI 4], [], aq_h m s F c_9)) rfl rfl ?_
  refine am_E.go (t2 := (90, [vR y, vI 4, vI 3, vI 1, vI 1, vI 1, vI 4], [vI 0], aq_h m s F c_9)) rfl rfl ?_
  refine am_E.go (t2 := (92, [vR y, vI 4, vI 3, vI 1, vI 1, vI 0, vI 4], [], aq_h m s F c_9)) rfl rfl ?_
  refine am_E.go (t2 := (94, [vR y, vI 4, vI 3, vI 1, vI 1, vI 0, vI 4], [vI 0], aq_h m s F c_9)) rfl rfl ?_
  refine am_E.go (t2 := (112, [vR y, vI 4, vI 3, vI 1, vI 1, vI 0, vI 4], [], aq_h m s F c_9)) rfl rfl ?_
  refine am_E.go (t2 := (45, [vR y, vI 4, vI 3, vI 1, vI 1, vI 0, vI 4], [], aq_h m s F c_9)) rfl rfl ?_
  refine am_E.go (t2 := (47, [vR y, vI 4, vI 3, vI 1, vI 1, vI 0, vI 4], [vI 0], aq_h m s F c_9)) rfl rfl ?_
  refine am_E.go (t2 := (115, [vR y, vI 4, vI 3, vI 1, vI 1, vI 0, vI 4], [], aq_h m s F c_9)) rfl rfl ?_
  refine am_E.go (t2 := (116, [vR y, vI 4, vI 3, vI 1, vI 1, vI 0, vI 4], [vR y], aq_h m s F c_9)) rfl rfl ?_
  refine aq_gf (v := vR (y + 13)) rfl (by omega) hFo (by decide) rfl ?_
  show am_E _ (119, [vR y, vI 4, vI 3, vI 1, vI 1, vI 0, vI 4], [vR (y + 13)], aq_h m s F c_9) _
  refine am_E.go (t2 := (120, [vR y, vI 4, vI 3, vI 1, vI 1, vI 0, vI 4], [vI 1, vR (y + 13)], aq_h m s F c_9)) rfl rfl ?_
  refine am_E.go (t2 := (121, [vR y, vI 4, vI 3, vI 1, vI 1, vI 0, vI 4], [vI 1, vI 1, vR (y + 13)], aq_h m s F c_9)) rfl rfl ?_
  refine aq_as (kd := 1) rfl rfl (by omega) hG13 (by omega) (by omega) rfl rfl ?_
  show am_E _ (122, [vR y, vI 4, vI 3, vI 1, vI 1, vI 0, vI 4], [], aq_h m s F (aq_u c_9 (y + 13) 1 1)) _
  generalize hdc_10 : aq_u c_9 (y + 13) 1 1 = c_10
  have sc_10 := aq_smu sc_9 hdc_10 rfl
  have mtc_10 := mt_1 mtc_9 hdc_10
  refine am_E.go (t2 := (124, [vR y, vI 4, vI 3, vI 1, vI 1, vI 0, vI 4], [vI 1], aq_h m s F c_10)) rfl rfl ?_
  refine am_E.go (t2 := (130, [vR y, vI 4, vI 3, vI 1, vI 1, vI 0, vI 4], [], aq_h m s F c_10)) rfl rfl ?_
  refine am_E.go (t2 := (133, [vR y, vI 4, vI 4, vI 1, vI 1, vI 0, vI 4], [], aq_h m s F c_10)) rfl rfl ?_
  refine am_E.go (t2 := (22, [vR y, vI 4, vI 4, vI 1, vI 1, vI 0, vI 4], [], aq_h m s F c_10)) rfl rfl ?_
  refine am_E.go (t2 := (23, [vR y, vI 4, vI 4, vI 1, vI 1, vI 0, vI 4], [vI 4], aq_h m s F c_10)) rfl rfl ?_
  refine am_E.go (t2 := (24, [vR y, vI 4, vI 4, vI 1, vI 1, vI 0, vI 4], [vI 4, vI 4], aq_h m s F c_10)) rfl rfl ?_
  refine am_E.go (t2 := (136, [vR y, vI 4, vI 4, vI 1, vI 1, vI 0, vI 4], [], aq_h m s F c_10)) rfl rfl ?_
  refine am_E.go (t2 := (137, [vR y, vI 4, vI 4, vI 1, vI 1, vI 0, vI 4], [vI 0], aq_h m s F c_10)) rfl rfl ?_
  refine am_E.go (t2 := (138, [vR y, vI 4, vI 0, vI 1, vI 1, vI 0, vI 4], [], aq_h m s F c_10)) rfl rfl ?_
  refine am_E.go (t2 := (139, [vR y, vI 4, vI 0, vI 1, vI 1, vI 0, vI 4], [vI 0], aq_h m s F c_10)) rfl rfl ?_
  refine am_E.go (t2 := (140, [vR y, vI 4, vI 0, vI 1, vI 1, vI 0, vI 4], [vI 4, vI 0], aq_h m s F c_10)) rfl rfl ?_
  refine am_E.go (t2 := (143, [vR y, vI 4, vI 0, vI 1, vI 1, vI 0, vI 4], [], aq_h m s F c_10)) rfl rfl ?_
  refine am_E.go (t2 := (144, [vR y, vI 4, vI 0, vI 1, vI 1, vI 0, vI 4], [vR y], aq_h m s F c_10)) rfl rfl ?_
  refine aq_gf (v := vR (y + 13)) rfl (by omega) hFo (by decide) rfl ?_
  show am_E _ (147, [vR y, vI 4, vI 0, vI 1, vI 1, vI 0, vI 4], [vR (y + 13)], aq_h m s F c_10) _
  refine am_E.go (t2 := (148, [vR y, vI 4, vI 0, vI 1, vI 1, vI 0, vI 4], [vI 0, vR (y + 13)], aq_h m s F c_10)) rfl rfl ?_
  refine aq_al (ok := fun k => k == 1) (v := vI (c_10 (y + 13) 0)) rfl rfl (by omega) hG13 rfl (by decide) (by decide) rfl ?_
  rw [mtc_10.1]
  show am_E _ (149, [vR y, vI 4, vI 0, vI 1, vI 1, vI 0, vI 4], [vI 1], aq_h m s F c_10) _
  refine am_E.go (t2 := (165, [vR y, vI 4, vI 0, vI 1, vI 1, vI 0, vI 4], [], aq_h m s F c_10)) rfl rfl ?_
  refine am_E.go (t2 := (168, [vR y, vI 4, vI 1, vI 1, vI 1, vI 0, vI 4], [], aq_h m s F c_10)) rfl rfl ?_
  refine am_E.go (t2 := (138, [vR y, vI 4, vI 1, vI 1, vI 1, vI 0, vI 4], [], aq_h m s F c_10)) rfl rfl ?_
  refine am_E.go (t2 := (139, [vR y, vI 4, vI 1, vI 1, vI 1, vI 0, vI 4], [vI 1], aq_h m s F c_10)) rfl rfl ?_
  refine am_E.go (t2 := (140, [vR y, vI 4, vI 1, vI 1, vI 1, vI 0, vI 4], [vI 4, vI 1], aq_h m s F c_10)) rfl rfl ?_
  refine am_E.go (t2 := (143, [vR y, vI 4, vI 1, vI 1, vI 1, vI 0, vI 4], [], aq_h m s F c_10)) rfl rfl ?_
  refine am_E.go (t2 := (144, [vR y, vI 4, vI 1, vI 1, vI 1, vI 0, vI 4], [vR y], aq_h m s F c_10)) rfl rfl ?_
  refine aq_gf (v := vR (y + 13)) rfl (by omega) hFo (by decide) rfl ?_
  show am_E _ (147, [vR y, vI 4, vI 1, vI 1, vI 1, vI 0, vI 4], [vR (y + 13)], aq_h m s F c_10) _
  refine am_E.go (t2 := (148, [vR y, vI 4, vI 1, vI 1, vI 1, vI 0, vI 4], [vI 1, vR (y + 13)], aq_h m s F c_10)) rfl rfl ?_
  refine aq_al (ok := fun k => k == 1) (v := vI (c_10 (y + 13) 1)) rfl rfl (by omega) hG13 rfl (by decide) (by decide) rfl ?_
  rw [mtc_10.2.1]
  show am_E _ (149, [vR y, vI 4, vI 1, vI 1, vI 1, vI 0, vI 4], [vI 1], aq_h m s F c_10) _
  refine am_E.go (t2 := (165, [vR y, vI 4, vI 1, vI 1, vI 1, vI 0, vI 4], [], aq_h m s F c_10)) rfl rfl ?_
  refine am_E.go (t2 := (168, [vR y, vI 4, vI 2, vI 1, vI 1, vI 0, vI 4], [], aq_h m s F c_10)) rfl rfl ?_
  refine am_E.go (t2 := (138, [vR y, vI 4, vI 2, vI 1, vI 1, vI 0, vI 4], [], aq_h m s F c_10)) rfl rfl ?_
  refine am_E.go (t2 := (139, [vR y, vI 4, vI 2, vI 1, vI 1, vI 0, vI 4], [vI 2], aq_h m s F c_10)) rfl rfl ?_
  refine am_E.go (t2 := (140, [vR y, vI 4, vI 2, vI 1, vI 1, vI 0, vI 4], [vI 4, vI 2], aq_h m s F c_10)) rfl rfl ?_
  refine am_E.go (t2 := (143, [vR y, vI 4, vI 2, vI 1, vI 1, vI 0, vI 4], [], aq_h m s F c_10)) rfl rfl ?_
  refine am_E.go (t2 := (144, [vR y, vI 4, vI 2, vI 1, vI 1, vI 0, vI 4], [vR y], aq_h m s F c_10)) rfl rfl ?_
  refine aq_gf (v := vR (y + 13)) rfl (by omega) hFo (by decide) rfl ?_
  show am_E _ (147, [vR y, vI 4, vI 2, vI 1, vI 1, vI 0, vI 4], [vR (y + 13)], aq_h m s F c_10) _
  refine am_E.go (t2 := (148, [vR y, vI 4, vI 2, vI 1, vI 1, vI 0, vI 4], [vI 2, vR (y + 13)], aq_h m s F c_10)) rfl rfl ?_
  refine aq_al (ok := fun k => k == 1) (v := vI (c_10 (y + 13) 2)) rfl rfl (by omega) hG13 rfl (by decide) (by decide) rfl ?_
  rw [mtc_10.2.2.1]
  show am_E _ (149, [vR y, vI 4, vI 2, vI 1, vI 1, vI 0, vI 4], [vI 1], aq_h m s F c_10) _
  refine am_E.go (t2 := (165, [vR y, vI 4, vI 2, vI 1, vI 1, vI 0, vI 4], [], aq_h m s F c_10)) rfl rfl ?_
  refine am_E.go (t2 := (168, [vR y, vI 4, vI 3, vI 1, vI 1, vI 0, vI 4], [], aq_h m s F c_10)) rfl rfl ?_
  refine am_E.go (t2 := (138, [vR y, vI 4, vI 3, vI 1, vI 1, vI 0, vI 4], [], aq_h m s F c_10)) rfl rfl ?_
  refine am_E.go (t2 := (139, [vR y, vI 4, vI 3, vI 1, vI 1, vI 0, vI 4], [vI 3], aq_h m s F c_10)) rfl rfl ?_
  refine am_E.go (t2 := (140, [vR y, vI 4, vI 3, vI 1, vI 1, vI 0, vI 4], [vI 4, vI 3], aq_h m s F c_10)) rfl rfl ?_
  refine am_E.go (t2 := (143, [vR y, vI 4, vI 3, vI 1, vI 1, vI 0, vI 4], [], aq_h m s F c_10)) rfl rfl ?_
  refine am_E.go (t2 := (144, [vR y, vI 4, vI 3, vI 1, vI 1, vI 0, vI 4], [vR y], aq_h m s F c_10)) rfl rfl ?_
  refine aq_gf (v := vR (y + 13)) rfl (by omega) hFo (by decide) rfl ?_
  show am_E _ (147, [vR y, vI 4, vI 3, vI 1, vI 1, vI 0, vI 4], [vR (y + 13)], aq_h m s F c_10) _
  refine am_E.go (t2 := (148, [vR y, vI 4, vI 3, vI 1, vI 1, vI 0, vI 4], [vI 3, vR (y + 13)], aq_h m s F c_10)) rfl rfl ?_
  refine aq_al (ok := fun k => k == 1) (v := vI (c_10 (y + 13) 3)) rfl rfl (by omega) hG13 rfl (by decide) (by decide) rfl ?_
  rw [mtc_10.2.2.2]
  show am_E _ (149, [vR y, vI 4, vI 3, vI 1, vI 1, vI 0, vI 4], [vI 1], aq_h m s F c_10) _
  refine am_E.go (t2 := (165, [vR y, vI 4, vI 3, vI 1, vI 1, vI 0, vI 4], [], aq_h m s F c_10)) rfl rfl ?_
  refine am_E.go (t2 := (168, [vR y, vI 4, vI 4, vI 1, vI 1, vI 0, vI 4], [], aq_h m s F c_10)) rfl rfl ?_
  refine am_E.go (t2 := (138, [vR y, vI 4, vI 4, vI 1, vI 1, vI 0, vI 4], [], aq_h m s F c_10)) rfl rfl ?_
  refine am_E.go (t2 := (139, [vR y, vI 4, vI 4, vI 1, vI 1, vI 0, vI 4], [vI 4], aq_h m s F c_10)) rfl rfl ?_
  refine am_E.go (t2 := (140, [vR y, vI 4, vI 4, vI 1, vI 1, vI 0, vI 4], [vI 4, vI 4], aq_h m s F c_10)) rfl rfl ?_
  refine am_E.go (t2 := (171, [vR y, vI 4, vI 4, vI 1, vI 1, vI 0, vI 4], [], aq_h m s F c_10)) rfl rfl ?_
  refine am_E.go (t2 := (172, [vR y, vI 4, vI 4, vI 1, vI 1, vI 0, vI 4], [vI 0], aq_h m s F c_10)) rfl rfl ?_
  refine am_E.go (t2 := (173, [vR y, vI 4, vI 0, vI 1, vI 1, vI 0, vI 4], [], aq_h m s F c_10)) rfl rfl ?_
  refine am_E.go (t2 := (174, [vR y, vI 4, vI 0, vI 1, vI 1, vI 0, vI 4], [vI 0], aq_h m s F c_10)) rfl rfl ?_
  refine am_E.go (t2 := (175, [vR y, vI 4, vI 0, vI 0, vI 1, vI 0, vI 4], [], aq_h m s F c_10)) rfl rfl ?_
  refine am_E.go (t2 := (176, [vR y, vI 4, vI 0, vI 0, vI 1, vI 0, vI 4], [vI 0], aq_h m s F c_10)) rfl rfl ?_
  refine am_E.go (t2 := (177, [vR y, vI 4, vI 0, vI 0, vI 1, vI 0, vI 4], [vI 4, vI 0], aq_h m s F c_10)) rfl rfl ?_
  refine am_E.go (t2 := (180, [vR y, vI 4, vI 0, vI 0, vI 1, vI 0, vI 4], [], aq_h m s F c_10)) rfl rfl ?_
  refine am_E.go (t2 := (181, [vR y, vI 4, vI 0, vI 0, vI 1, vI 0, vI 4], [vR y], aq_h m s F c_10)) rfl rfl ?_
  refine aq_gf (v := vR (y + 13)) rfl (by omega) hFo (by decide) rfl ?_
  show am_E _ (184, [vR y, vI 4, vI 0, vI 0, vI 1, vI 0, vI 4], [vR (y + 13)], aq_h m s F c_10) _
  refine am_E.go (t2 := (185, [vR y, vI 4, vI 0, vI 0, vI 1, vI 0, vI 4], [vI 0, vR (y + 13)], aq_h m s F c_10)) rfl rfl ?_
  refine aq_al (ok := fun k => k == 1) (v := vI (c_10 (y + 13) 0)) rfl rfl (by omega) hG13 rfl (by decide) (by decide) rfl ?_
  rw [mtc_10.1]
  show am_E _ (186, [vR y, vI 4, vI 0, vI 0, vI 1, vI 0, vI 4], [vI 1], aq_h m s F c_10) _
  refine am_E.go (t2 := (253, [vR y, vI 4, vI 0, vI 0, vI 1, vI 0, vI 4], [], aq_h m s F c_10)) rfl rfl ?_
  refine am_E.go (t2 := (256, [vR y, vI 4, vI 0, vI 1, vI 1, vI 0, vI 4], [], aq_h m s F c_10)) rfl rfl ?_
  refine am_E.go (t2 := (175, [vR y, vI 4, vI 0, vI 1, vI 1, vI 0, vI 4], [], aq_h m s F c_10)) rfl rfl ?_
  refine am_E.go (t2 := (176, [vR y, vI 4, vI 0, vI 1, vI 1, vI 0, vI 4], [vI 1], aq_h m s F c_10)) rfl rfl ?_
  refine am_E.go (t2 := (177, [vR y, vI 4, vI 0, vI 1, vI 1, vI 0, vI 4], [vI 4, vI 1], aq_h m s F c_10)) rfl rfl ?_
  refine am_E.go (t2 := (180, [vR y, vI 4, vI 0, vI 1, vI 1, vI 0, vI 4], [], aq_h m s F c_10)) rfl rfl ?_
  refine am_E.go (t2 := (181, [vR y, vI 4, vI 0, vI 1, vI 1, vI 0, vI 4], [vR y], aq_h m s F c_10)) rfl rfl ?_
  refine aq_gf (v := vR (y + 13)) rfl (by omega) hFo (by decide) rfl ?_
  show am_E _ (184, [vR y, vI 4, vI 0, vI 1, vI 1, vI 0, vI 4], [vR (y + 13)], aq_h m s F c_10) _
  refine am_E.go (t2 := (185, [vR y, vI 4, vI 0, vI 1, vI 1, vI 0, vI 4], [vI 1, vR (y + 13)], aq_h m s F c_10)) rfl rfl ?_
  refine aq_al (ok := fun k => k == 1) (v := vI (c_10 (y + 13) 1)) rfl rfl (by omega) hG13 rfl (by decide) (by decide) rfl ?_
  rw [mtc_10.2.1]
  show am_E _ (186, [vR y, vI 4, vI 0, vI 1, vI 1, vI 0, vI 4], [vI 1], aq_h m s F c_10) _
  refine am_E.go (t2 := (253, [vR y, vI 4, vI 0, vI 1, vI 1, vI 0, vI 4], [], aq_h m s F c_10)) rfl rfl ?_
  refine am_E.go (t2 := (256, [vR y, vI 4, vI 0, vI 2, vI 1, vI 0, vI 4], [], aq_h m s F c_10)) rfl rfl ?_
  refine am_E.go (t2 := (175, [vR y, vI 4, vI 0, vI 2, vI 1, vI 0, vI 4], [], aq_h m s F c_10)) rfl rfl ?_
  refine am_E.go (t2 := (176, [vR y, vI 4, vI 0, vI 2, vI 1, vI 0, vI 4], [vI 2], aq_h m s F c_10)) rfl rfl ?_
  refine am_E.go (t2 := (177, [vR y, vI 4, vI 0, vI 2, vI 1, vI 0, vI 4], [vI 4, vI 2], aq_h m s F c_10)) rfl rfl ?_
  refine am_E.go (t2 := (180, [vR y, vI 4, vI 0, vI 2, vI 1, vI 0, vI 4], [], aq_h m s F c_10)) rfl rfl ?_
  refine am_E.go (t2 := (181, [vR y, vI 4, vI 0, vI 2, vI 1, vI 0, vI 4], [vR y], aq_h m s F c_10)) rfl rfl ?_
  refine aq_gf (v := vR (y + 13)) rfl (by omega) hFo (by decide) rfl ?_
  show am_E _ (184, [vR y, vI 4, vI 0, vI 2, vI 1, vI 0, vI 4], [vR (y + 13)], aq_h m s F c_10) _
  refine am_E.go (t2 := (185, [vR y, vI 4, vI 0, vI 2, vI 1, vI 0, vI 4], [vI 2, vR (y + 13)], aq_h m s F c_10)) rfl rfl ?_
  refine aq_al (ok := fun k => k == 1) (v := vI (c_10 (y + 13) 2)) rfl rfl (by omega) hG13 rfl (by decide) (by decide) rfl ?_
  rw [mtc_10.2.2.1]
  show am_E _ (186, [vR y, vI 4, vI 0, vI 2, vI 1, vI 0, vI 4], [vI 1], aq_h m s F c_10) _
  refine am_E.go (t2 := (253, [vR y, vI 4, vI 0, vI 2, vI 1, vI 0, vI 4], [], aq_h m s F c_10)) rfl rfl ?_
  refine am_E.go (t2 := (256, [vR y, vI 4, vI 0, vI 3, vI 1, vI 0, vI 4], [], aq_h m s F c_10)) rfl rfl ?_
  refine am_E.go (t2 := (175, [vR y, vI 4, vI 0, vI 3, vI 1, vI 0, vI 4], [], aq_h m s F c_10)) rfl rfl ?_
  refine am_E.go (t2 := (176, [vR y, vI 4, vI 0, vI 3, vI 1, vI 0, vI 4], [vI 3], aq_h m s F c_10)) rfl rfl ?_
  refine am_E.go (t2 := (177, [vR y, vI 4, vI 0, vI 3, vI 1, vI 0, vI 4], [vI 4, vI 3], aq_h m s F c_10)) rfl rfl ?_
  refine am_E.go (t2 := (180, [vR y, vI 4, vI 0, vI 3, vI 1, vI 0, vI 4], [], aq_h m s F c_10)) rfl rfl ?_
  refine am_E.go (t2 := (181, [vR y, vI 4, vI 0, vI 3, vI 1, vI 0, vI 4], [vR y], aq_h m s F c_10)) rfl rfl ?_
  refine aq_gf (v := vR (y + 13)) rfl (by omega) hFo (by decide) rfl ?_
  show am_E _ (184, [vR y, vI 4, vI 0, vI 3, vI 1, vI 0, vI 4], [vR (y + 13)], aq_h m s F c_10) _
  refine am_E.go (t2 := (185, [vR y, vI 4, vI 0, vI 3, vI 1, vI 0, vI 4], [vI 3, vR (y + 13)], aq_h m s F c_10)) rfl rfl ?_
  refine aq_al (ok := fun k => k == 1) (v := vI (c_10 (y + 13) 3)) rfl rfl (by omega) hG13 rfl (by decide) (by decide) rfl ?_
  rw [mtc_10.2.2.2]
  show am_E _ (186, [vR y, vI 4, vI 0, vI 3, vI 1, vI 0, vI 4], [vI 1], aq_h m s F c_10) _
  refine am_E.go (t2 := (253, [vR y, vI 4, vI 0, vI 3, vI 1, vI 0, vI 4], [], aq_h m s F c_10)) rfl rfl ?_
  refine am_E.go (t2 := (256, [vR y, vI 4, vI 0, vI 4, vI 1, vI 0, vI 4], [], aq_h m s F c_10)) rfl rfl ?_
  refine am_E.go (t2 := (175, [vR y, vI 4, vI 0, vI 4, vI 1, vI 0, vI 4], [], aq_h m s F c_10)) rfl rfl ?_
  refine am_E.go (t2 := (176, [vR y, vI 4, vI 0, vI 4, vI 1, vI 0, vI 4], [vI 4], aq_h m s F c_10)) rfl rfl ?_
  refine am_E.go (t2 := (177, [vR y, vI 4, vI 0, vI 4, vI 1, vI 0, vI 4], [vI 4, vI 4], aq_h m s F c_10)) rfl rfl ?_
  refine am_E.go (t2 := (259, [vR y, vI 4, vI 0, vI 4, vI 1, vI 0, vI 4], [], aq_h m s F c_10)) rfl rfl ?_
  refine am_E.go (t2 := (260, [vR y, vI 4, vI 0, vI 4, vI 1, vI 0, vI 4], [vI 0], aq_h m s F c_10)) rfl rfl ?_
  refine am_E.ret rfl rfl ?_
  exact ⟨_, rfl, sc_10, rfl⟩

theorem qm_fo_4220 {m s : Nat} {F : aq_F} {c : aq_C} {y : Nat} (hO : mo_0 m F y) (hA0 : c (y + 18) 0 = 4) (hA1 : c (y + 18) 1 = 4) (hA2 : c (y + 18) 2 = 3) (hA3 : c (y + 18) 3 = 2) (hB0 : c (y + 19) 0 = 1) (hB1 : c (y + 19) 1 = 0) (hB2 : c (y + 19) 2 = 4) (hB3 : c (y + 19) 3 = 4) : am_E ac_X5_formOf (0, [vR y, vI 4, vU, vU, vU, vU, vU], [], aq_h m s F c) (aq_Z m s F (fun a => a = y + 13) c (fun r _ => r = some (vI (-4)))) := by
  obtain ⟨hm, hFo, hG5, hG6, hG7, hG8, hG9, hG10, hG11, hG12, hG13, hG14, hG15, hG16, hG17, hG18, hG19, hG20, hG21, hG22, hG23⟩ := hO
  have hmt : mt_ y (c (y + 13) 0) (c (y + 13) 1) (c (y + 13) 2) (c (y + 13) 3) c := ⟨rfl, rfl, rfl, rfl⟩
  refine am_E.go (t2 := (1, [vR y, vI 4, vU, vU, vU, vU, vU], [vI 0], aq_h m s F c)) rfl rfl ?_
  refine am_E.go (t2 := (2, [vR y, vI 4, vI 0, vU, vU, vU, vU], [], aq_h m s F c)) rfl rfl ?_
  refine am_E.go (t2 := (3, [vR y, vI 4, vI 0, vU, vU, vU, vU], [vI 0], aq_h m s F c)) rfl rfl ?_
  refine am_E.go (t2 := (4, [vR y, vI 4, vI 0, vU, vU, vU, vU], [vI 4, vI 0], aq_h m s F c)) rfl rfl ?_
  refine am_E.go (t2 := (7, [vR y, vI 4, vI 0, vU, vU, vU, vU], [], aq_h m s F c)) rfl rfl ?_
  refine am_E.go (t2 := (8, [vR y, vI 4, vI 0, vU, vU, vU, vU], [vR y], aq_h m s F c)) rfl rfl ?_
  refine aq_gf (v := vR (y + 13)) rfl (by omega) hFo (by decide) rfl ?_
  show am_E _ (11, [vR y, vI 4, vI 0, vU, vU, vU, vU], [vR (y + 13)], aq_h m s F c) _
  refine am_E.go (t2 := (12, [vR y, vI 4, vI 0, vU, vU, vU, vU], [vI 0, vR (y + 13)], aq_h m s F c)) rfl rfl ?_
  refine am_E.go (t2 := (13, [vR y, vI 4, vI 0, vU, vU, vU, vU], [vI 0, vI 0, vR (y + 13)], aq_h m s F c)) rfl rfl ?_
  refine aq_as (kd := 1) rfl rfl (by omega) hG13 (by omega) (by omega) rfl rfl ?_
  show am_E _ (14, [vR y, vI 4, vI 0, vU, vU, vU, vU], [], aq_h m s F (aq_u c (y + 13) 0 0)) _
  generalize hdc_1 : aq_u c (y + 13) 0 0 = c_1
  have sc_1 := aq_smu (aq_sm0 (c := c) (S := fun a => a = y + 13)) hdc_1 rfl
  have mtc_1 := mt_0 hmt hdc_1
  refine am_E.go (t2 := (17, [vR y, vI 4, vI 1, vU, vU, vU, vU], [], aq_h m s F c_1)) rfl rfl ?_
  refine am_E.go (t2 := (2, [vR y, vI 4, vI 1, vU, vU, vU, vU], [], aq_h m s F c_1)) rfl rfl ?_
  refine am_E.go (t2 := (3, [vR y, vI 4, vI 1, vU, vU, vU, vU], [vI 1], aq_h m s F c_1)) rfl rfl ?_
  refine am_E.go (t2 := (4, [vR y, vI 4, vI 1, vU, vU, vU, vU], [vI 4, vI 1], aq_h m s F c_1)) rfl rfl ?_
  refine am_E.go (t2 := (7, [vR y, vI 4, vI 1, vU, vU, vU, vU], [], aq_h m s F c_1)) rfl rfl ?_
  refine am_E.go (t2 := (8, [vR y, vI 4, vI 1, vU, vU, vU, vU], [vR y], aq_h m s F c_1)) rfl rfl ?_
  refine aq_gf (v := vR (y + 13)) rfl (by omega) hFo (by decide) rfl ?_
  show am_E _ (11, [vR y, vI 4, vI 1, vU, vU, vU, vU], [vR (y + 13)], aq_h m s F c_1) _
  refine am_E.go (t2 := (12, [vR y, vI 4, vI 1, vU, vU, vU, vU], [vI 1, vR (y + 13)], aq_h m s F c_1)) rfl rfl ?_
  refine am_E.go (t2 := (13, [vR y, vI 4, vI 1, vU, vU, vU, vU], [vI 0, vI 1, vR (y + 13)], aq_h m s F c_1)) rfl rfl ?_
  refine aq_as (kd := 1) rfl rfl (by omega) hG13 (by omega) (by omega) rfl rfl ?_
  show am_E _ (14, [vR y, vI 4, vI 1, vU, vU, vU, vU], [], aq_h m s F (aq_u c_1 (y + 13) 1 0)) _
  generalize hdc_2 : aq_u c_1 (y + 13) 1 0 = c_2
  have sc_2 := aq_smu sc_1 hdc_2 rfl
  have mtc_2 := mt_1 mtc_1 hdc_2
  refine am_E.go (t2 := (17, [vR y, vI 4, vI 2, vU, vU, vU, vU], [], aq_h m s F c_2)) rfl rfl ?_
  refine am_E.go (t2 := (2, [vR y, vI 4, vI 2, vU, vU, vU, vU], [], aq_h m s F c_2)) rfl rfl ?_
  refine am_E.go (t2 := (3, [vR y, vI 4, vI 2, vU, vU, vU, vU], [vI 2], aq_h m s F c_2)) rfl rfl ?_
  refine am_E.go (t2 := (4, [vR y, vI 4, vI 2, vU, vU, vU, vU], [vI 4, vI 2], aq_h m s F c_2)) rfl rfl ?_
  refine am_E.go (t2 := (7, [vR y, vI 4, vI 2, vU, vU, vU, vU], [], aq_h m s F c_2)) rfl rfl ?_
  refine am_E.go (t2 := (8, [vR y, vI 4, vI 2, vU, vU, vU, vU], [vR y], aq_h m s F c_2)) rfl rfl ?_
  refine aq_gf (v := vR (y + 13)) rfl (by omega) hFo (by decide) rfl ?_
  show am_E _ (11, [vR y, vI 4, vI 2, vU, vU, vU, vU], [vR (y + 13)], aq_h m s F c_2) _
  refine am_E.go (t2 := (12, [vR y, vI 4, vI 2, vU, vU, vU, vU], [vI 2, vR (y + 13)], aq_h m s F c_2)) rfl rfl ?_
  refine am_E.go (t2 := (13, [vR y, vI 4, vI 2, vU, vU, vU, vU], [vI 0, vI 2, vR (y + 13)], aq_h m s F c_2)) rfl rfl ?_
  refine aq_as (kd := 1) rfl rfl (by omega) hG13 (by omega) (by omega) rfl rfl ?_
  show am_E _ (14, [vR y, vI 4, vI 2, vU, vU, vU, vU], [], aq_h m s F (aq_u c_2 (y + 13) 2 0)) _
  generalize hdc_3 : aq_u c_2 (y + 13) 2 0 = c_3
  have sc_3 := aq_smu sc_2 hdc_3 rfl
  have mtc_3 := mt_2 mtc_2 hdc_3
  refine am_E.go (t2 := (17, [vR y, vI 4, vI 3, vU, vU, vU, vU], [], aq_h m s F c_3)) rfl rfl ?_
  refine am_E.go (t2 := (2, [vR y, vI 4, vI 3, vU, vU, vU, vU], [], aq_h m s F c_3)) rfl rfl ?_
  refine am_E.go (t2 := (3, [vR y, vI 4, vI 3, vU, vU, vU, vU], [vI 3], aq_h m s F c_3)) rfl rfl ?_
  refine am_E.go (t2 := (4, [vR y, vI 4, vI 3, vU, vU, vU, vU], [vI 4, vI 3], aq_h m s F c_3)) rfl rfl ?_
  refine am_E.go (t2 := (7, [vR y, vI 4, vI 3, vU, vU, vU, vU], [], aq_h m s F c_3)) rfl rfl ?_
  refine am_E.go (t2 := (8, [vR y, vI 4, vI 3, vU, vU, vU, vU], [vR y], aq_h m s F c_3)) rfl rfl ?_
  refine aq_gf (v := vR (y + 13)) rfl (by omega) hFo (by decide) rfl ?_
  show am_E _ (11, [vR y, vI 4, vI 3, vU, vU, vU, vU], [vR (y + 13)], aq_h m s F c_3) _
  refine am_E.go (t2 := (12, [vR y, vI 4, vI 3, vU, vU, vU, vU], [vI 3, vR (y + 13)], aq_h m s F c_3)) rfl rfl ?_
  refine am_E.go (t2 := (13, [vR y, vI 4, vI 3, vU, vU, vU, vU], [vI 0, vI 3, vR (y + 13)], aq_h m s F c_3)) rfl rfl ?_
  refine aq_as (kd := 1) rfl rfl (by omega) hG13 (by omega) (by omega) rfl rfl ?_
  show am_E _ (14, [vR y, vI 4, vI 3, vU, vU, vU, vU], [], aq_h m s F (aq_u c_3 (y + 13) 3 0)) _
  generalize hdc_4 : aq_u c_3 (y + 13) 3 0 = c_4
  have sc_4 := aq_smu sc_3 hdc_4 rfl
  have mtc_4 := mt_3 mtc_3 hdc_4
  refine am_E.go (t2 := (17, [vR y, vI 4, vI 4, vU, vU, vU, vU], [], aq_h m s F c_4)) rfl rfl ?_
  refine am_E.go (t2 := (2, [vR y, vI 4, vI 4, vU, vU, vU, vU], [], aq_h m s F c_4)) rfl rfl ?_
  refine am_E.go (t2 := (3, [vR y, vI 4, vI 4, vU, vU, vU, vU], [vI 4], aq_h m s F c_4)) rfl rfl ?_
  refine am_E.go (t2 := (4, [vR y, vI 4, vI 4, vU, vU, vU, vU], [vI 4, vI 4], aq_h m s F c_4)) rfl rfl ?_
  refine am_E.go (t2 := (20, [vR y, vI 4, vI 4, vU, vU, vU, vU], [], aq_h m s F c_4)) rfl rfl ?_
  refine am_E.go (t2 := (21, [vR y, vI 4, vI 4, vU, vU, vU, vU], [vI 0], aq_h m s F c_4)) rfl rfl ?_
  refine am_E.go (t2 := (22, [vR y, vI 4, vI 0, vU, vU, vU, vU], [], aq_h m s F c_4)) rfl rfl ?_
  refine am_E.go (t2 := (23, [vR y, vI 4, vI 0, vU, vU, vU, vU], [vI 0], aq_h m s F c_4)) rfl rfl ?_
  refine am_E.go (t2 := (24, [vR y, vI 4, vI 0, vU, vU, vU, vU], [vI 4, vI 0], aq_h m s F c_4)) rfl rfl ?_
  refine am_E.go (t2 := (27, [vR y, vI 4, vI 0, vU, vU, vU, vU], [], aq_h m s F c_4)) rfl rfl ?_
  refine am_E.go (t2 := (28, [vR y, vI 4, vI 0, vU, vU, vU, vU], [vR y], aq_h m s F c_4)) rfl rfl ?_
  refine aq_gf (v := vR (y + 18)) rfl (by omega) hFo (by decide) rfl ?_
  show am_E _ (31, [vR y, vI 4, vI 0, vU, vU, vU, vU], [vR (y + 18)], aq_h m s F c_4) _
  refine am_E.go (t2 := (32, [vR y, vI 4, vI 0, vU, vU, vU, vU], [vI 0, vR (y + 18)], aq_h m s F c_4)) rfl rfl ?_
  refine aq_al (ok := fun k => k == 0) (v := vI (c_4 (y + 18) 0)) rfl rfl (by omega) hG18 rfl (by decide) (by decide) rfl ?_
  rw [sc_4 (y + 18) (by omega), hA0]
  show am_E _ (33, [vR y, vI 4, vI 0, vU, vU, vU, vU], [vI 4], aq_h m s F c_4) _
  refine am_E.go (t2 := (34, [vR y, vI 4, vI 0, vU, vU, vU, vU], [vI 4, vI 4], aq_h m s F c_4)) rfl rfl ?_
  refine am_E.go (t2 := (37, [vR y, vI 4, vI 0, vU, vU, vU, vU], [], aq_h m s F c_4)) rfl rfl ?_
  refine am_E.go (t2 := (38, [vR y, vI 4, vI 0, vU, vU, vU, vU], [vI 0], aq_h m s F c_4)) rfl rfl ?_
  refine am_E.go (t2 := (39, [vR y, vI 4, vI 0, vI 0, vU, vU, vU], [], aq_h m s F c_4)) rfl rfl ?_
  refine am_E.go (t2 := (40, [vR y, vI 4, vI 0, vI 0, vU, vU, vU], [vI 1], aq_h m s F c_4)) rfl rfl ?_
  refine am_E.go (t2 := (42, [vR y, vI 4, vI 0, vI 0, vI 1, vU, vU], [], aq_h m s F c_4)) rfl rfl ?_
  refine am_E.go (t2 := (43, [vR y, vI 4, vI 0, vI 0, vI 1, vU, vU], [vI 1], aq_h m s F c_4)) rfl rfl ?_
  refine am_E.go (t2 := (45, [vR y, vI 4, vI 0, vI 0, vI 1, vI 1, vU], [], aq_h m s F c_4)) rfl rfl ?_
  refine am_E.go (t2 := (47, [vR y, vI 4, vI 0, vI 0, vI 1, vI 1, vU], [vI 1], aq_h m s F c_4)) rfl rfl ?_
  refine am_E.go (t2 := (50, [vR y, vI 4, vI 0, vI 0, vI 1, vI 1, vU], [], aq_h m s F c_4)) rfl rfl ?_
  refine am_E.go (t2 := (51, [vR y, vI 4, vI 0, vI 0, vI 1, vI 1, vU], [vR y], aq_h m s F c_4)) rfl rfl ?_
  refine aq_gf (v := vR (y + 13)) rfl (by omega) hFo (by decide) rfl ?_
  show am_E _ (54, [vR y, vI 4, vI 0, vI 0, vI 1, vI 1, vU], [vR (y + 13)], aq_h m s F c_4) _
  refine am_E.go (t2 := (55, [vR y, vI 4, vI 0, vI 0, vI 1, vI 1, vU], [vI 0, vR (y + 13)], aq_h m s F c_4)) rfl rfl ?_
  refine am_E.go (t2 := (56, [vR y, vI 4, vI 0, vI 0, vI 1, vI 1, vU], [vI 1, vI 0, vR (y + 13)], aq_h m s F c_4)) rfl rfl ?_
  refine aq_as (kd := 1) rfl rfl (by omega) hG13 (by omega) (by omega) rfl rfl ?_
  show am_E _ (57, [vR y, vI 4, vI 0, vI 0, vI 1, vI 1, vU], [], aq_h m s F (aq_u c_4 (y + 13) 0 1)) _
  generalize hdc_5 : aq_u c_4 (y + 13) 0 1 = c_5
  have sc_5 := aq_smu sc_4 hdc_5 rfl
  have mtc_5 := mt_0 mtc_4 hdc_5
  refine am_E.go (t2 := (59, [vR y, vI 4, vI 0, vI 0, vI 1, vI 1, vU], [vI 1], aq_h m s F c_5)) rfl rfl ?_
  refine am_E.go (t2 := (62, [vR y, vI 4, vI 0, vI 0, vI 1, vI 1, vU], [], aq_h m s F c_5)) rfl rfl ?_
  refine am_E.go (t2 := (63, [vR y, vI 4, vI 0, vI 0, vI 1, vI 1, vU], [vR y], aq_h m s F c_5)) rfl rfl ?_
  refine aq_gf (v := vR (y + 19)) rfl (by omega) hFo (by decide) rfl ?_
  show am_E _ (66, [vR y, vI 4, vI 0, vI 0, vI 1, vI 1, vU], [vR (y + 19)], aq_h m s F c_5) _
  refine am_E.go (t2 := (67, [vR y, vI 4, vI 0, vI 0, vI 1, vI 1, vU], [vI 0, vR (y + 19)], aq_h m s F c_5)) rfl rfl ?_
  refine aq_al (ok := fun k => k == 0) (v := vI (c_5 (y + 19) 0)) rfl rfl (by omega) hG19 rfl (by decide) (by decide) rfl ?_
  rw [sc_5 (y + 19) (by omega), hB0]
  show am_E _ (68, [vR y, vI 4, vI 0, vI 0, vI 1, vI 1, vU], [vI 1], aq_h m s F c_5) _
  refine am_E.go (t2 := (77, [vR y, vI 4, vI 0, vI 0, vI 1, vI 1, vU], [vI 1], aq_h m s F c_5)) rfl rfl ?_
  refine am_E.go (t2 := (79, [vR y, vI 4, vI 0, vI 0, vI 1, vI 1, vI 1], [], aq_h m s F c_5)) rfl rfl ?_
  refine am_E.go (t2 := (81, [vR y, vI 4, vI 0, vI 0, vI 1, vI 1, vI 1], [vI 1], aq_h m s F c_5)) rfl rfl ?_
  refine am_E.go (t2 := (82, [vR y, vI 4, vI 0, vI 0, vI 1, vI 1, vI 1], [vI 4, vI 1], aq_h m s F c_5)) rfl rfl ?_
  refine am_E.go (t2 := (85, [vR y, vI 4, vI 0, vI 0, vI 1, vI 1, vI 1], [], aq_h m s F c_5)) rfl rfl ?_
  refine am_E.go (t2 := (86, [vR y, vI 4, vI 0, vI 0, vI 1, vI 1, vI 1], [vI 1], aq_h m s F c_5)) rfl rfl ?_
  refine am_E.go (t2 := (90, [vR y, vI 4, vI 0, vI 0, vI 1, vI 1, vI 1], [vI 1], aq_h m s F c_5)) rfl rfl ?_
  refine am_E.go (t2 := (92, [vR y, vI 4, vI 0, vI 0, vI 1, vI 1, vI 1], [], aq_h m s F c_5)) rfl rfl ?_
  refine am_E.go (t2 := (94, [vR y, vI 4, vI 0, vI 0, vI 1, vI 1, vI 1], [vI 1], aq_h m s F c_5)) rfl rfl ?_
  refine am_E.go (t2 := (97, [vR y, vI 4, vI 0, vI 0, vI 1, vI 1, vI 1], [], aq_h m s F c_5)) rfl rfl ?_
  refine am_E.go (t2 := (99, [vR y, vI 4, vI 0, vI 0, vI 1, vI 1, vI 1], [vI 1], aq_h m s F c_5)) rfl rfl ?_
  refine am_E.go (t2 := (100, [vR y, vI 4, vI 0, vI 1, vI 1, vI 1, vI 1], [], aq_h m s F c_5)) rfl rfl ?_
  refine am_E.go (t2 := (102, [vR y, vI 4, vI 0, vI 1, vI 1, vI 1, vI 1], [vI 1], aq_h m s F c_5)) rfl rfl ?_
  refine am_E.go (t2 := (109, [vR y, vI 4, vI 0, vI 1, vI 1, vI 1, vI 1], [], aq_h m s F c_5)) rfl rfl ?_
  refine am_E.go (t2 := (110, [vR y, vI 4, vI 0, vI 1, vI 1, vI 1, vI 1], [vI 0], aq_h m s F c_5)) rfl rfl ?_
  refine am_E.go (t2 := (112, [vR y, vI 4, vI 0, vI 1, vI 0, vI 1, vI 1], [], aq_h m s F c_5)) rfl rfl ?_
  refine am_E.go (t2 := (45, [vR y, vI 4, vI 0, vI 1, vI 0, vI 1, vI 1], [], aq_h m s F c_5)) rfl rfl ?_
  refine am_E.go (t2 := (47, [vR y, vI 4, vI 0, vI 1, vI 0, vI 1, vI 1], [vI 1], aq_h m s F c_5)) rfl rfl ?_
  refine am_E.go (t2 := (50, [vR y, vI 4, vI 0, vI 1, vI 0, vI 1, vI 1], [], aq_h m s F c_5)) rfl rfl ?_
  refine am_E.go (t2 := (51, [vR y, vI 4, vI 0, vI 1, vI 0, vI 1, vI 1], [vR y], aq_h m s F c_5)) rfl rfl ?_
  refine aq_gf (v := vR (y + 13)) rfl (by omega) hFo (by decide) rfl ?_
  show am_E _ (54, [vR y, vI 4, vI 0, vI 1, vI 0, vI 1, vI 1], [vR (y + 13)], aq_h m s F c_5) _
  refine am_E.go (t2 := (55, [vR y, vI 4, vI 0, vI 1, vI 0, vI 1, vI 1], [vI 1, vR (y + 13)], aq_h m s F c_5)) rfl rfl ?_
  refine am_E.go (t2 := (56, [vR y, vI 4, vI 0, vI 1, vI 0, vI 1, vI 1], [vI 1, vI 1, vR (y + 13)], aq_h m s F c_5)) rfl rfl ?_
  refine aq_as (kd := 1) rfl rfl (by omega) hG13 (by omega) (by omega) rfl rfl ?_
  show am_E _ (57, [vR y, vI 4, vI 0, vI 1, vI 0, vI 1, vI 1], [], aq_h m s F (aq_u c_5 (y + 13) 1 1)) _
  generalize hdc_6 : aq_u c_5 (y + 13) 1 1 = c_6
  have sc_6 := aq_smu sc_5 hdc_6 rfl
  have mtc_6 := mt_1 mtc_5 hdc_6
  refine am_E.go (t2 := (59, [vR y, vI 4, vI 0, vI 1, vI 0, vI 1, vI 1], [vI 0], aq_h m s F c_6)) rfl rfl ?_
  refine am_E.go (t2 := (71, [vR y, vI 4, vI 0, vI 1, vI 0, vI 1, vI 1], [], aq_h m s F c_6)) rfl rfl ?_
  refine am_E.go (t2 := (72, [vR y, vI 4, vI 0, vI 1, vI 0, vI 1, vI 1], [vR y], aq_h m s F c_6)) rfl rfl ?_
  refine aq_gf (v := vR (y + 18)) rfl (by omega) hFo (by decide) rfl ?_
  show am_E _ (75, [vR y, vI 4, vI 0, vI 1, vI 0, vI 1, vI 1], [vR (y + 18)], aq_h m s F c_6) _
  refine am_E.go (t2 := (76, [vR y, vI 4, vI 0, vI 1, vI 0, vI 1, vI 1], [vI 1, vR (y + 18)], aq_h m s F c_6)) rfl rfl ?_
  refine aq_al (ok := fun k => k == 0) (v := vI (c_6 (y + 18) 1)) rfl rfl (by omega) hG18 rfl (by decide) (by decide) rfl ?_
  rw [sc_6 (y + 18) (by omega), hA1]
  show am_E _ (77, [vR y, vI 4, vI 0, vI 1, vI 0, vI 1, vI 1], [vI 4], aq_h m s F c_6) _
  refine am_E.go (t2 := (79, [vR y, vI 4, vI 0, vI 1, vI 0, vI 1, vI 4], [], aq_h m s F c_6)) rfl rfl ?_
  refine am_E.go (t2 := (81, [vR y, vI 4, vI 0, vI 1, vI 0, vI 1, vI 4], [vI 4], aq_h m s F c_6)) rfl rfl ?_
  refine am_E.go (t2 := (82, [vR y, vI 4, vI 0, vI 1, vI 0, vI 1, vI 4], [vI 4, vI 4], aq_h m s F c_6)) rfl rfl ?_
  refine am_E.go (t2 := (89, [vR y, vI 4, vI 0, vI 1, vI 0, vI 1, vI 4], [], aq_h m s F c_6)) rfl rfl ?_
  refine am_E.go (t2 := (90, [vR y, vI 4, vI 0, vI 1, vI 0, vI 1, vI 4], [vI 0], aq_h m s F c_6)) rfl rfl ?_
  refine am_E.go (t2 := (92, [vR y, vI 4, vI 0, vI 1, vI 0, vI 0, vI 4], [], aq_h m s F c_6)) rfl rfl ?_
  refine am_E.go (t2 := (94, [vR y, vI 4, vI 0, vI 1, vI 0, vI 0, vI 4], [vI 0], aq_h m s F c_6)) rfl rfl ?_
  refine am_E.go (t2 := (112, [vR y, vI 4, vI 0, vI 1, vI 0, vI 0, vI 4], [], aq_h m s F c_6)) rfl rfl ?_
  refine am_E.go (t2 := (45, [vR y, vI 4, vI 0, vI 1, vI 0, vI 0, vI 4], [], aq_h m s F c_6)) rfl rfl ?_
  refine am_E.go (t2 := (47, [vR y, vI 4, vI 0, vI 1, vI 0, vI 0, vI 4], [vI 0], aq_h m s F c_6)) rfl rfl ?_
  refine am_E.go (t2 := (115, [vR y, vI 4, vI 0, vI 1, vI 0, vI 0, vI 4], [], aq_h m s F c_6)) rfl rfl ?_
  refine am_E.go (t2 := (116, [vR y, vI 4, vI 0, vI 1, vI 0, vI 0, vI 4], [vR y], aq_h m s F c_6)) rfl rfl ?_
  refine aq_gf (v := vR (y + 13)) rfl (by omega) hFo (by decide) rfl ?_
  show am_E _ (119, [vR y, vI 4, vI 0, vI 1, vI 0, vI 0, vI 4], [vR (y + 13)], aq_h m s F c_6) _
  refine am_E.go (t2 := (120, [vR y, vI 4, vI 0, vI 1, vI 0, vI 0, vI 4], [vI 1, vR (y + 13)], aq_h m s F c_6)) rfl rfl ?_
  refine am_E.go (t2 := (121, [vR y, vI 4, vI 0, vI 1, vI 0, vI 0, vI 4], [vI 1, vI 1, vR (y + 13)], aq_h m s F c_6)) rfl rfl ?_
  refine aq_as (kd := 1) rfl rfl (by omega) hG13 (by omega) (by omega) rfl rfl ?_
  show am_E _ (122, [vR y, vI 4, vI 0, vI 1, vI 0, vI 0, vI 4], [], aq_h m s F (aq_u c_6 (y + 13) 1 1)) _
  generalize hdc_7 : aq_u c_6 (y + 13) 1 1 = c_7
  have sc_7 := aq_smu sc_6 hdc_7 rfl
  have mtc_7 := mt_1 mtc_6 hdc_7
  refine am_E.go (t2 := (124, [vR y, vI 4, vI 0, vI 1, vI 0, vI 0, vI 4], [vI 0], aq_h m s F c_7)) rfl rfl ?_
  refine am_E.go (t2 := (127, [vR y, vI 4, vI 0, vI 1, vI 0, vI 0, vI 4], [], aq_h m s F c_7)) rfl rfl ?_
  refine am_E.go (t2 := (129, [vR y, vI 4, vI 0, vI 1, vI 0, vI 0, vI 4], [vI (-4)], aq_h m s F c_7)) rfl rfl ?_
  refine am_E.ret rfl rfl ?_
  exact ⟨_, rfl, sc_7, rfl⟩

theorem qm_fo_4221 {m s : Nat} {F : aq_F} {c : aq_C} {y : Nat} (hO : mo_0 m F y) (hA0 : c (y + 18) 0 = 4) (hA1 : c (y + 18) 1 = 4) (hA2 : c (y + 18) 2 = 3) (hA3 : c (y + 18) 3 = 2) (hB0 : c (y + 19) 0 = 4) (hB1 : c (y + 19) 1 = 2) (hB2 : c (y + 19) 2 = 1) (hB3 : c (y + 19) 3 = 4) : am_E ac_X5_formOf (0, [vR y, vI 4, vU, vU, vU, vU, vU], [], aq_h m s F c) (aq_Z m s F (fun a => a = y + 13) c (fun r _ => r = some (vI 0))) := by
  obtain ⟨hm, hFo, hG5, hG6, hG7, hG8, hG9, hG10, hG11, hG12, hG13, hG14, hG15, hG16, hG17, hG18, hG19, hG20, hG21, hG22, hG23⟩ := hO
  have hmt : mt_ y (c (y + 13) 0) (c (y + 13) 1) (c (y + 13) 2) (c (y + 13) 3) c := ⟨rfl, rfl, rfl, rfl⟩
  refine am_E.go (t2 := (1, [vR y, vI 4, vU, vU, vU, vU, vU], [vI 0], aq_h m s F c)) rfl rfl ?_
  refine am_E.go (t2 := (2, [vR y, vI 4, vI 0, vU, vU, vU, vU], [], aq_h m s F c)) rfl rfl ?_
  refine am_E.go (t2 := (3, [vR y, vI 4, vI 0, vU, vU, vU, vU], [vI 0], aq_h m s F c)) rfl rfl ?_
  refine am_E.go (t2 := (4, [vR y, vI 4, vI 0, vU, vU, vU, vU], [vI 4, vI 0], aq_h m s F c)) rfl rfl ?_
  refine am_E.go (t2 := (7, [vR y, vI 4, vI 0, vU, vU, vU, vU], [], aq_h m s F c)) rfl rfl ?_
  refine am_E.go (t2 := (8, [vR y, vI 4, vI 0, vU, vU, vU, vU], [vR y], aq_h m s F c)) rfl rfl ?_
  refine aq_gf (v := vR (y + 13)) rfl (by omega) hFo (by decide) rfl ?_
  show am_E _ (11, [vR y, vI 4, vI 0, vU, vU, vU, vU], [vR (y + 13)], aq_h m s F c) _
  refine am_E.go (t2 := (12, [vR y, vI 4, vI 0, vU, vU, vU, vU], [vI 0, vR (y + 13)], aq_h m s F c)) rfl rfl ?_
  refine am_E.go (t2 := (13, [vR y, vI 4, vI 0, vU, vU, vU, vU], [vI 0, vI 0, vR (y + 13)], aq_h m s F c)) rfl rfl ?_
  refine aq_as (kd := 1) rfl rfl (by omega) hG13 (by omega) (by omega) rfl rfl ?_
  show am_E _ (14, [vR y, vI 4, vI 0, vU, vU, vU, vU], [], aq_h m s F (aq_u c (y + 13) 0 0)) _
  generalize hdc_1 : aq_u c (y + 13) 0 0 = c_1
  have sc_1 := aq_smu (aq_sm0 (c := c) (S := fun a => a = y + 13)) hdc_1 rfl
  have mtc_1 := mt_0 hmt hdc_1
  refine am_E.go (t2 := (17, [vR y, vI 4, vI 1, vU, vU, vU, vU], [], aq_h m s F c_1)) rfl rfl ?_
  refine am_E.go (t2 := (2, [vR y, vI 4, vI 1, vU, vU, vU, vU], [], aq_h m s F c_1)) rfl rfl ?_
  refine am_E.go (t2 := (3, [vR y, vI 4, vI 1, vU, vU, vU, vU], [vI 1], aq_h m s F c_1)) rfl rfl ?_
  refine am_E.go (t2 := (4, [vR y, vI 4, vI 1, vU, vU, vU, vU], [vI 4, vI 1], aq_h m s F c_1)) rfl rfl ?_
  refine am_E.go (t2 := (7, [vR y, vI 4, vI 1, vU, vU, vU, vU], [], aq_h m s F c_1)) rfl rfl ?_
  refine am_E.go (t2 := (8, [vR y, vI 4, vI 1, vU, vU, vU, vU], [vR y], aq_h m s F c_1)) rfl rfl ?_
  refine aq_gf (v := vR (y + 13)) rfl (by omega) hFo (by decide) rfl ?_
  show am_E _ (11, [vR y, vI 4, vI 1, vU, vU, vU, vU], [vR (y + 13)], aq_h m s F c_1) _
  refine am_E.go (t2 := (12, [vR y, vI 4, vI 1, vU, vU, vU, vU], [vI 1, vR (y + 13)], aq_h m s F c_1)) rfl rfl ?_
  refine am_E.go (t2 := (13, [vR y, vI 4, vI 1, vU, vU, vU, vU], [vI 0, vI 1, vR (y + 13)], aq_h m s F c_1)) rfl rfl ?_
  refine aq_as (kd := 1) rfl rfl (by omega) hG13 (by omega) (by omega) rfl rfl ?_
  show am_E _ (14, [vR y, vI 4, vI 1, vU, vU, vU, vU], [], aq_h m s F (aq_u c_1 (y + 13) 1 0)) _
  generalize hdc_2 : aq_u c_1 (y + 13) 1 0 = c_2
  have sc_2 := aq_smu sc_1 hdc_2 rfl
  have mtc_2 := mt_1 mtc_1 hdc_2
  refine am_E.go (t2 := (17, [vR y, vI 4, vI 2, vU, vU, vU, vU], [], aq_h m s F c_2)) rfl rfl ?_
  refine am_E.go (t2 := (2, [vR y, vI 4, vI 2, vU, vU, vU, vU], [], aq_h m s F c_2)) rfl rfl ?_
  refine am_E.go (t2 := (3, [vR y, vI 4, vI 2, vU, vU, vU, vU], [vI 2], aq_h m s F c_2)) rfl rfl ?_
  refine am_E.go (t2 := (4, [vR y, vI 4, vI 2, vU, vU, vU, vU], [vI 4, vI 2], aq_h m s F c_2)) rfl rfl ?_
  refine am_E.go (t2 := (7, [vR y, vI 4, vI 2, vU, vU, vU, vU], [], aq_h m s F c_2)) rfl rfl ?_
  refine am_E.go (t2 := (8, [vR y, vI 4, vI 2, vU, vU, vU, vU], [vR y], aq_h m s F c_2)) rfl rfl ?_
  refine aq_gf (v := vR (y + 13)) rfl (by omega) hFo (by decide) rfl ?_
  show am_E _ (11, [vR y, vI 4, vI 2, vU, vU, vU, vU], [vR (y + 13)], aq_h m s F c_2) _
  refine am_E.go (t2 := (12, [vR y, vI 4, vI 2, vU, vU, vU, vU], [vI 2, vR (y + 13)], aq_h m s F c_2)) rfl rfl ?_
  refine am_E.go (t2 := (13, [vR y, vI 4, vI 2, vU, vU, vU, vU], [vI 0, vI 2, vR (y + 13)], aq_h m s F c_2)) rfl rfl ?_
  refine aq_as (kd := 1) rfl rfl (by omega) hG13 (by omega) (by omega) rfl rfl ?_
  show am_E _ (14, [vR y, vI 4, vI 2, vU, vU, vU, vU], [], aq_h m s F (aq_u c_2 (y + 13) 2 0)) _
  generalize hdc_3 : aq_u c_2 (y + 13) 2 0 = c_3
  have sc_3 := aq_smu sc_2 hdc_3 rfl
  have mtc_3 := mt_2 mtc_2 hdc_3
  refine am_E.go (t2 := (17, [vR y, vI 4, vI 3, vU, vU, vU, vU], [], aq_h m s F c_3)) rfl rfl ?_
  refine am_E.go (t2 := (2, [vR y, vI 4, vI 3, vU, vU, vU, vU], [], aq_h m s F c_3)) rfl rfl ?_
  refine am_E.go (t2 := (3, [vR y, vI 4, vI 3, vU, vU, vU, vU], [vI 3], aq_h m s F c_3)) rfl rfl ?_
  refine am_E.go (t2 := (4, [vR y, vI 4, vI 3, vU, vU, vU, vU], [vI 4, vI 3], aq_h m s F c_3)) rfl rfl ?_
  refine am_E.go (t2 := (7, [vR y, vI 4, vI 3, vU, vU, vU, vU], [], aq_h m s F c_3)) rfl rfl ?_
  refine am_E.go (t2 := (8, [vR y, vI 4, vI 3, vU, vU, vU, vU], [vR y], aq_h m s F c_3)) rfl rfl ?_
  refine aq_gf (v := vR (y + 13)) rfl (by omega) hFo (by decide) rfl ?_
  show am_E _ (11, [vR y, vI 4, vI 3, vU, vU, vU, vU], [vR (y + 13)], aq_h m s F c_3) _
  refine am_E.go (t2 := (12, [vR y, vI 4, vI 3, vU, vU, vU, vU], [vI 3, vR (y + 13)], aq_h m s F c_3)) rfl rfl ?_
  refine am_E.go (t2 := (13, [vR y, vI 4, vI 3, vU, vU, vU, vU], [vI 0, vI 3, vR (y + 13)], aq_h m s F c_3)) rfl rfl ?_
  refine aq_as (kd := 1) rfl rfl (by omega) hG13 (by omega) (by omega) rfl rfl ?_
  show am_E _ (14, [vR y, vI 4, vI 3, vU, vU, vU, vU], [], aq_h m s F (aq_u c_3 (y + 13) 3 0)) _
  generalize hdc_4 : aq_u c_3 (y + 13) 3 0 = c_4
  have sc_4 := aq_smu sc_3 hdc_4 rfl
  have mtc_4 := mt_3 mtc_3 hdc_4
  refine am_E.go (t2 := (17, [vR y, vI 4, vI 4, vU, vU, vU, vU], [], aq_h m s F c_4)) rfl rfl ?_
  refine am_E.go (t2 := (2, [vR y, vI 4, vI 4, vU, vU, vU, vU], [], aq_h m s F c_4)) rfl rfl ?_
  refine am_E.go (t2 := (3, [vR y, vI 4, vI 4, vU, vU, vU, vU], [vI 4], aq_h m s F c_4)) rfl rfl ?_
  refine am_E.go (t2 := (4, [vR y, vI 4, vI 4, vU, vU, vU, vU], [vI 4, vI 4], aq_h m s F c_4)) rfl rfl ?_
  refine am_E.go (t2 := (20, [vR y, vI 4, vI 4, vU, vU, vU, vU], [], aq_h m s F c_4)) rfl rfl ?_
  refine am_E.go (t2 := (21, [vR y, vI 4, vI 4, vU, vU, vU, vU], [vI 0], aq_h m s F c_4)) rfl rfl ?_
  refine am_E.go (t2 := (22, [vR y, vI 4, vI 0, vU, vU, vU, vU], [], aq_h m s F c_4)) rfl rfl ?_
  refine am_E.go (t2 := (23, [vR y, vI 4, vI 0, vU, vU, vU, vU], [vI 0], aq_h m s F c_4)) rfl rfl ?_
  refine am_E.go (t2 := (24, [vR y, vI 4, vI 0, vU, vU, vU, vU], [vI 4, vI 0], aq_h m s F c_4)) rfl rfl ?_
  refine am_E.go (t2 := (27, [vR y, vI 4, vI 0, vU, vU, vU, vU], [], aq_h m s F c_4)) rfl rfl ?_
  refine am_E.go (t2 := (28, [vR y, vI 4, vI 0, vU, vU, vU, vU], [vR y], aq_h m s F c_4)) rfl rfl ?_
  refine aq_gf (v := vR (y + 18)) rfl (by omega) hFo (by decide) rfl ?_
  show am_E _ (31, [vR y, vI 4, vI 0, vU, vU, vU, vU], [vR (y + 18)], aq_h m s F c_4) _
  refine am_E.go (t2 := (32, [vR y, vI 4, vI 0, vU, vU, vU, vU], [vI 0, vR (y + 18)], aq_h m s F c_4)) rfl rfl ?_
  refine aq_al (ok := fun k => k == 0) (v := vI (c_4 (y + 18) 0)) rfl rfl (by omega) hG18 rfl (by decide) (by decide) rfl ?_
  rw [sc_4 (y + 18) (by omega), hA0]
  show am_E _ (33, [vR y, vI 4, vI 0, vU, vU, vU, vU], [vI 4], aq_h m s F c_4) _
  refine am_E.go (t2 := (34, [vR y, vI 4, vI 0, vU, vU, vU, vU], [vI 4, vI 4], aq_h m s F c_4)) rfl rfl ?_
  refine am_E.go (t2 := (37, [vR y, vI 4, vI 0, vU, vU, vU, vU], [], aq_h m s F c_4)) rfl rfl ?_
  refine am_E.go (t2 := (38, [vR y, vI 4, vI 0, vU, vU, vU, vU], [vI 0], aq_h m s F c_4)) rfl rfl ?_
  refine am_E.go (t2 := (39, [vR y, vI 4, vI 0, vI 0, vU, vU, vU], [], aq_h m s F c_4)) rfl rfl ?_
  refine am_E.go (t2 := (40, [vR y, vI 4, vI 0, vI 0, vU, vU, vU], [vI 1], aq_h m s F c_4)) rfl rfl ?_
  refine am_E.go (t2 := (42, [vR y, vI 4, vI 0, vI 0, vI 1, vU, vU], [], aq_h m s F c_4)) rfl rfl ?_
  refine am_E.go (t2 := (43, [vR y, vI 4, vI 0, vI 0, vI 1, vU, vU], [vI 1], aq_h m s F c_4)) rfl rfl ?_
  refine am_E.go (t2 := (45, [vR y, vI 4, vI 0, vI 0, vI 1, vI 1, vU], [], aq_h m s F c_4)) rfl rfl ?_
  refine am_E.go (t2 := (47, [vR y, vI 4, vI 0, vI 0, vI 1, vI 1, vU], [vI 1], aq_h m s F c_4)) rfl rfl ?_
  refine am_E.go (t2 := (50, [vR y, vI 4, vI 0, vI 0, vI 1, vI 1, vU], [], aq_h m s F c_4)) rfl rfl ?_
  refine am_E.go (t2 := (51, [vR y, vI 4, vI 0, vI 0, vI 1, vI 1, vU], [vR y], aq_h m s F c_4)) rfl rfl ?_
  refine aq_gf (v := vR (y + 13)) rfl (by omega) hFo (by decide) rfl ?_
  show am_E _ (54, [vR y, vI 4, vI 0, vI 0, vI 1, vI 1, vU], [vR (y + 13)], aq_h m s F c_4) _
  refine am_E.go (t2 := (55, [vR y, vI 4, vI 0, vI 0, vI 1, vI 1, vU], [vI 0, vR (y + 13)], aq_h m s F c_4)) rfl rfl ?_
  refine am_E.go (t2 := (56, [vR y, vI 4, vI 0, vI 0, vI 1, vI 1, vU], [vI 1, vI 0, vR (y + 13)], aq_h m s F c_4)) rfl rfl ?_
  refine aq_as (kd := 1) rfl rfl (by omega) hG13 (by omega) (by omega) rfl rfl ?_
  show am_E _ (57, [vR y, vI 4, vI 0, vI 0, vI 1, vI 1, vU], [], aq_h m s F (aq_u c_4 (y + 13) 0 1)) _
  generalize hdc_5 : aq_u c_4 (y + 13) 0 1 = c_5
  have sc_5 := aq_smu sc_4 hdc_5 rfl
  have mtc_5 := mt_0 mtc_4 hdc_5
  refine am_E.go (t2 := (59, [vR y, vI 4, vI 0, vI 0, vI 1, vI 1, vU], [vI 1], aq_h m s F c_5)) rfl rfl ?_
  refine am_E.go (t2 := (62, [vR y, vI 4, vI 0, vI 0, vI 1, vI 1, vU], [], aq_h m s F c_5)) rfl rfl ?_
  refine am_E.go (t2 := (63, [vR y, vI 4, vI 0, vI 0, vI 1, vI 1, vU], [vR y], aq_h m s F c_5)) rfl rfl ?_
  refine aq_gf (v := vR (y + 19)) rfl (by omega) hFo (by decide) rfl ?_
  show am_E _ (66, [vR y, vI 4, vI 0, vI 0, vI 1, vI 1, vU], [vR (y + 19)], aq_h m s F c_5) _
  refine am_E.go (t2 := (67, [vR y, vI 4, vI 0, vI 0, vI 1, vI 1, vU], [vI 0, vR (y + 19)], aq_h m s F c_5)) rfl rfl ?_
  refine aq_al (ok := fun k => k == 0) (v := vI (c_5 (y + 19) 0)) rfl rfl (by omega) hG19 rfl (by decide) (by decide) rfl ?_
  rw [sc_5 (y + 19) (by omega), hB0]
  show am_E _ (68, [vR y, vI 4, vI 0, vI 0, vI 1, vI 1, vU], [vI 4], aq_h m s F c_5) _
  refine am_E.go (t2 := (77, [vR y, vI 4, vI 0, vI 0, vI 1, vI 1, vU], [vI 4], aq_h m s F c_5)) rfl rfl ?_
  refine am_E.go (t2 := (79, [vR y, vI 4, vI 0, vI 0, vI 1, vI 1, vI 4], [], aq_h m s F c_5)) rfl rfl ?_
  refine am_E.go (t2 := (81, [vR y, vI 4, vI 0, vI 0, vI 1, vI 1, vI 4], [vI 4], aq_h m s F c_5)) rfl rfl ?_
  refine am_E.go (t2 := (82, [vR y, vI 4, vI 0, vI 0, vI 1, vI 1, vI 4], [vI 4, vI 4], aq_h m s F c_5)) rfl rfl ?_
  refine am_E.go (t2 := (89, [vR y, vI 4, vI 0, vI 0, vI 1, vI 1, vI 4], [], aq_h m s F c_5)) rfl rfl ?_
  refine am_E.go (t2 := (90, [vR y, vI 4, vI 0, vI 0, vI 1, vI 1, vI 4], [vI 0], aq_h m s F c_5)) rfl rfl ?_
  refine am_E.go (t2 := (92, [vR y, vI 4, vI 0, vI 0, vI 1, vI 0, vI 4], [], aq_h m s F c_5)) rfl rfl ?_
  refine am_E.go (t2 := (94, [vR y, vI 4, vI 0, vI 0, vI 1, vI 0, vI 4], [vI 0], aq_h m s F c_5)) rfl rfl ?_
  refine am_E.go (t2 := (112, [vR y, vI 4, vI 0, vI 0, vI 1, vI 0, vI 4], [], aq_h m s F c_5)) rfl rfl ?_
  refine am_E.go (t2 := (45, [vR y, vI 4, vI 0, vI 0, vI 1, vI 0, vI 4], [], aq_h m s F c_5)) rfl rfl ?_
  refine am_E.go (t2 := (47, [vR y, vI 4, vI 0, vI 0, vI 1, vI 0, vI 4], [vI 0], aq_h m s F c_5)) rfl rfl ?_
  refine am_E.go (t2 := (115, [vR y, vI 4, vI 0, vI 0, vI 1, vI 0, vI 4], [], aq_h m s F c_5)) rfl rfl ?_
  refine am_E.go (t2 := (116, [vR y, vI 4, vI 0, vI 0, vI 1, vI 0, vI 4], [vR y], aq_h m s F c_5)) rfl rfl ?_
  refine aq_gf (v := vR (y + 13)) rfl (by omega) hFo (by decide) rfl ?_
  show am_E _ (119, [vR y, vI 4, vI 0, vI 0, vI 1, vI 0, vI 4], [vR (y + 13)], aq_h m s F c_5) _
  refine am_E.go (t2 := (120, [vR y, vI 4, vI 0, vI 0, vI 1, vI 0, vI 4], [vI 0, vR (y + 13)], aq_h m s F c_5)) rfl rfl ?_
  refine am_E.go (t2 := (121, [vR y, vI 4, vI 0, vI 0, vI 1, vI 0, vI 4], [vI 1, vI 0, vR (y + 13)], aq_h m s F c_5)) rfl rfl ?_
  refine aq_as (kd := 1) rfl rfl (by omega) hG13 (by omega) (by omega) rfl rfl ?_
  show am_E _ (122, [vR y, vI 4, vI 0, vI 0, vI 1, vI 0, vI 4], [], aq_h m s F (aq_u c_5 (y + 13) 0 1)) _
  generalize hdc_6 : aq_u c_5 (y + 13) 0 1 = c_6
  have sc_6 := aq_smu sc_5 hdc_6 rfl
  have mtc_6 := mt_0 mtc_5 hdc_6
  refine am_E.go (t2 := (124, [vR y, vI 4, vI 0, vI 0, vI 1, vI 0, vI 4], [vI 1], aq_h m s F c_6)) rfl rfl ?_
  refine am_E.go (t2 := (130, [vR y, vI 4, vI 0, vI 0, vI 1, vI 0, vI 4], [], aq_h m s F c_6)) rfl rfl ?_
  refine am_E.go (t2 := (133, [vR y, vI 4, vI 1, vI 0, vI 1, vI 0, vI 4], [], aq_h m s F c_6)) rfl rfl ?_
  refine am_E.go (t2 := (22, [vR y, vI 4, vI 1, vI 0, vI 1, vI 0, vI 4], [], aq_h m s F c_6)) rfl rfl ?_
  refine am_E.go (t2 := (23, [vR y, vI 4, vI 1, vI 0, vI 1, vI 0, vI 4], [vI 1], aq_h m s F c_6)) rfl rfl ?_
  refine am_E.go (t2 := (24, [vR y, vI 4, vI 1, vI 0, vI 1, vI 0, vI 4], [vI 4, vI 1], aq_h m s F c_6)) rfl rfl ?_
  refine am_E.go (t2 := (27, [vR y, vI 4, vI 1, vI 0, vI 1, vI 0, vI 4], [], aq_h m s F c_6)) rfl rfl ?_
  refine am_E.go (t2 := (28, [vR y, vI 4, vI 1, vI 0, vI 1, vI 0, vI 4], [vR y], aq_h m s F c_6)) rfl rfl ?_
  refine aq_gf (v := vR (y + 18)) rfl (by omega) hFo (by decide) rfl ?_
  show am_E _ (31, [vR y, vI 4, vI 1, vI 0, vI 1, vI 0, vI 4], [vR (y + 18)], aq_h m s F c_6) _
  refine am_E.go (t2 := (32, [vR y, vI 4, vI 1, vI 0, vI 1, vI 0, vI 4], [vI 1, vR (y + 18)], aq_h m s F c_6)) rfl rfl ?_
  refine aq_al (ok := fun k => k == 0) (v := vI (c_6 (y + 18) 1)) rfl rfl (by omega) hG18 rfl (by decide) (by decide) rfl ?_
  rw [sc_6 (y + 18) (by omega), hA1]
  show am_E _ (33, [vR y, vI 4, vI 1, vI 0, vI 1, vI 0, vI 4], [vI 4], aq_h m s F c_6) _
  refine am_E.go (t2 := (34, [vR y, vI 4, vI 1, vI 0, vI 1, vI 0, vI 4], [vI 4, vI 4], aq_h m s F c_6)) rfl rfl ?_
  refine am_E.go (t2 := (37, [vR y, vI 4, vI 1, vI 0, vI 1, vI 0, vI 4], [], aq_h m s F c_6)) rfl rfl ?_
  refine am_E.go (t2 := (38, [vR y, vI 4, vI 1, vI 0, vI 1, vI 0, vI 4], [vI 1], aq_h m s F c_6)) rfl rfl ?_
  refine am_E.go (t2 := (39, [vR y, vI 4, vI 1, vI 1, vI 1, vI 0, vI 4], [], aq_h m s F c_6)) rfl rfl ?_
  refine am_E.go (t2 := (40, [vR y, vI 4, vI 1, vI 1, vI 1, vI 0, vI 4], [vI 1], aq_h m s F c_6)) rfl rfl ?_
  refine am_E.go (t2 := (42, [vR y, vI 4, vI 1, vI 1, vI 1, vI 0, vI 4], [], aq_h m s F c_6)) rfl rfl ?_
  refine am_E.go (t2 := (43, [vR y, vI 4, vI 1, vI 1, vI 1, vI 0, vI 4], [vI 1], aq_h m s F c_6)) rfl rfl ?_
  refine am_E.go (t2 := (45, [vR y, vI 4, vI 1, vI 1, vI 1, vI 1, vI 4], [], aq_h m s F c_6)) rfl rfl ?_
  refine am_E.go (t2 := (47, [vR y, vI 4, vI 1, vI 1, vI 1, vI 1, vI 4], [vI 1], aq_h m s F c_6)) rfl rfl ?_
  refine am_E.go (t2 := (50, [vR y, vI 4, vI 1, vI 1, vI 1, vI 1, vI 4], [], aq_h m s F c_6)) rfl rfl ?_
  refine am_E.go (t2 := (51, [vR y, vI 4, vI 1, vI 1, vI 1, vI 1, vI 4], [vR y], aq_h m s F c_6)) rfl rfl ?_
  refine aq_gf (v := vR (y + 13)) rfl (by omega) hFo (by decide) rfl ?_
  show am_E _ (54, [vR y, vI 4, vI 1, vI 1, vI 1, vI 1, vI 4], [vR (y + 13)], aq_h m s F c_6) _
  refine am_E.go (t2 := (55, [vR y, vI 4, vI 1, vI 1, vI 1, vI 1, vI 4], [vI 1, vR (y + 13)], aq_h m s F c_6)) rfl rfl ?_
  refine am_E.go (t2 := (56, [vR y, vI 4, vI 1, vI 1, vI 1, vI 1, vI 4], [vI 1, vI 1, vR (y + 13)], aq_h m s F c_6)) rfl rfl ?_
  refine aq_as (kd := 1) rfl rfl (by omega) hG13 (by omega) (by omega) rfl rfl ?_
  show am_E _ (57, [vR y, vI 4, vI 1, vI 1, vI 1, vI 1, vI 4], [], aq_h m s F (aq_u c_6 (y + 13) 1 1)) _
  generalize hdc_7 : aq_u c_6 (y + 13) 1 1 = c_7
  have sc_7 := aq_smu sc_6 hdc_7 rfl
  have mtc_7 := mt_1 mtc_6 hdc_7
  refine am_E.go (t2 := (59, [vR y, vI 4, vI 1, vI 1, vI 1, vI 1, vI 4], [vI 1], aq_h m s F c_7)) rfl rfl ?_
  refine am_E.go (t2 := (62, [vR y, vI 4, vI 1, vI 1, vI 1, vI 1, vI 4], [], aq_h m s F c_7)) rfl rfl ?_
  refine am_E.go (t2 := (63, [vR y, vI 4, vI 1, vI 1, vI 1, vI 1, vI 4], [vR y], aq_h m s F c_7)) rfl rfl ?_
  refine aq_gf (v := vR (y + 19)) rfl (by omega) hFo (by decide) rfl ?_
  show am_E _ (66, [vR y, vI 4, vI 1, vI 1, vI 1, vI 1, vI 4], [vR (y + 19)], aq_h m s F c_7) _
  refine am_E.go (t2 := (67, [vR y, vI 4, vI 1, vI 1, vI 1, vI 1, vI 4], [vI 1, vR (y + 19)], aq_h m s F c_7)) rfl rfl ?_
  refine aq_al (ok := fun k => k == 0) (v := vI (c_7 (y + 19) 1)) rfl rfl (by omega) hG19 rfl (by decide) (by decide) rfl ?_
  rw [sc_7 (y + 19) (by omega), hB1]
  show am_E _ (68, [vR y, vI 4, vI 1, vI 1, vI 1, vI 1, vI 4], [vI 2], aq_h m s F c_7) _
  refine am_E.go (t2 := (77, [vR y, vI 4, vI 1, vI 1, vI 1, vI 1, vI 4], [vI 2], aq_h m s F c_7)) rfl rfl ?_
  refine am_E.go (t2 := (79, [vR y, vI 4, vI 1, vI 1, vI 1, vI 1, vI 2], [], aq_h m s F c_7)) rfl rfl ?_
  refine am_E.go (t2 := (81, [vR y, vI 4, vI 1, vI 1, vI 1, vI 1, vI 2], [vI 2], aq_h m s F c_7)) rfl rfl ?_
  refine am_E.go (t2 := (82, [vR y, vI 4, vI 1, vI 1, vI 1, vI 1, vI 2], [vI 4, vI 2], aq_h m s F c_7)) rfl rfl ?_
  refine am_E.go (t2 := (85, [vR y, vI 4, vI 1, vI 1, vI 1, vI 1, vI 2], [], aq_h m s F c_7)) rfl rfl ?_
  refine am_E.go (t2 := (86, [vR y, vI 4, vI 1, vI 1, vI 1, vI 1, vI 2], [vI 1], aq_h m s F c_7)) rfl rfl ?_
  refine am_E.go (t2 := (90, [vR y, vI 4, vI 1, vI 1, vI 1, vI 1, vI 2], [vI 1], aq_h m s F c_7)) rfl rfl ?_
  refine am_E.go (t2 := (92, [vR y, vI 4, vI 1, vI 1, vI 1, vI 1, vI 2], [], aq_h m s F c_7)) rfl rfl ?_
  refine am_E.go (t2 := (94, [vR y, vI 4, vI 1, vI 1, vI 1, vI 1, vI 2], [vI 1], aq_h m s F c_7)) rfl rfl ?_
  refine am_E.go (t2 := (97, [vR y, vI 4, vI 1, vI 1, vI 1, vI 1, vI 2], [], aq_h m s F c_7)) rfl rfl ?_
  refine am_E.go (t2 := (99, [vR y, vI 4, vI 1, vI 1, vI 1, vI 1, vI 2], [vI 2], aq_h m s F c_7)) rfl rfl ?_
  refine am_E.go (t2 := (100, [vR y, vI 4, vI 1, vI 2, vI 1, vI 1, vI 2], [], aq_h m s F c_7)) rfl rfl ?_
  refine am_E.go (t2 := (102, [vR y, vI 4, vI 1, vI 2, vI 1, vI 1, vI 2], [vI 1], aq_h m s F c_7)) rfl rfl ?_
  refine am_E.go (t2 := (109, [vR y, vI 4, vI 1, vI 2, vI 1, vI 1, vI 2], [], aq_h m s F c_7)) rfl rfl ?_
  refine am_E.go (t2 := (110, [vR y, vI 4, vI 1, vI 2, vI 1, vI 1, vI 2], [vI 0], aq_h m s F c_7)) rfl rfl ?_
  refine am_E.go (t2 := (112, [vR y, vI 4, vI 1, vI 2, vI 0, vI 1, vI 2], [], aq_h m s F c_7)) rfl rfl ?_
  refine am_E.go (t2 := (45, [vR y, vI 4, vI 1, vI 2, vI 0, vI 1, vI 2], [], aq_h m s F c_7)) rfl rfl ?_
  refine am_E.go (t2 := (47, [vR y, vI 4, vI 1, vI 2, vI 0, vI 1, vI 2], [vI 1], aq_h m s F c_7)) rfl rfl ?_
  refine am_E.go (t2 := (50, [vR y, vI 4, vI 1, vI 2, vI 0, vI 1, vI 2], [], aq_h m s F c_7)) rfl rfl ?_
  refine am_E.go (t2 := (51, [vR y, vI 4, vI 1, vI 2, vI 0, vI 1, vI 2], [vR y], aq_h m s F c_7)) rfl rfl ?_
  refine aq_gf (v := vR (y + 13)) rfl (by omega) hFo (by decide) rfl ?_
  show am_E _ (54, [vR y, vI 4, vI 1, vI 2, vI 0, vI 1, vI 2], [vR (y + 13)], aq_h m s F c_7) _
  refine am_E.go (t2 := (55, [vR y, vI 4, vI 1, vI 2, vI 0, vI 1, vI 2], [vI 2, vR (y + 13)], aq_h m s F c_7)) rfl rfl ?_
  refine am_E.go (t2 := (56, [vR y, vI 4, vI 1, vI 2, vI 0, vI 1, vI 2], [vI 1, vI 2, vR (y + 13)], aq_h m s F c_7)) rfl rfl ?_
  refine aq_as (kd := 1) rfl rfl (by omega) hG13 (by omega) (by omega) rfl rfl ?_
  show am_E _ (57, [vR y, vI 4, vI 1, vI 2, vI 0, vI 1, vI 2], [], aq_h m s F (aq_u c_7 (y + 13) 2 1)) _
  generalize hdc_8 : aq_u c_7 (y + 13) 2 1 = c_8
  have sc_8 := aq_smu sc_7 hdc_8 rfl
  have mtc_8 := mt_2 mtc_7 hdc_8
  refine am_E.go (t2 := (59, [vR y, vI 4, vI 1, vI 2, vI 0, vI 1, vI 2], [vI 0], aq_h m s F c_8)) rfl rfl ?_
  refine am_E.go (t2 := (71, [vR y, vI 4, vI 1, vI 2, vI 0, vI 1, vI 2], [], aq_h m s F c_8)) rfl rfl ?_
  refine am_E.go (t2 := (72, [vR y, vI 4, vI 1, vI 2, vI 0, vI 1, vI 2], [vR y], aq_h m s F c_8)) rfl rfl ?_
  refine aq_gf (v := vR (y + 18)) rfl (by omega) hFo (by decide) rfl ?_
  show am_E _ (75, [vR y, vI 4, vI 1, vI 2, vI 0, vI 1, vI 2], [vR (y + 18)], aq_h m s F c_8) _
  refine am_E.go (t2 := (76, [vR y, vI 4, vI 1, vI 2, vI 0, vI 1, vI 2], [vI 2, vR (y + 18)], aq_h m s F c_8)) rfl rfl ?_
  refine aq_al (ok := fun k => k == 0) (v := vI (c_8 (y + 18) 2)) rfl rfl (by omega) hG18 rfl (by decide) (by decide) rfl ?_
  rw [sc_8 (y + 18) (by omega), hA2]
  show am_E _ (77, [vR y, vI 4, vI 1, vI 2, vI 0, vI 1, vI 2], [vI 3], aq_h m s F c_8) _
  refine am_E.go (t2 := (79, [vR y, vI 4, vI 1, vI 2, vI 0, vI 1, vI 3], [], aq_h m s F c_8)) rfl rfl ?_
  refine am_E.go (t2 := (81, [vR y, vI 4, vI 1, vI 2, vI 0, vI 1, vI 3], [vI 3], aq_h m s F c_8)) rfl rfl ?_
  refine am_E.go (t2 := (82, [vR y, vI 4, vI 1, vI 2, vI 0, vI 1, vI 3], [vI 4, vI 3], aq_h m s F c_8)) rfl rfl ?_
  refine am_E.go (t2 := (85, [vR y, vI 4, vI 1, vI 2, vI 0, vI 1, vI 3], [], aq_h m s F c_8)) rfl rfl ?_
  refine am_E.go (t2 := (86, [vR y, vI 4, vI 1, vI 2, vI 0, vI 1, vI 3], [vI 1], aq_h m s F c_8)) rfl rfl ?_
  refine am_E.go (t2 := (90, [vR y, vI 4, vI 1, vI 2, vI 0, vI 1, vI 3], [vI 1], aq_h m s F c_8)) rfl rfl ?_
  refine am_E.go (t2 := (92, [vR y, vI 4, vI 1, vI 2, vI 0, vI 1, vI 3], [], aq_h m s F c_8)) rfl rfl ?_
  refine am_E.go (t2 := (94, [vR y, vI 4, vI 1, vI 2, vI 0, vI 1, vI 3], [vI 1], aq_h m s F c_8)) rfl rfl ?_
  refine am_E.go (t2 := (97, [vR y, vI 4, vI 1, vI 2, vI 0, vI 1, vI 3], [], aq_h m s F c_8)) rfl rfl ?_
  refine am_E.go (t2 := (99, [vR y, vI 4, vI 1, vI 2, vI 0, vI 1, vI 3], [vI 3], aq_h m s F c_8)) rfl rfl ?_
  refine am_E.go (t2 := (100, [vR y, vI 4, vI 1, vI 3, vI 0, vI 1, vI 3], [], aq_h m s F c_8)) rfl rfl ?_
  refine am_E.go (t2 := (102, [vR y, vI 4, vI 1, vI 3, vI 0, vI 1, vI 3], [vI 0], aq_h m s F c_8)) rfl rfl ?_
  refine am_E.go (t2 := (105, [vR y, vI 4, vI 1, vI 3, vI 0, vI 1, vI 3], [], aq_h m s F c_8)) rfl rfl ?_
  refine am_E.go (t2 := (106, [vR y, vI 4, vI 1, vI 3, vI 0, vI 1, vI 3], [vI 1], aq_h m s F c_8)) rfl rfl ?_
  refine am_E.go (t2 := (110, [vR y, vI 4, vI 1, vI 3, vI 0, vI 1, vI 3], [vI 1], aq_h m s F c_8)) rfl rfl ?_
  refine am_E.go (t2 := (112, [vR y, vI 4, vI 1, vI 3, vI 1, vI 1, vI 3], [], aq_h m s F c_8)) rfl rfl ?_
  refine am_E.go (t2 := (45, [vR y, vI 4, vI 1, vI 3, vI 1, vI 1, vI 3], [], aq_h m s F c_8)) rfl rfl ?_
  refine am_E.go (t2 := (47, [vR y, vI 4, vI 1, vI 3, vI 1, vI 1, vI 3], [vI 1], aq_h m s F c_8)) rfl rfl ?_
  refine am_E.go (t2 := (50, [vR y, vI 4, vI 1, vI 3, vI 1, vI 1, vI 3], [], aq_h m s F c_8)) rfl rfl ?_
  refine am_E.go (t2 := (51, [vR y, vI 4, vI 1, vI 3, vI 1, vI 1, vI 3], [vR y], aq_h m s F c_8)) rfl rfl ?_
  refine aq_gf (v := vR (y + 13)) rfl (by omega) hFo (by decide) rfl ?_
  show am_E _ (54, [vR y, vI 4, vI 1, vI 3, vI 1, vI 1, vI 3], [vR (y + 13)], aq_h m s F c_8) _
  refine am_E.go (t2 := (55, [vR y, vI 4, vI 1, vI 3, vI 1, vI 1, vI 3], [vI 3, vR (y + 13)], aq_h m s F c_8)) rfl rfl ?_
  refine am_E.go (t2 := (56, [vR y, vI 4, vI 1, vI 3, vI 1, vI 1, vI 3], [vI 1, vI 3, vR (y + 13)], aq_h m s F c_8)) rfl rfl ?_
  refine aq_as (kd := 1) rfl rfl (by omega) hG13 (by omega) (by omega) rfl rfl ?_
  show am_E _ (57, [vR y, vI 4, vI 1, vI 3, vI 1, vI 1, vI 3], [], aq_h m s F (aq_u c_8 (y + 13) 3 1)) _
  generalize hdc_9 : aq_u c_8 (y + 13) 3 1 = c_9
  have sc_9 := aq_smu sc_8 hdc_9 rfl
  have mtc_9 := mt_3 mtc_8 hdc_9
  refine am_E.go (t2 := (59, [vR y, vI 4, vI 1, vI 3, vI 1, vI 1, vI 3], [vI 1], aq_h m s F c_9)) rfl rfl ?_
  refine am_E.go (t2 := (62, [vR y, vI 4, vI 1, vI 3, vI 1, vI 1, vI 3], [], aq_h m s F c_9)) rfl rfl ?_
  refine am_E.go (t2 := (63, [vR y, vI 4, vI 1, vI 3, vI 1, vI 1, vI 3], [vR y], aq_h m s F c_9)) rfl rfl ?_
  refine aq_gf (v := vR (y + 19)) rfl (by omega) hFo (by decide) rfl ?_
  show am_E _ (66, [vR y, vI 4, vI 1, vI 3, vI 1, vI 1, vI 3], [vR (y + 19)], aq_h m s F c_9) _
  refine am_E.go (t2 := (67, [vR y, vI 4, vI 1, vI 3, vI 1, vI 1, vI 3], [vI 3, vR (y + 19)], aq_h m s F c_9)) rfl rfl ?_
  refine aq_al (ok := fun k => k == 0) (v := vI (c_9 (y + 19) 3)) rfl rfl (by omega) hG19 rfl (by decide) (by decide) rfl ?_
  rw [sc_9 (y + 19) (by omega), hB3]
  show am_E _ (68, [vR y, vI 4, vI 1, vI 3, vI 1, vI 1, vI 3], [vI 4], aq_h m s F c_9) _
  refine am_E.go (t2 := (77, [vR y, vI 4, vI 1, vI 3, vI 1, vI 1, vI 3], [vI 4], aq_h m s F c_9)) rfl rfl ?_
  refine am_E.go (t2 := (79, [vR y, vI 4, vI 1, vI 3, vI 1, vI 1, vI 4], [], aq_h m s F c_9)) rfl rfl ?_
  refine am_E.go (t2 := (81, [vR y, vI 4, vI 1, vI 3, vI 1, vI 1, vI 4], [vI 4], aq_h m s F c_9)) rfl rfl ?_
  refine am_E.go (t2 := (82, [vR y, vI 4, vI 1, vI 3, vI 1, vI 1, vI 4], [vI 4, vI 4], aq_h m s F c_9)) rfl rfl ?_
  refine am_E.go (t2 := (89, [vR y, vI 4, vI 1, vI 3, vI 1, vI 1, vI 4], [], aq_h m s F c_9)) rfl rfl ?_
  refine am_E.go (t2 := (90, [vR y, vI 4, vI 1, vI 3, vI 1, vI 1, vI 4], [vI 0], aq_h m s F c_9)) rfl rfl ?_
  refine am_E.go (t2 := (92, [vR y, vI 4, vI 1, vI 3, vI 1, vI 0, vI 4], [], aq_h m s F c_9)) rfl rfl ?_
  refine am_E.go (t2 := (94, [vR y, vI 4, vI 1, vI 3, vI 1, vI 0, vI 4], [vI 0], aq_h m s F c_9)) rfl rfl ?_
  refine am_E.go (t2 := (112, [vR y, vI 4, vI 1, vI 3, vI 1, vI 0, vI 4], [], aq_h m s F c_9)) rfl rfl ?_
  refine am_E.go (t2 := (45, [vR y, vI 4, vI 1, vI 3, vI 1, vI 0, vI 4], [], aq_h m s F c_9)) rfl rfl ?_
  refine am_E.go (t2 := (47, [vR y, vI 4, vI 1, vI 3, vI 1, vI 0, vI 4], [vI 0], aq_h m s F c_9)) rfl rfl ?_
  refine am_E.go (t2 := (115, [vR y, vI 4, vI 1, vI 3, vI 1, vI 0, vI 4], [], aq_h m s F c_9)) rfl rfl ?_
  refine am_E.go (t2 := (116, [vR y, vI 4, vI 1, vI 3, vI 1, vI 0, vI 4], [vR y], aq_h m s F c_9)) rfl rfl ?_
  refine aq_gf (v := vR (y + 13)) rfl (by omega) hFo (by decide) rfl ?_
  show am_E _ (119, [vR y, vI 4, vI 1, vI 3, vI 1, vI 0, vI 4], [vR (y + 13)], aq_h m s F c_9) _
  refine am_E.go (t2 := (120, [vR y, vI 4, vI 1, vI 3, vI 1, vI 0, vI 4], [vI 3, vR (y + 13)], aq_h m s F c_9)) rfl rfl ?_
  refine am_E.go (t2 := (121, [vR y, vI 4, vI 1, vI 3, vI 1, vI 0, vI 4], [vI 1, vI 3, vR (y + 13)], aq_h m s F c_9)) rfl rfl ?_
  refine aq_as (kd := 1) rfl rfl (by omega) hG13 (by omega) (by omega) rfl rfl ?_
  show am_E _ (122, [vR y, vI 4, vI 1, vI 3, vI 1, vI 0, vI 4], [], aq_h m s F (aq_u c_9 (y + 13) 3 1)) _
  generalize hdc_10 : aq_u c_9 (y + 13) 3 1 = c_10
  have sc_10 := aq_smu sc_9 hdc_10 rfl
  have mtc_10 := mt_3 mtc_9 hdc_10
  refine am_E.go (t2 := (124, [vR y, vI 4, vI 1, vI 3, vI 1, vI 0, vI 4], [vI 1], aq_h m s F c_10)) rfl rfl ?_
  refine am_E.go (t2 := (130, [vR y, vI 4, vI 1, vI 3, vI 1, vI 0, vI 4], [], aq_h m s F c_10)) rfl rfl ?_
  refine am_E.go (t2 := (133, [vR y, vI 4, vI 2, vI 3, vI 1, vI 0, vI 4], [], aq_h m s F c_10)) rfl rfl ?_
  refine am_E.go (t2 := (22, [vR y, vI 4, vI 2, vI 3, vI 1, vI 0, vI 4], [], aq_h m s F c_10)) rfl rfl ?_
  refine am_E.go (t2 := (23, [vR y, vI 4, vI 2, vI 3, vI 1, vI 0, vI 4], [vI 2], aq_h m s F c_10)) rfl rfl ?_
  refine am_E.go (t2 := (24, [vR y, vI 4, vI 2, vI 3, vI 1, vI 0, vI 4], [vI 4, vI 2], aq_h m s F c_10)) rfl rfl ?_
  refine am_E.go (t2 := (27, [vR y, vI 4, vI 2, vI 3, vI 1, vI 0, vI 4], [], aq_h m s F c_10)) rfl rfl ?_
  refine am_E.go (t2 := (28, [vR y, vI 4, vI 2, vI 3, vI 1, vI 0, vI 4], [vR y], aq_h m s F c_10)) rfl rfl ?_
  refine aq_gf (v := vR (y + 18)) rfl (by omega) hFo (by decide) rfl ?_
  show am_E _ (31, [vR y, vI 4, vI 2, vI 3, vI 1, vI 0, vI 4], [vR (y + 18)], aq_h m s F c_10) _
  refine am_E.go (t2 := (32, [vR y, vI 4, vI 2, vI 3, vI 1, vI 0, vI 4], [vI 2, vR (y + 18)], aq_h m s F c_10)) rfl rfl ?_
  refine aq_al (ok := fun k => k == 0) (v := vI (c_10 (y + 18) 2)) rfl rfl (by omega) hG18 rfl (by decide) (by decide) rfl ?_
  rw [sc_10 (y + 18) (by omega), hA2]
  show am_E _ (33, [vR y, vI 4, vI 2, vI 3, vI 1, vI 0, vI 4], [vI 3], aq_h m s F c_10) _
  refine am_E.go (t2 := (34, [vR y, vI 4, vI 2, vI 3, vI 1, vI 0, vI 4], [vI 4, vI 3], aq_h m s F c_10)) rfl rfl ?_
  refine am_E.go (t2 := (130, [vR y, vI 4, vI 2, vI 3, vI 1, vI 0, vI 4], [], aq_h m s F c_10)) rfl rfl ?_
  refine am_E.go (t2 := (133, [vR y, vI 4, vI 3, vI 3, vI 1, vI 0, vI 4], [], aq_h m s F c_10)) rfl rfl ?_
  refine am_E.go (t2 := (22, [vR y, vI 4, vI 3, vI 3, vI 1, vI 0, vI 4], [], aq_h m s F c_10)) rfl rfl ?_
  refine am_E.go (t2 := (23, [vR y, vI 4, vI 3, vI 3, vI 1, vI 0, vI 4], [vI 3], aq_h m s F c_10)) rfl rfl ?_
  refine am_E.go (t2 := (24, [vR y, vI 4, vI 3, vI 3, vI 1, vI 0, vI 4], [vI 4, vI 3], aq_h m s F c_10)) rfl rfl ?_
  refine am_E.go (t2 := (27, [vR y, vI 4, vI 3, vI 3, vI 1, vI 0, vI 4], [], aq_h m s F c_10)) rfl rfl ?_
  refine am_E.go (t2 := (28, [vR y, vI 4, vI 3, vI 3, vI 1, vI 0, vI 4], [vR y], aq_h m s F c_10)) rfl rfl ?_
  refine aq_gf (v := vR (y + 18)) rfl (by omega) hFo (by decide) rfl ?_
  show am_E _ (31, [vR y, vI 4, vI 3, vI 3, vI 1, vI 0, vI 4], [vR (y + 18)], aq_h m s F c_10) _
  refine am_E.go (t2 := (32, [vR y, vI 4, vI 3, vI 3, vI 1, vI 0, vI 4], [vI 3, vR (y + 18)], aq_h m s F c_10)) rfl rfl ?_
  refine aq_al (ok := fun k => k == 0) (v := vI (c_10 (y + 18) 3)) rfl rfl (by omega) hG18 rfl (by decide) (by decide) rfl ?_
  rw [sc_10 (y + 18) (by omega), hA3]
  show am_E _ (33, [vR y, vI 4, vI 3, vI 3, vI 1, vI 0, vI 4], [vI 2], aq_h m s F c_10) _
  refine am_E.go (t2 := (34, [vR y, vI 4, vI 3, vI 3, vI 1, vI 0, vI 4], [vI 4, vI 2], aq_h m s F c_10)) rfl rfl ?_
  refine am_E.go (t2 := (130, [vR y, vI 4, vI 3, vI 3, vI 1, vI 0, vI 4], [], aq_h m s F c_10)) rfl rfl ?_
  refine am_E.go (t2 := (133, [vR y, vI 4, vI 4, vI 3, vI 1, vI 0, vI 4], [], aq_h m s F c_10)) rfl rfl ?_
  refine am_E.go (t2 := (22, [vR y, vI 4, vI 4, vI 3, vI 1, vI 0, vI 4], [], aq_h m s F c_10)) rfl rfl ?_
  refine am_E.go (t2 := (23, [vR y, vI 4, vI 4, vI 3, vI 1, vI 0, vI 4], [vI 4], aq_h m s F c_10)) rfl rfl ?_
  refine am_E.go (t2 := (24, [vR y, vI 4, vI 4, vI 3, vI 1, vI 0, vI 4], [vI 4, vI 4], aq_h m s F c_10)) rfl rfl ?_
  refine am_E.go (t2 := (136, [vR y, vI 4, vI 4, vI 3, vI 1, vI 0, vI 4], [], aq_h m s F c_10)) rfl rfl ?_
  refine am_E.go (t2 := (137, [vR y, vI 4, vI 4, vI 3, vI 1, vI 0, vI 4], [vI 0], aq_h m s F c_10)) rfl rfl ?_
  refine am_E.go (t2 := (138, [vR y, vI 4, vI 0, vI 3, vI 1, vI 0, vI 4], [], aq_h m s F c_10)) rfl rfl ?_
  refine am_E.go (t2 := (139, [vR y, vI 4, vI 0, vI 3, vI 1, vI 0, vI 4], [vI 0], aq_h m s F c_10)) rfl rfl ?_
  refine am_E.go (t2 := (140, [vR y, vI 4, vI 0, vI 3, vI 1, vI 0, vI 4], [vI 4, vI 0], aq_h m s F c_10)) rfl rfl ?_
  refine am_E.go (t2 := (143, [vR y, vI 4, vI 0, vI 3, vI 1, vI 0, vI 4], [], aq_h m s F c_10)) rfl rfl ?_
  refine am_E.go (t2 := (144, [vR y, vI 4, vI 0, vI 3, vI 1, vI 0, vI 4], [vR y], aq_h m s F c_10)) rfl rfl ?_
  refine aq_gf (v := vR (y + 13)) rfl (by omega) hFo (by decide) rfl ?_
  show am_E _ (147, [vR y, vI 4, vI 0, vI 3, vI 1, vI 0, vI 4], [vR (y + 13)], aq_h m s F c_10) _
  refine am_E.go (t2 := (148, [vR y, vI 4, vI 0, vI 3, vI 1, vI 0, vI 4], [vI 0, vR (y + 13)], aq_h m s F c_10)) rfl rfl ?_
  refine aq_al (ok := fun k => k == 1) (v := vI (c_10 (y + 13) 0)) rfl rfl (by omega) hG13 rfl (by decide) (by decide) rfl ?_
  rw [mtc_10.1]
  show am_E _ (149, [vR y, vI 4, vI 0, vI 3, vI 1, vI 0, vI 4], [vI 1], aq_h m s F c_10) _
  refine am_E.go (t2 := (165, [vR y, vI 4, vI 0, vI 3, vI 1, vI 0, vI 4], [], aq_h m s F c_10)) rfl rfl ?_
  refine am_E.go (t2 := (168, [vR y, vI 4, vI 1, vI 3, vI 1, vI 0, vI 4], [], aq_h m s F c_10)) rfl rfl ?_
  refine am_E.go (t2 := (138, [vR y, vI 4, vI 1, vI 3, vI 1, vI 0, vI 4], [], aq_h m s F c_10)) rfl rfl ?_
  refine am_E.go (t2 := (139, [vR y, vI 4, vI 1, vI 3, vI 1, vI 0, vI 4], [vI 1], aq_h m s F c_10)) rfl rfl ?_
  refine am_E.go (t2 := (140, [vR y, vI 4, vI 1, vI 3, vI 1, vI 0, vI 4], [vI 4, vI 1], aq_h m s F c_10)) rfl rfl ?_
  refine am_E.go (t2 := (143, [vR y, vI 4, vI 1, vI 3, vI 1, vI 0, vI 4], [], aq_h m s F c_10)) rfl rfl ?_
  refine am_E.go (t2 := (144, [vR y, vI 4, vI 1, vI 3, vI 1, vI 0, vI 4], [vR y], aq_h m s F c_10)) rfl rfl ?_
  refine aq_gf (v := vR (y + 13)) rfl (by omega) hFo (by decide) rfl ?_
  show am_E _ (147, [vR y, vI 4, vI 1, vI 3, vI 1, vI 0, vI 4], [vR (y + 13)], aq_h m s F c_10) _
  refine am_E.go (t2 := (148, [vR y, vI 4, vI 1, vI 3, vI 1, vI 0, vI 4], [vI 1, vR (y + 13)], aq_h m s F c_10)) rfl rfl ?_
  refine aq_al (ok := fun k => k == 1) (v := vI (c_10 (y + 13) 1)) rfl rfl (by omega) hG13 rfl (by decide) (by decide) rfl ?_
  rw [mtc_10.2.1]
  show am_E _ (149, [vR y, vI 4, vI 1, vI 3, vI 1, vI 0, vI 4], [vI 1], aq_h m s F c_10) _
  refine am_E.go (t2 := (165, [vR y, vI 4, vI 1, vI 3, vI 1, vI 0, vI 4], [], aq_h m s F c_10)) rfl rfl ?_
  refine am_E.go (t2 := (168, [vR y, vI 4, vI 2, vI 3, vI 1, vI 0, vI 4], [], aq_h m s F c_10)) rfl rfl ?_
  refine am_E.go (t2 := (138, [vR y, vI 4, vI 2, vI 3, vI 1, vI 0, vI 4], [], aq_h m s F c_10)) rfl rfl ?_
  refine am_E.go (t2 := (139, [vR y, vI 4, vI 2, vI 3, vI 1, vI 0, vI 4], [vI 2], aq_h m s F c_10)) rfl rfl ?_
  refine am_E.go (t2 := (140, [vR y, vI 4, vI 2, vI 3, vI 1, vI 0, vI 4], [vI 4, vI 2], aq_h m s F c_10)) rfl rfl ?_
  refine am_E.go (t2 := (143, [vR y, vI 4, vI 2, vI 3, vI 1, vI 0, vI 4], [], aq_h m s F c_10)) rfl rfl ?_
  refine am_E.go (t2 := (144, [vR y, vI 4, vI 2, vI 3, vI 1, vI 0, vI 4], [vR y], aq_h m s F c_10)) rfl rfl ?_
  refine aq_gf (v := vR (y + 13)) rfl (by omega) hFo (by decide) rfl ?_
  show am_E _ (147, [vR y, vI 4, vI 2, vI 3, vI 1, vI 0, vI 4], [vR (y + 13)], aq_h m s F c_10) _
  refine am_E.go (t2 := (148, [vR y, vI 4, vI 2, vI 3, vI 1, vI 0, vI 4], [vI 2, vR (y + 13)], aq_h m s F c_10)) rfl rfl ?_
  refine aq_al (ok := fun k => k == 1) (v := vI (c_10 (y + 13) 2)) rfl rfl (by omega) hG13 rfl (by decide) (by decide) rfl ?_
  rw [mtc_10.2.2.1]
  show am_E _ (149, [vR y, vI 4, vI 2, vI 3, vI 1, vI 0, vI 4], [vI 1], aq_h m s F c_10) _
  refine am_E.go (t2 := (165, [vR y, vI 4, vI 2, vI 3, vI 1, vI 0, vI 4], [], aq_h m s F c_10)) rfl rfl ?_
  refine am_E.go (t2 := (168, [vR y, vI 4, vI 3, vI 3, vI 1, vI 0, vI 4], [], aq_h m s F c_10)) rfl rfl ?_
  refine am_E.go (t2 := (138, [vR y, vI 4, vI 3, vI 3, vI 1, vI 0, vI 4], [], aq_h m s F c_10)) rfl rfl ?_
  refine am_E.go (t2 := (139, [vR y, vI 4, vI 3, vI 3, vI 1, vI 0, vI 4], [vI 3], aq_h m s F c_10)) rfl rfl ?_
  refine am_E.go (t2 := (140, [vR y, vI 4, vI 3, vI 3, vI 1, vI 0, vI 4], [vI 4, vI 3], aq_h m s F c_10)) rfl rfl ?_
  refine am_E.go (t2 := (143, [vR y, vI 4, vI 3, vI 3, vI 1, vI 0, vI 4], [], aq_h m s F c_10)) rfl rfl ?_
  refine am_E.go (t2 := (144, [vR y, vI 4, vI 3, vI 3, vI 1, vI 0, vI 4], [vR y], aq_h m s F c_10)) rfl rfl ?_
  refine aq_gf (v := vR (y + 13)) rfl (by omega) hFo (by decide) rfl ?_
  show am_E _ (147, [vR y, vI 4, vI 3, vI 3, vI 1, vI 0, vI 4], [vR (y + 13)], aq_h m s F c_10) _
  refine am_E.go (t2 := (148, [vR y, vI 4, vI 3, vI 3, vI 1, vI 0, vI 4], [vI 3, vR (y + 13)], aq_h m s F c_10)) rfl rfl ?_
  refine aq_al (ok := fun k => k == 1) (v := vI (c_10 (y + 13) 3)) rfl rfl (by omega) hG13 rfl (by decide) (by decide) rfl ?_
  rw [mtc_10.2.2.2]
  show am_E _ (149, [vR y, vI 4, vI 3, vI 3, vI 1, vI 0, vI 4], [vI 1], aq_h m s F c_10) _
  refine am_E.go (t2 := (165, [vR y, vI 4, vI 3, vI 3, vI 1, vI 0, vI 4], [], aq_h m s F c_10)) rfl rfl ?_
  refine am_E.go (t2 := (168, [vR y, vI 4, vI 4, vI 3, vI 1, vI 0, vI 4], [], aq_h m s F c_10)) rfl rfl ?_
  refine am_E.go (t2 := (138, [vR y, vI 4, vI 4, vI 3, vI 1, vI 0, vI 4], [], aq_h m s F c_10)) rfl rfl ?_
  refine am_E.go (t2 := (139, [vR y, vI 4, vI 4, vI 3, vI 1, vI 0, vI 4], [vI 4], aq_h m s F c_10)) rfl rfl ?_
  refine am_E.go (t2 := (140, [vR y, vI 4, vI 4, vI 3, vI 1, vI 0, vI 4], [vI 4, vI 4], aq_h m s F c_10)) rfl rfl ?_
  refine am_E.go (t2 := (171, [vR y, vI 4, vI 4, vI 3, vI 1, vI 0, vI 4], [], aq_h m s F c_10)) rfl rfl ?_
  refine am_E.go (t2 := (172, [vR y, vI 4, vI 4, vI 3, vI 1, vI 0, vI 4], [vI 0], aq_h m s F c_10)) rfl rfl ?_
  refine am_E.go (t2 := (173, [vR y, vI 4, vI 0, vI 3, vI 1, vI 0, vI 4], [], aq_h m s F c_10)) rfl rfl ?_
  refine am_E.go (t2 := (174, [vR y, vI 4, vI 0, vI 3, vI 1, vI 0, vI 4], [vI 0], aq_h m s F c_10)) rfl rfl ?_
  refine am_E.go (t2 := (175, [vR y, vI 4, vI 0, vI 0, vI 1, vI 0, vI 4], [], aq_h m s F c_10)) rfl rfl ?_
  refine am_E.go (t2 := (176, [vR y, vI 4, vI 0, vI 0, vI 1, vI 0, vI 4], [vI 0], aq_h m s F c_10)) rfl rfl ?_
  refine am_E.go (t2 := (177, [vR y, vI 4, vI 0, vI 0, vI 1, vI 0, vI 4], [vI 4, vI 0], aq_h m s F c_10)) rfl rfl ?_
  refine am_E.go (t2 := (180, [vR y, vI 4, vI 0, vI 0, vI 1, vI 0, vI 4], [], aq_h m s F c_10)) rfl rfl ?_
  refine am_E.go (t2 := (181, [vR y, vI 4, vI 0, vI 0, vI 1, vI 0, vI 4], [vR y], aq_h m s F c_10)) rfl rfl ?_
  refine aq_gf (v := vR (y + 13)) rfl (by omega) hFo (by decide) rfl ?_
  show am_E _ (184, [vR y, vI 4, vI 0, vI 0, vI 1, vI 0, vI 4], [vR (y + 13)], aq_h m s F c_10) _
  refine am_E.go (t2 := (185, [vR y, vI 4, vI 0, vI 0, vI 1, vI 0, vI 4], [vI 0, vR (y + 13)], aq_h m s F c_10)) rfl rfl ?_
  refine aq_al (ok := fun k => k == 1) (v := vI (c_10 (y + 13) 0)) rfl rfl (by omega) hG13 rfl (by decide) (by decide) rfl ?_
  rw [mtc_10.1]
  show am_E _ (186, [vR y, vI 4, vI 0, vI 0, vI 1, vI 0, vI 4], [vI 1], aq_h m s F c_10) _
  refine am_E.go (t2 := (253, [vR y, vI 4, vI 0, vI 0, vI 1, vI 0, vI 4], [], aq_h m s F c_10)) rfl rfl ?_
  refine am_E.go (t2 := (256, [vR y, vI 4, vI 0, vI 1, vI 1, vI 0, vI 4], [], aq_h m s F c_10)) rfl rfl ?_
  refine am_E.go (t2 := (175, [vR y, vI 4, vI 0, vI 1, vI 1, vI 0, vI 4], [], aq_h m s F c_10)) rfl rfl ?_
  refine am_E.go (t2 := (176, [vR y, vI 4, vI 0, vI 1, vI 1, vI 0, vI 4], [vI 1], aq_h m s F c_10)) rfl rfl ?_
  refine am_E.go (t2 := (177, [vR y, vI 4, vI 0, vI 1, vI 1, vI 0, vI 4], [vI 4, vI 1], aq_h m s F c_10)) rfl rfl ?_
  refine am_E.go (t2 := (180, [vR y, vI 4, vI 0, vI 1, vI 1, vI 0, vI 4], [], aq_h m s F c_10)) rfl rfl ?_
  refine am_E.go (t2 := (181, [vR y, vI 4, vI 0, vI 1, vI 1, vI 0, vI 4], [vR y], aq_h m s F c_10)) rfl rfl ?_
  refine aq_gf (v := vR (y + 13)) rfl (by omega) hFo (by decide) rfl ?_
  show am_E _ (184, [vR y, vI 4, vI 0, vI 1, vI 1, vI 0, vI 4], [vR (y + 13)], aq_h m s F c_10) _
  refine am_E.go (t2 := (185, [vR y, vI 4, vI 0, vI 1, vI 1, vI 0, vI 4], [vI 1, vR (y + 13)], aq_h m s F c_10)) rfl rfl ?_
  refine aq_al (ok := fun k => k == 1) (v := vI (c_10 (y + 13) 1)) rfl rfl (by omega) hG13 rfl (by decide) (by decide) rfl ?_
  rw [mtc_10.2.1]
  show am_E _ (186, [vR y, vI 4, vI 0, vI 1, vI 1, vI 0, vI 4], [vI 1], aq_h m s F c_10) _
  refine am_E.go (t2 := (253, [vR y, vI 4, vI 0, vI 1, vI 1, vI 0, vI 4], [], aq_h m s F c_10)) rfl rfl ?_
  refine am_E.go (t2 := (256, [vR y, vI 4, vI 0, vI 2, vI 1, vI 0, vI 4], [], aq_h m s F c_10)) rfl rfl ?_
  refine am_E.go (t2 := (175, [vR y, vI 4, vI 0, vI 2, vI 1, vI 0, vI 4], [], aq_h m s F c_10)) rfl rfl ?_
  refine am_E.go (t2 := (176, [vR y, vI 4, vI 0, vI 2, vI 1, vI 0, vI 4], [vI 2], aq_h m s F c_10)) rfl rfl ?_
  refine am_E.go (t2 := (177, [vR y, vI 4, vI 0, vI 2, vI 1, vI 0, vI 4], [vI 4, vI 2], aq_h m s F c_10)) rfl rfl ?_
  refine am_E.go (t2 := (180, [vR y, vI 4, vI 0, vI 2, vI 1, vI 0, vI 4], [], aq_h m s F c_10)) rfl rfl ?_
  refine am_E.go (t2 := (181, [vR y, vI 4, vI 0, vI 2, vI 1, vI 0, vI 4], [vR y], aq_h m s F c_10)) rfl rfl ?_
  refine aq_gf (v := vR (y + 13)) rfl (by omega) hFo (by decide) rfl ?_
  show am_E _ (184, [vR y, vI 4, vI 0, vI 2, vI 1, vI 0, vI 4], [vR (y + 13)], aq_h m s F c_10) _
  refine am_E.go (t2 := (185, [vR y, vI 4, vI 0, vI 2, vI 1, vI 0, vI 4], [vI 2, vR (y + 13)], aq_h m s F c_10)) rfl rfl ?_
  refine aq_al (ok := fun k => k == 1) (v := vI (c_10 (y + 13) 2)) rfl rfl (by omega) hG13 rfl (by decide) (by decide) rfl ?_
  rw [mtc_10.2.2.1]
  show am_E _ (186, [vR y, vI 4, vI 0, vI 2, vI 1, vI 0, vI 4], [vI 1], aq_h m s F c_10) _
  refine am_E.go (t2 := (253, [vR y, vI 4, vI 0, vI 2, vI 1, vI 0, vI 4], [], aq_h m s F c_10)) rfl rfl ?_
  refine am_E.go (t2 := (256, [vR y, vI 4, vI 0, vI 3, vI 1, vI 0, vI 4], [], aq_h m s F c_10)) rfl rfl ?_
  refine am_E.go (t2 := (175, [vR y, vI 4, vI 0, vI 3, vI 1, vI 0, vI 4], [], aq_h m s F c_10)) rfl rfl ?_
  refine am_E.go (t2 := (176, [vR y, vI 4, vI 0, vI 3, vI 1, vI 0, vI 4], [vI 3], aq_h m s F c_10)) rfl rfl ?_
  refine am_E.go (t2 := (177, [vR y, vI 4, vI 0, vI 3, vI 1, vI 0, vI 4], [vI 4, vI 3], aq_h m s F c_10)) rfl rfl ?_
  refine am_E.go (t2 := (180, [vR y, vI 4, vI 0, vI 3, vI 1, vI 0, vI 4], [], aq_h m s F c_10)) rfl rfl ?_
  refine am_E.go (t2 := (181, [vR y, vI 4, vI 0, vI 3, vI 1, vI 0, vI 4], [vR y], aq_h m s F c_10)) rfl rfl ?_
  refine aq_gf (v := vR (y + 13)) rfl (by omega) hFo (by decide) rfl ?_
  show am_E _ (184, [vR y, vI 4, vI 0, vI 3, vI 1, vI 0, vI 4], [vR (y + 13)], aq_h m s F c_10) _
  refine am_E.go (t2 := (185, [vR y, vI 4, vI 0, vI 3, vI 1, vI 0, vI 4], [vI 3, vR (y + 13)], aq_h m s F c_10)) rfl rfl ?_
  refine aq_al (ok := fun k => k == 1) (v := vI (c_10 (y + 13) 3)) rfl rfl (by omega) hG13 rfl (by decide) (by decide) rfl ?_
  rw [mtc_10.2.2.2]
  show am_E _ (186, [vR y, vI 4, vI 0, vI 3, vI 1, vI 0, vI 4], [vI 1], aq_h m s F c_10) _
  refine am_E.go (t2 := (253, [vR y, vI 4, vI 0, vI 3, vI 1, vI 0, vI 4], [], aq_h m s F c_10)) rfl rfl ?_
  refine am_E.go (t2 := (256, [vR y, vI 4, vI 0, vI 4, vI 1, vI 0, vI 4], [], aq_h m s F c_10)) rfl rfl ?_
  refine am_E.go (t2 := (175, [vR y, vI 4, vI 0, vI 4, vI 1, vI 0, vI 4], [], aq_h m s F c_10)) rfl rfl ?_
  refine am_E.go (t2 := (176, [vR y, vI 4, vI 0, vI 4, vI 1, vI 0, vI 4], [vI 4], aq_h m s F c_10)) rfl rfl ?_
  refine am_E.go (t2 := (177, [vR y, vI 4, vI 0, vI 4, vI 1, vI 0, vI 4], [vI 4, vI 4], aq_h m s F c_10)) rfl rfl ?_
  refine am_E.go (t2 := (259, [vR y, vI 4, vI 0, vI 4, vI 1, vI 0, vI 4], [], aq_h m s F c_10)) rfl rfl ?_
  refine am_E.go (t2 := (260, [vR y, vI 4, vI 0, vI 4, vI 1, vI 0, vI 4], [vI 0], aq_h m s F c_10)) rfl rfl ?_
  refine am_E.ret rfl rfl ?_
  exact ⟨_, rfl, sc_10, rfl⟩

theorem qm_fo_4222 {m s : Nat} {F : aq_F} {c : aq_C} {y : Nat} (hO : mo_0 m F y) (hA0 : c (y + 18) 0 = 4) (hA1 : c (y + 18) 1 = 4) (hA2 : c (y + 18) 2 = 3) (hA3 : c (y + 18) 3 = 2) (hB0 : c (y + 19) 0 = 4) (hB1 : c (y + 19) 1 = 4) (hB2 : c (y + 19) 2 = 3) (hB3 : c (y + 19) 3 = 2) : am_E ac_X5_formOf (0, [vR y, vI 4, vU, vU, vU, vU, vU], [], aq_h m s F c) (aq_Z m s F (fun a => a = y + 13) c (fun r _ => r = some (vI 1))) := by
  obtain ⟨hm, hFo, hG5, hG6, hG7, hG8, hG9, hG10, hG11, hG12, hG13, hG14, hG15, hG16, hG17, hG18, hG19, hG20, hG21, hG22, hG23⟩ := hO
  have hmt : mt_ y (c (y + 13) 0) (c (y + 13) 1) (c (y + 13) 2) (c (y + 13) 3) c := ⟨rfl, rfl, rfl, rfl⟩
  refine am_E.go (t2 := (1, [vR y, vI 4, vU, vU, vU, vU, vU], [vI 0], aq_h m s F c)) rfl rfl ?_
  refine am_E.go (t2 := (2, [vR y, vI 4, vI 0, vU, vU, vU, vU], [], aq_h m s F c)) rfl rfl ?_
  refine am_E.go (t2 := (3, [vR y, vI 4, vI 0, vU, vU, vU, vU], [vI 0], aq_h m s F c)) rfl rfl ?_
  refine am_E.go (t2 := (4, [vR y, vI 4, vI 0, vU, vU, vU, vU], [vI 4, vI 0], aq_h m s F c)) rfl rfl ?_
  refine am_E.go (t2 := (7, [vR y, vI 4, vI 0, vU, vU, vU, vU], [], aq_h m s F c)) rfl rfl ?_
  refine am_E.go (t2 := (8, [vR y, vI 4, vI 0, vU, vU, vU, vU], [vR y], aq_h m s F c)) rfl rfl ?_
  refine aq_gf (v := vR (y + 13)) rfl (by omega) hFo (by decide) rfl ?_
  show am_E _ (11, [vR y, vI 4, vI 0, vU, vU, vU, vU], [vR (y + 13)], aq_h m s F c) _
  refine am_E.go (t2 := (12, [vR y, vI 4, vI 0, vU, vU, vU, vU], [vI 0, vR (y + 13)], aq_h m s F c)) rfl rfl ?_
  refine am_E.go (t2 := (13, [vR y, vI 4, vI 0, vU, vU, vU, vU], [vI 0, vI 0, vR (y + 13)], aq_h m s F c)) rfl rfl ?_
  refine aq_as (kd := 1) rfl rfl (by omega) hG13 (by omega) (by omega) rfl rfl ?_
  show am_E _ (14, [vR y, vI 4, vI 0, vU, vU, vU, vU], [], aq_h m s F (aq_u c (y + 13) 0 0)) _
  generalize hdc_1 : aq_u c (y + 13) 0 0 = c_1
  have sc_1 := aq_smu (aq_sm0 (c := c) (S := fun a => a = y + 13)) hdc_1 rfl
  have mtc_1 := mt_0 hmt hdc_1
  refine am_E.go (t2 := (17, [vR y, vI 4, vI 1, vU, vU, vU, vU], [], aq_h m s F c_1)) rfl rfl ?_
  refine am_E.go (t2 := (2, [vR y, vI 4, vI 1, vU, vU, vU, vU], [], aq_h m s F c_1)) rfl rfl ?_
  refine am_E.go (t2 := (3, [vR y, vI 4, vI 1, vU, vU, vU, vU], [vI 1], aq_h m s F c_1)) rfl rfl ?_
  refine am_E.go (t2 := (4, [vR y, vI 4, vI 1, vU, vU, vU, vU], [vI 4, vI 1], aq_h m s F c_1)) rfl rfl ?_
  refine am_E.go (t2 := (7, [vR y, vI 4, vI 1, vU, vU, vU, vU], [], aq_h m s F c_1)) rfl rfl ?_
  refine am_E.go (t2 := (8, [vR y, vI 4, vI 1, vU, vU, vU, vU], [vR y], aq_h m s F c_1)) rfl rfl ?_
  refine aq_gf (v := vR (y + 13)) rfl (by omega) hFo (by decide) rfl ?_
  show am_E _ (11, [vR y, vI 4, vI 1, vU, vU, vU, vU], [vR (y + 13)], aq_h m s F c_1) _
  refine am_E.go (t2 := (12, [vR y, vI 4, vI 1, vU, vU, vU, vU], [vI 1, vR (y + 13)], aq_h m s F c_1)) rfl rfl ?_
  refine am_E.go (t2 := (13, [vR y, vI 4, vI 1, vU, vU, vU, vU], [vI 0, vI 1, vR (y + 13)], aq_h m s F c_1)) rfl rfl ?_
  refine aq_as (kd := 1) rfl rfl (by omega) hG13 (by omega) (by omega) rfl rfl ?_
  show am_E _ (14, [vR y, vI 4, vI 1, vU, vU, vU, vU], [], aq_h m s F (aq_u c_1 (y + 13) 1 0)) _
  generalize hdc_2 : aq_u c_1 (y + 13) 1 0 = c_2
  have sc_2 := aq_smu sc_1 hdc_2 rfl
  have mtc_2 := mt_1 mtc_1 hdc_2
  refine am_E.go (t2 := (17, [vR y, vI 4, vI 2, vU, vU, vU, vU], [], aq_h m s F c_2)) rfl rfl ?_
  refine am_E.go (t2 := (2, [vR y, vI 4, vI 2, vU, vU, vU, vU], [], aq_h m s F c_2)) rfl rfl ?_
  refine am_E.go (t2 := (3, [vR y, vI 4, vI 2, vU, vU, vU, vU], [vI 2], aq_h m s F c_2)) rfl rfl ?_
  refine am_E.go (t2 := (4, [vR y, vI 4, vI 2, vU, vU, vU, vU], [vI 4, vI 2], aq_h m s F c_2)) rfl rfl ?_
  refine am_E.go (t2 := (7, [vR y, vI 4, vI 2, vU, vU, vU, vU], [], aq_h m s F c_2)) rfl rfl ?_
  refine am_E.go (t2 := (8, [vR y, vI 4, vI 2, vU, vU, vU, vU], [vR y], aq_h m s F c_2)) rfl rfl ?_
  refine aq_gf (v := vR (y + 13)) rfl (by omega) hFo (by decide) rfl ?_
  show am_E _ (11, [vR y, vI 4, vI 2, vU, vU, vU, vU], [vR (y + 13)], aq_h m s F c_2) _
  refine am_E.go (t2 := (12, [vR y, vI 4, vI 2, vU, vU, vU, vU], [vI 2, vR (y + 13)], aq_h m s F c_2)) rfl rfl ?_
  refine am_E.go (t2 := (13, [vR y, vI 4, vI 2, vU, vU, vU, vU], [vI 0, vI 2, vR (y + 13)], aq_h m s F c_2)) rfl rfl ?_
  refine aq_as (kd := 1) rfl rfl (by omega) hG13 (by omega) (by omega) rfl rfl ?_
  show am_E _ (14, [vR y, vI 4, vI 2, vU, vU, vU, vU], [], aq_h m s F (aq_u c_2 (y + 13) 2 0)) _
  generalize hdc_3 : aq_u c_2 (y + 13) 2 0 = c_3
  have sc_3 := aq_smu sc_2 hdc_3 rfl
  have mtc_3 := mt_2 mtc_2 hdc_3
  refine am_E.go (t2 := (17, [vR y, vI 4, vI 3, vU, vU, vU, vU], [], aq_h m s F c_3)) rfl rfl ?_
  refine am_E.go (t2 := (2, [vR y, vI 4, vI 3, vU, vU, vU, vU], [], aq_h m s F c_3)) rfl rfl ?_
  refine am_E.go (t2 := (3, [vR y, vI 4, vI 3, vU, vU, vU, vU], [vI 3], aq_h m s F c_3)) rfl rfl ?_
  refine am_E.go (t2 := (4, [vR y, vI 4, vI 3, vU, vU, vU, vU], [vI 4, vI 3], aq_h m s F c_3)) rfl rfl ?_
  refine am_E.go (t2 := (7, [vR y, vI 4, vI 3, vU, vU, vU, vU], [], aq_h m s F c_3)) rfl rfl ?_
  refine am_E.go (t2 := (8, [vR y, vI 4, vI 3, vU, vU, vU, vU], [vR y], aq_h m s F c_3)) rfl rfl ?_
  refine aq_gf (v := vR (y + 13)) rfl (by omega) hFo (by decide) rfl ?_
  show am_E _ (11, [vR y, vI 4, vI 3, vU, vU, vU, vU], [vR (y + 13)], aq_h m s F c_3) _
  refine am_E.go (t2 := (12, [vR y, vI 4, vI 3, vU, vU, vU, vU], [vI 3, vR (y + 13)], aq_h m s F c_3)) rfl rfl ?_
  refine am_E.go (t2 := (13, [vR y, vI 4, vI 3, vU, vU, vU, vU], [vI 0, vI 3, vR (y + 13)], aq_h m s F c_3)) rfl rfl ?_
  refine aq_as (kd := 1) rfl rfl (by omega) hG13 (by omega) (by omega) rfl rfl ?_
  show am_E _ (14, [vR y, vI 4, vI 3, vU, vU, vU, vU], [], aq_h m s F (aq_u c_3 (y + 13) 3 0)) _
  generalize hdc_4 : aq_u c_3 (y + 13) 3 0 = c_4
  have sc_4 := aq_smu sc_3 hdc_4 rfl
  have mtc_4 := mt_3 mtc_3 hdc_4
  refine am_E.go (t2 := (17, [vR y, vI 4, vI 4, vU, vU, vU, vU], [], aq_h m s F c_4)) rfl rfl ?_
  refine am_E.go (t2 := (2, [vR y, vI 4, vI 4, vU, vU, vU, vU], [], aq_h m s F c_4)) rfl rfl ?_
  refine am_E.go (t2 := (3, [vR y, vI 4, vI 4, vU, vU, vU, vU], [vI 4], aq_h m s F c_4)) rfl rfl ?_
  refine am_E.go (t2 := (4, [vR y, vI 4, vI 4, vU, vU, vU, vU], [vI 4, vI 4], aq_h m s F c_4)) rfl rfl ?_
  refine am_E.go (t2 := (20, [vR y, vI 4, vI 4, vU, vU, vU, vU], [], aq_h m s F c_4)) rfl rfl ?_
  refine am_E.go (t2 := (21, [vR y, vI 4, vI 4, vU, vU, vU, vU], [vI 0], aq_h m s F c_4)) rfl rfl ?_
  refine am_E.go (t2 := (22, [vR y, vI 4, vI 0, vU, vU, vU, vU], [], aq_h m s F c_4)) rfl rfl ?_
  refine am_E.go (t2 := (23, [vR y, vI 4, vI 0, vU, vU, vU, vU], [vI 0], aq_h m s F c_4)) rfl rfl ?_
  refine am_E.go (t2 := (24, [vR y, vI 4, vI 0, vU, vU, vU, vU], [vI 4, vI 0], aq_h m s F c_4)) rfl rfl ?_
  refine am_E.go (t2 := (27, [vR y, vI 4, vI 0, vU, vU, vU, vU], [], aq_h m s F c_4)) rfl rfl ?_
  refine am_E.go (t2 := (28, [vR y, vI 4, vI 0, vU, vU, vU, vU], [vR y], aq_h m s F c_4)) rfl rfl ?_
  refine aq_gf (v := vR (y + 18)) rfl (by omega) hFo (by decide) rfl ?_
  show am_E _ (31, [vR y, vI 4, vI 0, vU, vU, vU, vU], [vR (y + 18)], aq_h m s F c_4) _
  refine am_E.go (t2 := (32, [vR y, vI 4, vI 0, vU, vU, vU, vU], [vI 0, vR (y + 18)], aq_h m s F c_4)) rfl rfl ?_
  refine aq_al (ok := fun k => k == 0) (v := vI (c_4 (y + 18) 0)) rfl rfl (by omega) hG18 rfl (by decide) (by decide) rfl ?_
  rw [sc_4 (y + 18) (by omega), hA0]
  show am_E _ (33, [vR y, vI 4, vI 0, vU, vU, vU, vU], [vI 4], aq_h m s F c_4) _
  refine am_E.go (t2 := (34, [vR y, vI 4, vI 0, vU, vU, vU, vU], [vI 4, vI 4], aq_h m s F c_4)) rfl rfl ?_
  refine am_E.go (t2 := (37, [vR y, vI 4, vI 0, vU, vU, vU, vU], [], aq_h m s F c_4)) rfl rfl ?_
  refine am_E.go (t2 := (38, [vR y, vI 4, vI 0, vU, vU, vU, vU], [vI 0], aq_h m s F c_4)) rfl rfl ?_
  refine am_E.go (t2 := (39, [vR y, vI 4, vI 0, vI 0, vU, vU, vU], [], aq_h m s F c_4)) rfl rfl ?_
  refine am_E.go (t2 := (40, [vR y, vI 4, vI 0, vI 0, vU, vU, vU], [vI 1], aq_h m s F c_4)) rfl rfl ?_
  refine am_E.go (t2 := (42, [vR y, vI 4, vI 0, vI 0, vI 1, vU, vU], [], aq_h m s F c_4)) rfl rfl ?_
  refine am_E.go (t2 := (43, [vR y, vI 4, vI 0, vI 0, vI 1, vU, vU], [vI 1], aq_h m s F c_4)) rfl rfl ?_
  refine am_E.go (t2 := (45, [vR y, vI 4, vI 0, vI 0, vI 1, vI 1, vU], [], aq_h m s F c_4)) rfl rfl ?_
  refine am_E.go (t2 := (47, [vR y, vI 4, vI 0, vI 0, vI 1, vI 1, vU], [vI 1], aq_h m s F c_4)) rfl rfl ?_
  refine am_E.go (t2 := (50, [vR y, vI 4, vI 0, vI 0, vI 1, vI 1, vU], [], aq_h m s F c_4)) rfl rfl ?_
  refine am_E.go (t2 := (51, [vR y, vI 4, vI 0, vI 0, vI 1, vI 1, vU], [vR y], aq_h m s F c_4)) rfl rfl ?_
  refine aq_gf (v := vR (y + 13)) rfl (by omega) hFo (by decide) rfl ?_
  show am_E _ (54, [vR y, vI 4, vI 0, vI 0, vI 1, vI 1, vU], [vR (y + 13)], aq_h m s F c_4) _
  refine am_E.go (t2 := (55, [vR y, vI 4, vI 0, vI 0, vI 1, vI 1, vU], [vI 0, vR (y + 13)], aq_h m s F c_4)) rfl rfl ?_
  refine am_E.go (t2 := (56, [vR y, vI 4, vI 0, vI 0, vI 1, vI 1, vU], [vI 1, vI 0, vR (y + 13)], aq_h m s F c_4)) rfl rfl ?_
  refine aq_as (kd := 1) rfl rfl (by omega) hG13 (by omega) (by omega) rfl rfl ?_
  show am_E _ (57, [vR y, vI 4, vI 0, vI 0, vI 1, vI 1, vU], [], aq_h m s F (aq_u c_4 (y + 13) 0 1)) _
  generalize hdc_5 : aq_u c_4 (y + 13) 0 1 = c_5
  have sc_5 := aq_smu sc_4 hdc_5 rfl
  have mtc_5 := mt_0 mtc_4 hdc_5
  refine am_E.go (t2 := (59, [vR y, vI 4, vI 0, vI 0, vI 1, vI 1, vU], [vI 1], aq_h m s F c_5)) rfl rfl ?_
  refine am_E.go (t2 := (62, [vR y, vI 4, vI 0, vI 0, vI 1, vI 1, vU], [], aq_h m s F c_5)) rfl rfl ?_
  refine am_E.go (t2 := (63, [vR y, vI 4, vI 0, vI 0, vI 1, vI 1, vU], [vR y], aq_h m s F c_5)) rfl rfl ?_
  refine aq_gf (v := vR (y + 19)) rfl (by omega) hFo (by decide) rfl ?_
  show am_E _ (66, [vR y, vI 4, vI 0, vI 0, vI 1, vI 1, vU], [vR (y + 19)], aq_h m s F c_5) _
  refine am_E.go (t2 := (67, [vR y, vI 4, vI 0, vI 0, vI 1, vI 1, vU], [vI 0, vR (y + 19)], aq_h m s F c_5)) rfl rfl ?_
  refine aq_al (ok := fun k => k == 0) (v := vI (c_5 (y + 19) 0)) rfl rfl (by omega) hG19 rfl (by decide) (by decide) rfl ?_
  rw [sc_5 (y + 19) (by omega), hB0]
  show am_E _ (68, [vR y, vI 4, vI 0, vI 0, vI 1, vI 1, vU], [vI 4], aq_h m s F c_5) _
  refine am_E.go (t2 := (77, [vR y, vI 4, vI 0, vI 0, vI 1, vI 1, vU], [vI 4], aq_h m s F c_5)) rfl rfl ?_
  refine am_E.go (t2 := (79, [vR y, vI 4, vI 0, vI 0, vI 1, vI 1, vI 4], [], aq_h m s F c_5)) rfl rfl ?_
  refine am_E.go (t2 := (81, [vR y, vI 4, vI 0, vI 0, vI 1, vI 1, vI 4], [vI 4], aq_h m s F c_5)) rfl rfl ?_
  refine am_E.go (t2 := (82, [vR y, vI 4, vI 0, vI 0, vI 1, vI 1, vI 4], [vI 4, vI 4], aq_h m s F c_5)) rfl rfl ?_
  refine am_E.go (t2 := (89, [vR y, vI 4, vI 0, vI 0, vI 1, vI 1, vI 4], [], aq_h m s F c_5)) rfl rfl ?_
  refine am_E.go (t2 := (90, [vR y, vI 4, vI 0, vI 0, vI 1, vI 1, vI 4], [vI 0], aq_h m s F c_5)) rfl rfl ?_
  refine am_E.go (t2 := (92, [vR y, vI 4, vI 0, vI 0, vI 1, vI 0, vI 4], [], aq_h m s F c_5)) rfl rfl ?_
  refine am_E.go (t2 := (94, [vR y, vI 4, vI 0, vI 0, vI 1, vI 0, vI 4], [vI 0], aq_h m s F c_5)) rfl rfl ?_
  refine am_E.go (t2 := (112, [vR y, vI 4, vI 0, vI 0, vI 1, vI 0, vI 4], [], aq_h m s F c_5)) rfl rfl ?_
  refine am_E.go (t2 := (45, [vR y, vI 4, vI 0, vI 0, vI 1, vI 0, vI 4], [], aq_h m s F c_5)) rfl rfl ?_
  refine am_E.go (t2 := (47, [vR y, vI 4, vI 0, vI 0, vI 1, vI 0, vI 4], [vI 0], aq_h m s F c_5)) rfl rfl ?_
  refine am_E.go (t2 := (115, [vR y, vI 4, vI 0, vI 0, vI 1, vI 0, vI 4], [], aq_h m s F c_5)) rfl rfl ?_
  refine am_E.go (t2 := (116, [vR y, vI 4, vI 0, vI 0, vI 1, vI 0, vI 4], [vR y], aq_h m s F c_5)) rfl rfl ?_
  refine aq_gf (v := vR (y + 13)) rfl (by omega) hFo (by decide) rfl ?_
  show am_E _ (119, [vR y, vI 4, vI 0, vI 0, vI 1, vI 0, vI 4], [vR (y + 13)], aq_h m s F c_5) _
  refine am_E.go (t2 := (120, [vR y, vI 4, vI 0, vI 0, vI 1, vI 0, vI 4], [vI 0, vR (y + 13)], aq_h m s F c_5)) rfl rfl ?_
  refine am_E.go (t2 := (121, [vR y, vI 4, vI 0, vI 0, vI 1, vI 0, vI 4], [vI 1, vI 0, vR (y + 13)], aq_h m s F c_5)) rfl rfl ?_
  refine aq_as (kd := 1) rfl rfl (by omega) hG13 (by omega) (by omega) rfl rfl ?_
  show am_E _ (122, [vR y, vI 4, vI 0, vI 0, vI 1, vI 0, vI 4], [], aq_h m s F (aq_u c_5 (y + 13) 0 1)) _
  generalize hdc_6 : aq_u c_5 (y + 13) 0 1 = c_6
  have sc_6 := aq_smu sc_5 hdc_6 rfl
  have mtc_6 := mt_0 mtc_5 hdc_6
  refine am_E.go (t2 := (124, [vR y, vI 4, vI 0, vI 0, vI 1, vI 0, vI 4], [vI 1], aq_h m s F c_6)) rfl rfl ?_
  refine am_E.go (t2 := (130, [vR y, vI 4, vI 0, vI 0, vI 1, vI 0, vI 4], [], aq_h m s F c_6)) rfl rfl ?_
  refine am_E.go (t2 := (133, [vR y, vI 4, vI 1, vI 0, vI 1, vI 0, vI 4], [], aq_h m s F c_6)) rfl rfl ?_
  refine am_E.go (t2 := (22, [vR y, vI 4, vI 1, vI 0, vI 1, vI 0, vI 4], [], aq_h m s F c_6)) rfl rfl ?_
  refine am_E.go (t2 := (23, [vR y, vI 4, vI 1, vI 0, vI 1, vI 0, vI 4], [vI 1], aq_h m s F c_6)) rfl rfl ?_
  refine am_E.go (t2 := (24, [vR y, vI 4, vI 1, vI 0, vI 1, vI 0, vI 4], [vI 4, vI 1], aq_h m s F c_6)) rfl rfl ?_
  refine am_E.go (t2 := (27, [vR y, vI 4, vI 1, vI 0, vI 1, vI 0, vI 4], [], aq_h m s F c_6)) rfl rfl ?_
  refine am_E.go (t2 := (28, [vR y, vI 4, vI 1, vI 0, vI 1, vI 0, vI 4], [vR y], aq_h m s F c_6)) rfl rfl ?_
  refine aq_gf (v := vR (y + 18)) rfl (by omega) hFo (by decide) rfl ?_
  show am_E _ (31, [vR y, vI 4, vI 1, vI 0, vI 1, vI 0, vI 4], [vR (y + 18)], aq_h m s F c_6) _
  refine am_E.go (t2 := (32, [vR y, vI 4, vI 1, vI 0, vI 1, vI 0, vI 4], [vI 1, vR (y + 18)], aq_h m s F c_6)) rfl rfl ?_
  refine aq_al (ok := fun k => k == 0) (v := vI (c_6 (y + 18) 1)) rfl rfl (by omega) hG18 rfl (by decide) (by decide) rfl ?_
  rw [sc_6 (y + 18) (by omega), hA1]
  show am_E _ (33, [vR y, vI 4, vI 1, vI 0, vI 1, vI 0, vI 4], [vI 4], aq_h m s F c_6) _
  refine am_E.go (t2 := (34, [vR y, vI 4, vI 1, vI 0, vI 1, vI 0, vI 4], [vI 4, vI 4], aq_h m s F c_6)) rfl rfl ?_
  refine am_E.go (t2 := (37, [vR y, vI 4, vI 1, vI 0, vI 1, vI 0, vI 4], [], aq_h m s F c_6)) rfl rfl ?_
  refine am_E.go (t2 := (38, [vR y, vI 4, vI 1, vI 0, vI 1, vI 0, vI 4], [vI 1], aq_h m s F c_6)) rfl rfl ?_
  refine am_E.go (t2 := (39, [vR y, vI 4, vI 1, vI 1, vI 1, vI 0, vI 4], [], aq_h m s F c_6)) rfl rfl ?_
  refine am_E.go (t2 := (40, [vR y, vI 4, vI 1, vI 1, vI 1, vI 0, vI 4], [vI 1], aq_h m s F c_6)) rfl rfl ?_
  refine am_E.go (t2 := (42, [vR y, vI 4, vI 1, vI 1, vI 1, vI 0, vI 4], [], aq_h m s F c_6)) rfl rfl ?_
  refine am_E.go (t2 := (43, [vR y, vI 4, vI 1, vI 1, vI 1, vI 0, vI 4], [vI 1], aq_h m s F c_6)) rfl rfl ?_
  refine am_E.go (t2 := (45, [vR y, vI 4, vI 1, vI 1, vI 1, vI 1, vI 4], [], aq_h m s F c_6)) rfl rfl ?_
  refine am_E.go (t2 := (47, [vR y, vI 4, vI 1, vI 1, vI 1, vI 1, vI 4], [vI 1], aq_h m s F c_6)) rfl rfl ?_
  refine am_E.go (t2 := (50, [vR y, vI 4, vI 1, vI 1, vI 1, vI 1, vI 4], [], aq_h m s F c_6)) rfl rfl ?_
  refine am_E.go (t2 := (51, [vR y, vI 4, vI 1, vI 1, vI 1, vI 1, vI 4], [vR y], aq_h m s F c_6)) rfl rfl ?_
  refine aq_gf (v := vR (y + 13)) rfl (by omega) hFo (by decide) rfl ?_
  show am_E _ (54, [vR y, vI 4, vI 1, vI 1, vI 1, vI 1, vI 4], [vR (y + 13)], aq_h m s F c_6) _
  refine am_E.go (t2 := (55, [vR y, vI 4, vI 1, vI 1, vI 1, vI 1, vI 4], [vI 1, vR (y + 13)], aq_h m s F c_6)) rfl rfl ?_
  refine am_E.go (t2 := (56, [vR y, vI 4, vI 1, vI 1, vI 1, vI 1, vI 4], [vI 1, vI 1, vR (y + 13)], aq_h m s F c_6)) rfl rfl ?_
  refine aq_as (kd := 1) rfl rfl (by omega) hG13 (by omega) (by omega) rfl rfl ?_
  show am_E _ (57, [vR y, vI 4, vI 1, vI 1, vI 1, vI 1, vI 4], [], aq_h m s F (aq_u c_6 (y + 13) 1 1)) _
  generalize hdc_7 : aq_u c_6 (y + 13) 1 1 = c_7
  have sc_7 := aq_smu sc_6 hdc_7 rfl
  have mtc_7 := mt_1 mtc_6 hdc_7
  refine am_E.go (t2 := (59, [vR y, vI 4, vI 1, vI 1, vI 1, vI 1, vI 4], [vI 1], aq_h m s F c_7)) rfl rfl ?_
  refine am_E.go (t2 := (62, [vR y, vI 4, vI 1, vI 1, vI 1, vI 1, vI 4], [], aq_h m s F c_7)) rfl rfl ?_
  refine am_E.go (t2 := (63, [vR y, vI 4, vI 1, vI 1, vI 1, vI 1, vI 4], [vR y], aq_h m s F c_7)) rfl rfl ?_
  refine aq_gf (v := vR (y + 19)) rfl (by omega) hFo (by decide) rfl ?_
  show am_E _ (66, [vR y, vI 4, vI 1, vI 1, vI 1, vI 1, vI 4], [vR (y + 19)], aq_h m s F c_7) _
  refine am_E.go (t2 := (67, [vR y, vI 4, vI 1, vI 1, vI 1, vI 1, vI 4], [vI 1, vR (y + 19)], aq_h m s F c_7)) rfl rfl ?_
  refine aq_al (ok := fun k => k == 0) (v := vI (c_7 (y + 19) 1)) rfl rfl (by omega) hG19 rfl (by decide) (by decide) rfl ?_
  rw [sc_7 (y + 19) (by omega), hB1]
  show am_E _ (68, [vR y, vI 4, vI 1, vI 1, vI 1, vI 1, vI 4], [vI 4], aq_h m s F c_7) _
  refine am_E.go (t2 := (77, [vR y, vI 4, vI 1, vI 1, vI 1, vI 1, vI 4], [vI 4], aq_h m s F c_7)) rfl rfl ?_
  refine am_E.go (t2 := (79, [vR y, vI 4, vI 1, vI 1, vI 1, vI 1, vI 4], [], aq_h m s F c_7)) rfl rfl ?_
  refine am_E.go (t2 := (81, [vR y, vI 4, vI 1, vI 1, vI 1, vI 1, vI 4], [vI 4], aq_h m s F c_7)) rfl rfl ?_
  refine am_E.go (t2 := (82, [vR y, vI 4, vI 1, vI 1, vI 1, vI 1, vI 4], [vI 4, vI 4], aq_h m s F c_7)) rfl rfl ?_
  refine am_E.go (t2 := (89, [vR y, vI 4, vI 1, vI 1, vI 1, vI 1, vI 4], [], aq_h m s F c_7)) rfl rfl ?_
  refine am_E.go (t2 := (90, [vR y, vI 4, vI 1, vI 1, vI 1, vI 1, vI 4], [vI 0], aq_h m s F c_7)) rfl rfl ?_
  refine am_E.go (t2 := (92, [vR y, vI 4, vI 1, vI 1, vI 1, vI 0, vI 4], [], aq_h m s F c_7)) rfl rfl ?_
  refine am_E.go (t2 := (94, [vR y, vI 4, vI 1, vI 1, vI 1, vI 0, vI 4], [vI 0], aq_h m s F c_7)) rfl rfl ?_
  refine am_E.go (t2 := (112, [vR y, vI 4, vI 1, vI 1, vI 1, vI 0, vI 4], [], aq_h m s F c_7)) rfl rfl ?_
  refine am_E.go (t2 := (45, [vR y, vI 4, vI 1, vI 1, vI 1, vI 0, vI 4], [], aq_h m s F c_7)) rfl rfl ?_
  refine am_E.go (t2 := (47, [vR y, vI 4, vI 1, vI 1, vI 1, vI 0, vI 4], [vI 0], aq_h m s F c_7)) rfl rfl ?_
  refine am_E.go (t2 := (115, [vR y, vI 4, vI 1, vI 1, vI 1, vI 0, vI 4], [], aq_h m s F c_7)) rfl rfl ?_
  refine am_E.go (t2 := (116, [vR y, vI 4, vI 1, vI 1, vI 1, vI 0, vI 4], [vR y], aq_h m s F c_7)) rfl rfl ?_
  refine aq_gf (v := vR (y + 13)) rfl (by omega) hFo (by decide) rfl ?_
  show am_E _ (119, [vR y, vI 4, vI 1, vI 1, vI 1, vI 0, vI 4], [vR (y + 13)], aq_h m s F c_7) _
  refine am_E.go (t2 := (120, [vR y, vI 4, vI 1, vI 1, vI 1, vI 0, vI 4], [vI 1, vR (y + 13)], aq_h m s F c_7)) rfl rfl ?_
  refine am_E.go (t2 := (121, [vR y, vI 4, vI 1, vI 1, vI 1, vI 0, vI 4], [vI 1, vI 1, vR (y + 13)], aq_h m s F c_7)) rfl rfl ?_
  refine aq_as (kd := 1) rfl rfl (by omega) hG13 (by omega) (by omega) rfl rfl ?_
  show am_E _ (122, [vR y, vI 4, vI 1, vI 1, vI 1, vI 0, vI 4], [], aq_h m s F (aq_u c_7 (y + 13) 1 1)) _
  generalize hdc_8 : aq_u c_7 (y + 13) 1 1 = c_8
  have sc_8 := aq_smu sc_7 hdc_8 rfl
  have mtc_8 := mt_1 mtc_7 hdc_8
  refine am_E.go (t2 := (124, [vR y, vI 4, vI 1, vI 1, vI 1, vI 0, vI 4], [vI 1], aq_h m s F c_8)) rfl rfl ?_
  refine am_E.go (t2 := (130, [vR y, vI 4, vI 1, vI 1, vI 1, vI 0, vI 4], [], aq_h m s F c_8)) rfl rfl ?_
  refine am_E.go (t2 := (133, [vR y, vI 4, vI 2, vI 1, vI 1, vI 0, vI 4], [], aq_h m s F c_8)) rfl rfl ?_
  refine am_E.go (t2 := (22, [vR y, vI 4, vI 2, vI 1, vI 1, vI 0, vI 4], [], aq_h m s F c_8)) rfl rfl ?_
  refine am_E.go (t2 := (23, [vR y, vI 4, vI 2, vI 1, vI 1, vI 0, vI 4], [vI 2], aq_h m s F c_8)) rfl rfl ?_
  refine am_E.go (t2 := (24, [vR y, vI 4, vI 2, vI 1, vI 1, vI 0, vI 4], [vI 4, vI 2], aq_h m s F c_8)) rfl rfl ?_
  refine am_E.go (t2 := (27, [vR y, vI 4, vI 2, vI 1, vI 1, vI 0, vI 4], [], aq_h m s F c_8)) rfl rfl ?_
  refine am_E.go (t2 := (28, [vR y, vI 4, vI 2, vI 1, vI 1, vI 0, vI 4], [vR y], aq_h m s F c_8)) rfl rfl ?_
  refine aq_gf (v := vR (y + 18)) rfl (by omega) hFo (by decide) rfl ?_
  show am_E _ (31, [vR y, vI 4, vI 2, vI 1, vI 1, vI 0, vI 4], [vR (y + 18)], aq_h m s F c_8) _
  refine am_E.go (t2 := (32, [vR y, vI 4, vI 2, vI 1, vI 1, vI 0, vI 4], [vI 2, vR (y + 18)], aq_h m s F c_8)) rfl rfl ?_
  refine aq_al (ok := fun k => k == 0) (v := vI (c_8 (y + 18) 2)) rfl rfl (by omega) hG18 rfl (by decide) (by decide) rfl ?_
  rw [sc_8 (y + 18) (by omega), hA2]
  show am_E _ (33, [vR y, vI 4, vI 2, vI 1, vI 1, vI 0, vI 4], [vI 3], aq_h m s F c_8) _
  refine am_E.go (t2 := (34, [vR y, vI 4, vI 2, vI 1, vI 1, vI 0, vI 4], [vI 4, vI 3], aq_h m s F c_8)) rfl rfl ?_
  refine am_E.go (t2 := (130, [vR y, vI 4, vI 2, vI 1, vI 1, vI 0, vI 4], [], aq_h m s F c_8)) rfl rfl ?_
  refine am_E.go (t2 := (133, [vR y, vI 4, vI 3, vI 1, vI 1, vI 0, vI 4], [], aq_h m s F c_8)) rfl rfl ?_
  refine am_E.go (t2 := (22, [vR y, vI 4, vI 3, vI 1, vI 1, vI 0, vI 4], [], aq_h m s F c_8)) rfl rfl ?_
  refine am_E.go (t2 := (23, [vR y, vI 4, vI 3, vI 1, vI 1, vI 0, vI 4], [vI 3], aq_h m s F c_8)) rfl rfl ?_
  refine am_E.go (t2 := (24, [vR y, vI 4, vI 3, vI 1, vI 1, vI 0, vI 4], [vI 4, vI 3], aq_h m s F c_8)) rfl rfl ?_
  refine am_E.go (t2 := (27, [vR y, vI 4, vI 3, vI 1, vI 1, vI 0, vI 4], [], aq_h m s F c_8)) rfl rfl ?_
  refine am_E.go (t2 := (28, [vR y, vI 4, vI 3, vI 1, vI 1, vI 0, vI 4], [vR y], aq_h m s F c_8)) rfl rfl ?_
  refine aq_gf (v := vR (y + 18)) rfl (by omega) hFo (by decide) rfl ?_
  show am_E _ (31, [vR y, vI 4, vI 3, vI 1, vI 1, vI 0, vI 4], [vR (y + 18)], aq_h m s F c_8) _
  refine am_E.go (t2 := (32, [vR y, vI 4, vI 3, vI 1, vI 1, vI 0, vI 4], [vI 3, vR (y + 18)], aq_h m s F c_8)) rfl rfl ?_
  refine aq_al (ok := fun k => k == 0) (v := vI (c_8 (y + 18) 3)) rfl rfl (by omega) hG18 rfl (by decide) (by decide) rfl ?_
  rw [sc_8 (y + 18) (by omega), hA3]
  show am_E _ (33, [vR y, vI 4, vI 3, vI 1, vI 1, vI 0, vI 4], [vI 2], aq_h m s F c_8) _
  refine am_E.go (t2 := (34, [vR y, vI 4, vI 3, vI 1, vI 1, vI 0, vI 4], [vI 4, vI 2], aq_h m s F c_8)) rfl rfl ?_
  refine am_E.go (t2 := (130, [vR y, vI 4, vI 3, vI 1, vI 1, vI 0, vI 4], [], aq_h m s F c_8)) rfl rfl ?_
  refine am_E.go (t2 := (133, [vR y, vI 4, vI 4, vI 1, vI 1, vI 0, vI 4], [], aq_h m s F c_8)) rfl rfl ?_
  refine am_E.go (t2 := (22, [vR y, vI 4, vI 4, vI 1, vI 1, vI 0, vI 4], [], aq_h m s F c_8)) rfl rfl ?_
  refine am_E.go (t2 := (23, [vR y, vI 4, vI 4, vI 1, vI 1, vI 0, vI 4], [vI 4], aq_h m s F c_8)) rfl rfl ?_
  refine am_E.go (t2 := (24, [vR y, vI 4, vI 4, vI 1, vI 1, vI 0, vI 4], [vI 4, vI 4], aq_h m s F c_8)) rfl rfl ?_
  refine am_E.go (t2 := (136, [vR y, vI 4, vI 4, vI 1, vI 1, vI 0, vI 4], [], aq_h m s F c_8)) rfl rfl ?_
  refine am_E.go (t2 := (137, [vR y, vI 4, vI 4, vI 1, vI 1, vI 0, vI 4], [vI 0], aq_h m s F c_8)) rfl rfl ?_
  refine am_E.go (t2 := (138, [vR y, vI 4, vI 0, vI 1, vI 1, vI 0, vI 4], [], aq_h m s F c_8)) rfl rfl ?_
  refine am_E.go (t2 := (139, [vR y, vI 4, vI 0, vI 1, vI 1, vI 0, vI 4], [vI 0], aq_h m s F c_8)) rfl rfl ?_
  refine am_E.go (t2 := (140, [vR y, vI 4, vI 0, vI 1, vI 1, vI 0, vI 4], [vI 4, vI 0], aq_h m s F c_8)) rfl rfl ?_
  refine am_E.go (t2 := (143, [vR y, vI 4, vI 0, vI 1, vI 1, vI 0, vI 4], [], aq_h m s F c_8)) rfl rfl ?_
  refine am_E.go (t2 := (144, [vR y, vI 4, vI 0, vI 1, vI 1, vI 0, vI 4], [vR y], aq_h m s F c_8)) rfl rfl ?_
  refine aq_gf (v := vR (y + 13)) rfl (by omega) hFo (by decide) rfl ?_
  show am_E _ (147, [vR y, vI 4, vI 0, vI 1, vI 1, vI 0, vI 4], [vR (y + 13)], aq_h m s F c_8) _
  refine am_E.go (t2 := (148, [vR y, vI 4, vI 0, vI 1, vI 1, vI 0, vI 4], [vI 0, vR (y + 13)], aq_h m s F c_8)) rfl rfl ?_
  refine aq_al (ok := fun k => k == 1) (v := vI (c_8 (y + 13) 0)) rfl rfl (by omega) hG13 rfl (by decide) (by decide) rfl ?_
  rw [mtc_8.1]
  show am_E _ (149, [vR y, vI 4, vI 0, vI 1, vI 1, vI 0, vI 4], [vI 1], aq_h m s F c_8) _
  refine am_E.go (t2 := (165, [vR y, vI 4, vI 0, vI 1, vI 1, vI 0, vI 4], [], aq_h m s F c_8)) rfl rfl ?_
  refine am_E.go (t2 := (168, [vR y, vI 4, vI 1, vI 1, vI 1, vI 0, vI 4], [], aq_h m s F c_8)) rfl rfl ?_
  refine am_E.go (t2 := (138, [vR y, vI 4, vI 1, vI 1, vI 1, vI 0, vI 4], [], aq_h m s F c_8)) rfl rfl ?_
  refine am_E.go (t2 := (139, [vR y, vI 4, vI 1, vI 1, vI 1, vI 0, vI 4], [vI 1], aq_h m s F c_8)) rfl rfl ?_
  refine am_E.go (t2 := (140, [vR y, vI 4, vI 1, vI 1, vI 1, vI 0, vI 4], [vI 4, vI 1], aq_h m s F c_8)) rfl rfl ?_
  refine am_E.go (t2 := (143, [vR y, vI 4, vI 1, vI 1, vI 1, vI 0, vI 4], [], aq_h m s F c_8)) rfl rfl ?_
  refine am_E.go (t2 := (144, [vR y, vI 4, vI 1, vI 1, vI 1, vI 0, vI 4], [vR y], aq_h m s F c_8)) rfl rfl ?_
  refine aq_gf (v := vR (y + 13)) rfl (by omega) hFo (by decide) rfl ?_
  show am_E _ (147, [vR y, vI 4, vI 1, vI 1, vI 1, vI 0, vI 4], [vR (y + 13)], aq_h m s F c_8) _
  refine am_E.go (t2 := (148, [vR y, vI 4, vI 1, vI 1, vI 1, vI 0, vI 4], [vI 1, vR (y + 13)], aq_h m s F c_8)) rfl rfl ?_
  refine aq_al (ok := fun k => k == 1) (v := vI (c_8 (y + 13) 1)) rfl rfl (by omega) hG13 rfl (by decide) (by decide) rfl ?_
  rw [mtc_8.2.1]
  show am_E _ (149, [vR y, vI 4, vI 1, vI 1, vI 1, vI 0, vI 4], [vI 1], aq_h m s F c_8) _
  refine am_E.go (t2 := (165, [vR y, vI 4, vI 1, vI 1, vI 1, vI 0, vI 4], [], aq_h m s F c_8)) rfl rfl ?_
  refine am_E.go (t2 := (168, [vR y, vI 4, vI 2, vI 1, vI 1, vI 0, vI 4], [], aq_h m s F c_8)) rfl rfl ?_
  refine am_E.go (t2 := (138, [vR y, vI 4, vI 2, vI 1, vI 1, vI 0, vI 4], [], aq_h m s F c_8)) rfl rfl ?_
  refine am_E.go (t2 := (139, [vR y, vI 4, vI 2, vI 1, vI 1, vI 0, vI 4], [vI 2], aq_h m s F c_8)) rfl rfl ?_
  refine am_E.go (t2 := (140, [vR y, vI 4, vI 2, vI 1, vI 1, vI 0, vI 4], [vI 4, vI 2], aq_h m s F c_8)) rfl rfl ?_
  refine am_E.go (t2 := (143, [vR y, vI 4, vI 2, vI 1, vI 1, vI 0, vI 4], [], aq_h m s F c_8)) rfl rfl ?_
  refine am_E.go (t2 := (144, [vR y, vI 4, vI 2, vI 1, vI 1, vI 0, vI 4], [vR y], aq_h m s F c_8)) rfl rfl ?_
  refine aq_gf (v := vR (y + 13)) rfl (by omega) hFo (by decide) rfl ?_
  show am_E _ (147, [vR y, vI 4, vI 2, vI 1, vI 1, vI 0, vI 4], [vR (y + 13)], aq_h m s F c_8) _
  refine am_E.go (t2 := (148, [vR y, vI 4, vI 2, vI 1, vI 1, vI 0, vI 4], [vI 2, vR (y + 13)], aq_h m s F c_8)) rfl rfl ?_
  refine aq_al (ok := fun k => k == 1) (v := vI (c_8 (y + 13) 2)) rfl rfl (by omega) hG13 rfl (by decide) (by decide) rfl ?_
  rw [mtc_8.2.2.1]
  show am_E _ (149, [vR y, vI 4, vI 2, vI 1, vI 1, vI 0, vI 4], [vI 0], aq_h m s F c_8) _
  refine am_E.go (t2 := (152, [vR y, vI 4, vI 2, vI 1, vI 1, vI 0, vI 4], [], aq_h m s F c_8)) rfl rfl ?_
  refine am_E.go (t2 := (153, [vR y, vI 4, vI 2, vI 1, vI 1, vI 0, vI 4], [vR y], aq_h m s F c_8)) rfl rfl ?_
  refine aq_gf (v := vR (y + 19)) rfl (by omega) hFo (by decide) rfl ?_
  show am_E _ (156, [vR y, vI 4, vI 2, vI 1, vI 1, vI 0, vI 4], [vR (y + 19)], aq_h m s F c_8) _
  refine am_E.go (t2 := (157, [vR y, vI 4, vI 2, vI 1, vI 1, vI 0, vI 4], [vI 2, vR (y + 19)], aq_h m s F c_8)) rfl rfl ?_
  refine aq_al (ok := fun k => k == 0) (v := vI (c_8 (y + 19) 2)) rfl rfl (by omega) hG19 rfl (by decide) (by decide) rfl ?_
  rw [sc_8 (y + 19) (by omega), hB2]
  show am_E _ (158, [vR y, vI 4, vI 2, vI 1, vI 1, vI 0, vI 4], [vI 3], aq_h m s F c_8) _
  refine am_E.go (t2 := (159, [vR y, vI 4, vI 2, vI 1, vI 1, vI 0, vI 4], [vI 4, vI 3], aq_h m s F c_8)) rfl rfl ?_
  refine am_E.go (t2 := (165, [vR y, vI 4, vI 2, vI 1, vI 1, vI 0, vI 4], [], aq_h m s F c_8)) rfl rfl ?_
  refine am_E.go (t2 := (168, [vR y, vI 4, vI 3, vI 1, vI 1, vI 0, vI 4], [], aq_h m s F c_8)) rfl rfl ?_
  refine am_E.go (t2 := (138, [vR y, vI 4, vI 3, vI 1, vI 1, vI 0, vI 4], [], aq_h m s F c_8)) rfl rfl ?_
  refine am_E.go (t2 := (139, [vR y, vI 4, vI 3, vI 1, vI 1, vI 0, vI 4], [vI 3], aq_h m s F c_8)) rfl rfl ?_
  refine am_E.go (t2 := (140, [vR y, vI 4, vI 3, vI 1, vI 1, vI 0, vI 4], [vI 4, vI 3], aq_h m s F c_8)) rfl rfl ?_
  refine am_E.go (t2 := (143, [vR y, vI 4, vI 3, vI 1, vI 1, vI 0, vI 4], [], aq_h m s F c_8)) rfl rfl ?_
  refine am_E.go (t2 := (144, [vR y, vI 4, vI 3, vI 1, vI 1, vI 0, vI 4], [vR y], aq_h m s F c_8)) rfl rfl ?_
  refine aq_gf (v := vR (y + 13)) rfl (by omega) hFo (by decide) rfl ?_
  show am_E _ (147, [vR y, vI 4, vI 3, vI 1, vI 1, vI 0, vI 4], [vR (y + 13)], aq_h m s F c_8) _
  refine am_E.go (t2 := (148, [vR y, vI 4, vI 3, vI 1, vI 1, vI 0, vI 4], [vI 3, vR (y + 13)], aq_h m s F c_8)) rfl rfl ?_
  refine aq_al (ok := fun k => k == 1) (v := vI (c_8 (y + 13) 3)) rfl rfl (by omega) hG13 rfl (by decide) (by decide) rfl ?_
  rw [mtc_8.2.2.2]
  show am_E _ (149, [vR y, vI 4, vI 3, vI 1, vI 1, vI 0, vI 4], [vI 0], aq_h m s F c_8) _
  refine am_E.go (t2 := (152, [vR y, vI 4, vI 3, vI 1, vI 1, vI 0, vI 4], [], aq_h m s F c_8)) rfl rfl ?_
  refine am_E.go (t2 := (153, [vR y, vI 4, vI 3, vI 1, vI 1, vI 0, vI 4], [vR y], aq_h m s F c_8)) rfl rfl ?_
  refine aq_gf (v := vR (y + 19)) rfl (by omega) hFo (by decide) rfl ?_
  show am_E _ (156, [vR y, vI 4, vI 3, vI 1, vI 1, vI 0, vI 4], [vR (y + 19)], aq_h m s F c_8) _
  refine am_E.go (t2 := (157, [vR y, vI 4, vI 3, vI 1, vI 1, vI 0, vI 4], [vI 3, vR (y + 19)], aq_h m s F c_8)) rfl rfl ?_
  refine aq_al (ok := fun k => k == 0) (v := vI (c_8 (y + 19) 3)) rfl rfl (by omega) hG19 rfl (by decide) (by decide) rfl ?_
  rw [sc_8 (y + 19) (by omega), hB3]
  show am_E _ (158, [vR y, vI 4, vI 3, vI 1, vI 1, vI 0, vI 4], [vI 2], aq_h m s F c_8) _
  refine am_E.go (t2 := (159, [vR y, vI 4, vI 3, vI 1, vI 1, vI 0, vI 4], [vI 4, vI 2], aq_h m s F c_8)) rfl rfl ?_
  refine am_E.go (t2 := (165, [vR y, vI 4, vI 3, vI 1, vI 1, vI 0, vI 4], [], aq_h m s F c_8)) rfl rfl ?_
  refine am_E.go (t2 := (168, [vR y, vI 4, vI 4, vI 1, vI 1, vI 0, vI 4], [], aq_h m s F c_8)) rfl rfl ?_
  refine am_E.go (t2 := (138, [vR y, vI 4, vI 4, vI 1, vI 1, vI 0, vI 4], [], aq_h m s F c_8)) rfl rfl ?_
  refine am_E.go (t2 := (139, [vR y, vI 4, vI 4, vI 1, vI 1, vI 0, vI 4], [vI 4], aq_h m s F c_8)) rfl rfl ?_
  refine am_E.go (t2 := (140, [vR y, vI 4, vI 4, vI 1, vI 1, vI 0, vI 4], [vI 4, vI 4], aq_h m s F c_8)) rfl rfl ?_
  refine am_E.go (t2 := (171, [vR y, vI 4, vI 4, vI 1, vI 1, vI 0, vI 4], [], aq_h m s F c_8)) rfl rfl ?_
  refine am_E.go (t2 := (172, [vR y, vI 4, vI 4, vI 1, vI 1, vI 0, vI 4], [vI 0], aq_h m s F c_8)) rfl rfl ?_
  refine am_E.go (t2 := (173, [vR y, vI 4, vI 0, vI 1, vI 1, vI 0, vI 4], [], aq_h m s F c_8)) rfl rfl ?_
  refine am_E.go (t2 := (174, [vR y, vI 4, vI 0, vI 1, vI 1, vI 0, vI 4], [vI 0], aq_h m s F c_8)) rfl rfl ?_
  refine am_E.go (t2 := (175, [vR y, vI 4, vI 0, vI 0, vI 1, vI 0, vI 4], [], aq_h m s F c_8)) rfl rfl ?_
  refine am_E.go (t2 := (176, [vR y, vI 4, vI 0, vI 0, vI 1, vI 0, vI 4], [vI 0], aq_h m s F c_8)) rfl rfl ?_
  refine am_E.go (t2 := (177, [vR y, vI 4, vI 0, vI 0, vI 1, vI 0, vI 4], [vI 4, vI 0], aq_h m s F c_8)) rfl rfl ?_
  refine am_E.go (t2 := (180, [vR y, vI 4, vI 0, vI 0, vI 1, vI 0, vI 4], [], aq_h m s F c_8)) rfl rfl ?_
  refine am_E.go (t2 := (181, [vR y, vI 4, vI 0, vI 0, vI 1, vI 0, vI 4], [vR y], aq_h m s F c_8)) rfl rfl ?_
  refine aq_gf (v := vR (y + 13)) rfl (by omega) hFo (by decide) rfl ?_
  show am_E _ (184, [vR y, vI 4, vI 0, vI 0, vI 1, vI 0, vI 4], [vR (y + 13)], aq_h m s F c_8) _
  refine am_E.go (t2 := (185, [vR y, vI 4, vI 0, vI 0, vI 1, vI 0, vI 4], [vI 0, vR (y + 13)], aq_h m s F c_8)) rfl rfl ?_
  refine aq_al (ok := fun k => k == 1) (v := vI (c_8 (y + 13) 0)) rfl rfl (by omega) hG13 rfl (by decide) (by decide) rfl ?_
  rw [mtc_8.1]
  show am_E _ (186, [vR y, vI 4, vI 0, vI 0, vI 1, vI 0, vI 4], [vI 1], aq_h m s F c_8) _
  refine am_E.go (t2 := (253, [vR y, vI 4, vI 0, vI 0, vI 1, vI 0, vI 4], [], aq_h m s F c_8)) rfl rfl ?_
  refine am_E.go (t2 := (256, [vR y, vI 4, vI 0, vI 1, vI 1, vI 0, vI 4], [], aq_h m s F c_8)) rfl rfl ?_
  refine am_E.go (t2 := (175, [vR y, vI 4, vI 0, vI 1, vI 1, vI 0, vI 4], [], aq_h m s F c_8)) rfl rfl ?_
  refine am_E.go (t2 := (176, [vR y, vI 4, vI 0, vI 1, vI 1, vI 0, vI 4], [vI 1], aq_h m s F c_8)) rfl rfl ?_
  refine am_E.go (t2 := (177, [vR y, vI 4, vI 0, vI 1, vI 1, vI 0, vI 4], [vI 4, vI 1], aq_h m s F c_8)) rfl rfl ?_
  refine am_E.go (t2 := (180, [vR y, vI 4, vI 0, vI 1, vI 1, vI 0, vI 4], [], aq_h m s F c_8)) rfl rfl ?_
  refine am_E.go (t2 := (181, [vR y, vI 4, vI 0, vI 1, vI 1, vI 0, vI 4], [vR y], aq_h m s F c_8)) rfl rfl ?_
  refine aq_gf (v := vR (y + 13)) rfl (by omega) hFo (by decide) rfl ?_
  show am_E _ (184, [vR y, vI 4, vI 0, vI 1, vI 1, vI 0, vI 4], [vR (y + 13)], aq_h m s F c_8) _
  refine am_E.go (t2 := (185, [vR y, vI 4, vI 0, vI 1, vI 1, vI 0, vI 4], [vI 1, vR (y + 13)], aq_h m s F c_8)) rfl rfl ?_
  refine aq_al (ok := fun k => k == 1) (v := vI (c_8 (y + 13) 1)) rfl rfl (by omega) hG13 rfl (by decide) (by decide) rfl ?_
  rw [mtc_8.2.1]
  show am_E _ (186, [vR y, vI 4, vI 0, vI 1, vI 1, vI 0, vI 4], [vI 1], aq_h m s F c_8) _
  refine am_E.go (t2 := (253, [vR y, vI 4, vI 0, vI 1, vI 1, vI 0, vI 4], [], aq_h m s F c_8)) rfl rfl ?_
  refine am_E.go (t2 := (256, [vR y, vI 4, vI 0, vI 2, vI 1, vI 0, vI 4], [], aq_h m s F c_8)) rfl rfl ?_
  refine am_E.go (t2 := (175, [vR y, vI 4, vI 0, vI 2, vI 1, vI 0, vI 4], [], aq_h m s F c_8)) rfl rfl ?_
  refine am_E.go (t2 := (176, [vR y, vI 4, vI 0, vI 2, vI 1, vI 0, vI 4], [vI 2], aq_h m s F c_8)) rfl rfl ?_
  refine am_E.go (t2 := (177, [vR y, vI 4, vI 0, vI 2, vI 1, vI 0, vI 4], [vI 4, vI 2], aq_h m s F c_8)) rfl rfl ?_
  refine am_E.go (t2 := (180, [vR y, vI 4, vI 0, vI 2, vI 1, vI 0, vI 4], [], aq_h m s F c_8)) rfl rfl ?_
  refine am_E.go (t2 := (181, [vR y, vI 4, vI 0, vI 2, vI 1, vI 0, vI 4], [vR y], aq_h m s F c_8)) rfl rfl ?_
  refine aq_gf (v := vR (y + 13)) rfl (by omega) hFo (by decide) rfl ?_
  show am_E _ (184, [vR y, vI 4, vI 0, vI 2, vI 1, vI 0, vI 4], [vR (y + 13)], aq_h m s F c_8) _
  refine am_E.go (t2 := (185, [vR y, vI 4, vI 0, vI 2, vI 1, vI 0, vI 4], [vI 2, vR (y + 13)], aq_h m s F c_8)) rfl rfl ?_
  refine aq_al (ok := fun k => k == 1) (v := vI (c_8 (y + 13) 2)) rfl rfl (by omega) hG13 rfl (by decide) (by decide) rfl ?_
  rw [mtc_8.2.2.1]
  show am_E _ (186, [vR y, vI 4, vI 0, vI 2, vI 1, vI 0, vI 4], [vI 0], aq_h m s F c_8) _
  refine am_E.go (t2 := (189, [vR y, vI 4, vI 0, vI 2, vI 1, vI 0, vI 4], [], aq_h m s F c_8)) rfl rfl ?_
  refine am_E.go (t2 := (192, [vR y, vI 4, vI 1, vI 2, vI 1, vI 0, vI 4], [], aq_h m s F c_8)) rfl rfl ?_
  refine am_E.go (t2 := (193, [vR y, vI 4, vI 1, vI 2, vI 1, vI 0, vI 4], [vI 2], aq_h m s F c_8)) rfl rfl ?_
  refine am_E.go (t2 := (195, [vR y, vI 4, vI 1, vI 2, vI 2, vI 0, vI 4], [], aq_h m s F c_8)) rfl rfl ?_
  refine am_E.go (t2 := (196, [vR y, vI 4, vI 1, vI 2, vI 2, vI 0, vI 4], [vI 1], aq_h m s F c_8)) rfl rfl ?_
  refine am_E.go (t2 := (198, [vR y, vI 4, vI 1, vI 2, vI 2, vI 1, vI 4], [], aq_h m s F c_8)) rfl rfl ?_
  refine am_E.go (t2 := (200, [vR y, vI 4, vI 1, vI 2, vI 2, vI 1, vI 4], [vI 1], aq_h m s F c_8)) rfl rfl ?_
  refine am_E.go (t2 := (203, [vR y, vI 4, vI 1, vI 2, vI 2, vI 1, vI 4], [], aq_h m s F c_8)) rfl rfl ?_
  refine am_E.go (t2 := (204, [vR y, vI 4, vI 1, vI 2, vI 2, vI 1, vI 4], [vR y], aq_h m s F c_8)) rfl rfl ?_
  refine aq_gf (v := vR (y + 13)) rfl (by omega) hFo (by decide) rfl ?_
  show am_E _ (207, [vR y, vI 4, vI 1, vI 2, vI 2, vI 1, vI 4], [vR (y + 13)], aq_h m s F c_8) _
  refine am_E.go (t2 := (209, [vR y, vI 4, vI 1, vI 2, vI 2, vI 1, vI 4], [vI 2, vR (y + 13)], aq_h m s F c_8)) rfl rfl ?_
  refine am_E.go (t2 := (210, [vR y, vI 4, vI 1, vI 2, vI 2, vI 1, vI 4], [vI 1, vI 2, vR (y + 13)], aq_h m s F c_8)) rfl rfl ?_
  refine aq_as (kd := 1) rfl rfl (by omega) hG13 (by omega) (by omega) rfl rfl ?_
  show am_E _ (211, [vR y, vI 4, vI 1, vI 2, vI 2, vI 1, vI 4], [], aq_h m s F (aq_u c_8 (y + 13) 2 1)) _
  generalize hdc_9 : aq_u c_8 (y + 13) 2 1 = c_9
  have sc_9 := aq_smu sc_8 hdc_9 rfl
  have mtc_9 := mt_2 mtc_8 hdc_9
  refine am_E.go (t2 := (212, [vR y, vI 4, vI 1, vI 2, vI 2, vI 1, vI 4], [vR y], aq_h m s F c_9)) rfl rfl ?_
  refine aq_gf (v := vR (y + 18)) rfl (by omega) hFo (by decide) rfl ?_
  show am_E _ (215, [vR y, vI 4, vI 1, vI 2, vI 2, vI 1, vI 4], [vR (y + 18)], aq_h m s F c_9) _
  refine am_E.go (t2 := (217, [vR y, vI 4, vI 1, vI 2, vI 2, vI 1, vI 4], [vI 2, vR (y + 18)], aq_h m s F c_9)) rfl rfl ?_
  refine aq_al (ok := fun k => k == 0) (v := vI (c_9 (y + 18) 2)) rfl rfl (by omega) hG18 rfl (by decide) (by decide) rfl ?_
  rw [sc_9 (y + 18) (by omega), hA2]
  show am_E _ (218, [vR y, vI 4, vI 1, vI 2, vI 2, vI 1, vI 4], [vI 3], aq_h m s F c_9) _
  refine am_E.go (t2 := (220, [vR y, vI 4, vI 1, vI 2, vI 3, vI 1, vI 4], [], aq_h m s F c_9)) rfl rfl ?_
  refine am_E.go (t2 := (221, [vR y, vI 4, vI 1, vI 2, vI 3, vI 1, vI 4], [vR y], aq_h m s F c_9)) rfl rfl ?_
  refine aq_gf (v := vR (y + 13)) rfl (by omega) hFo (by decide) rfl ?_
  show am_E _ (224, [vR y, vI 4, vI 1, vI 2, vI 3, vI 1, vI 4], [vR (y + 13)], aq_h m s F c_9) _
  refine am_E.go (t2 := (226, [vR y, vI 4, vI 1, vI 2, vI 3, vI 1, vI 4], [vI 3, vR (y + 13)], aq_h m s F c_9)) rfl rfl ?_
  refine am_E.go (t2 := (227, [vR y, vI 4, vI 1, vI 2, vI 3, vI 1, vI 4], [vI 1, vI 3, vR (y + 13)], aq_h m s F c_9)) rfl rfl ?_
  refine aq_as (kd := 1) rfl rfl (by omega) hG13 (by omega) (by omega) rfl rfl ?_
  show am_E _ (228, [vR y, vI 4, vI 1, vI 2, vI 3, vI 1, vI 4], [], aq_h m s F (aq_u c_9 (y + 13) 3 1)) _
  generalize hdc_10 : aq_u c_9 (y + 13) 3 1 = c_10
  have sc_10 := aq_smu sc_9 hdc_10 rfl
  have mtc_10 := mt_3 mtc_9 hdc_10
  refine am_E.go (t2 := (229, [vR y, vI 4, vI 1, vI 2, vI 3, vI 1, vI 4], [vR y], aq_h m s F c_10)) rfl rfl ?_
  refine aq_gf (v := vR (y + 19)) rfl (by omega) hFo (by decide) rfl ?_
  show am_E _ (232, [vR y, vI 4, vI 1, vI 2, vI 3, vI 1, vI 4], [vR (y + 19)], aq_h m s F c_10) _
  refine am_E.go (t2 := (234, [vR y, vI 4, vI 1, vI 2, vI 3, vI 1, vI 4], [vI 3, vR (y + 19)], aq_h m s F c_10)) rfl rfl ?_
  refine aq_al (ok := fun k => k == 0) (v := vI (c_10 (y + 19) 3)) rfl rfl (by omega) hG19 rfl (by decide) (by decide) rfl ?_
  rw [sc_10 (y + 19) (by omega), hB3]
  show am_E _ (235, [vR y, vI 4, vI 1, vI 2, vI 3, vI 1, vI 4], [vI 2], aq_h m s F c_10) _
  refine am_E.go (t2 := (237, [vR y, vI 4, vI 1, vI 2, vI 2, vI 1, vI 4], [], aq_h m s F c_10)) rfl rfl ?_
  refine am_E.go (t2 := (239, [vR y, vI 4, vI 1, vI 2, vI 2, vI 1, vI 4], [vI 2], aq_h m s F c_10)) rfl rfl ?_
  refine am_E.go (t2 := (240, [vR y, vI 4, vI 1, vI 2, vI 2, vI 1, vI 4], [vI 2, vI 2], aq_h m s F c_10)) rfl rfl ?_
  refine am_E.go (t2 := (247, [vR y, vI 4, vI 1, vI 2, vI 2, vI 1, vI 4], [], aq_h m s F c_10)) rfl rfl ?_
  refine am_E.go (t2 := (248, [vR y, vI 4, vI 1, vI 2, vI 2, vI 1, vI 4], [vI 0], aq_h m s F c_10)) rfl rfl ?_
  refine am_E.go (t2 := (250, [vR y, vI 4, vI 1, vI 2, vI 2, vI 0, vI 4], [], aq_h m s F c_10)) rfl rfl ?_
  refine am_E.go (t2 := (198, [vR y, vI 4, vI 1, vI 2, vI 2, vI 0, vI 4], [], aq_h m s F c_10)) rfl rfl ?_
  refine am_E.go (t2 := (200, [vR y, vI 4, vI 1, vI 2, vI 2, vI 0, vI 4], [vI 0], aq_h m s F c_10)) rfl rfl ?_
  refine am_E.go (t2 := (253, [vR y, vI 4, vI 1, vI 2, vI 2, vI 0, vI 4], [], aq_h m s F c_10)) rfl rfl ?_
  refine am_E.go (t2 := (256, [vR y, vI 4, vI 1, vI 3, vI 2, vI 0, vI 4], [], aq_h m s F c_10)) rfl rfl ?_
  refine am_E.go (t2 := (175, [vR y, vI 4, vI 1, vI 3, vI 2, vI 0, vI 4], [], aq_h m s F c_10)) rfl rfl ?_
  refine am_E.go (t2 := (176, [vR y, vI 4, vI 1, vI 3, vI 2, vI 0, vI 4], [vI 3], aq_h m s F c_10)) rfl rfl ?_
  refine am_E.go (t2 := (177, [vR y, vI 4, vI 1, vI 3, vI 2, vI 0, vI 4], [vI 4, vI 3], aq_h m s F c_10)) rfl rfl ?_
  refine am_E.go (t2 := (180, [vR y, vI 4, vI 1, vI 3, vI 2, vI 0, vI 4], [], aq_h m s F c_10)) rfl rfl ?_
  refine am_E.go (t2 := (181, [vR y, vI 4, vI 1, vI 3, vI 2, vI 0, vI 4], [vR y], aq_h m s F c_10)) rfl rfl ?_
  refine aq_gf (v := vR (y + 13)) rfl (by omega) hFo (by decide) rfl ?_
  show am_E _ (184, [vR y, vI 4, vI 1, vI 3, vI 2, vI 0, vI 4], [vR (y + 13)], aq_h m s F c_10) _
  refine am_E.go (t2 := (185, [vR y, vI 4, vI 1, vI 3, vI 2, vI 0, vI 4], [vI 3, vR (y + 13)], aq_h m s F c_10)) rfl rfl ?_
  refine aq_al (ok := fun k => k == 1) (v := vI (c_10 (y + 13) 3)) rfl rfl (by omega) hG13 rfl (by decide) (by decide) rfl ?_
  rw [mtc_10.2.2.2]
  show am_E _ (186, [vR y, vI 4, vI 1, vI 3, vI 2, vI 0, vI 4], [vI 1], aq_h m s F c_10) _
  refine am_E.go (t2 := (253, [vR y, vI 4, vI 1, vI 3, vI 2, vI 0, vI 4], [], aq_h m s F c_10)) rfl rfl ?_
  refine am_E.go (t2 := (256, [vR y, vI 4, vI 1, vI 4, vI 2, vI 0, vI 4], [], aq_h m s F c_10)) rfl rfl ?_
  refine am_E.go (t2 := (175, [vR y, vI 4, vI 1, vI 4, vI 2, vI 0, vI 4], [], aq_h m s F c_10)) rfl rfl ?_
  refine am_E.go (t2 := (176, [vR y, vI 4, vI 1, vI 4, vI 2, vI 0, vI 4], [vI 4], aq_h m s F c_10)) rfl rfl ?_
  refine am_E.go (t2 := (177, [vR y, vI 4, vI 1, vI 4, vI 2, vI 0, vI 4], [vI 4, vI 4], aq_h m s F c_10)) rfl rfl ?_
  refine am_E.go (t2 := (259, [vR y, vI 4, vI 1, vI 4, vI 2, vI 0, vI 4], [], aq_h m s F c_10)) rfl rfl ?_
  refine am_E.go (t2 := (260, [vR y, vI 4, vI 1, vI 4, vI 2, vI 0, vI 4], [vI 1], aq_h m s F c_10)) rfl rfl ?_
  refine am_E.ret rfl rfl ?_
  exact ⟨_, rfl, sc_10, rfl⟩

theorem qm_fo_4400 {m s : Nat} {F : aq_F} {c : aq_C} {y : Nat} (hO : mo_0 m F y) (hA0 : c (y + 18) 0 = 4) (hA1 : c (y + 18) 1 = 4) (hA2 : c (y + 18) 2 = 4) (hA3 : c (y + 18) 3 = 4) (hB0 : c (y + 19) 0 = 4) (hB1 : c (y + 19) 1 = 4) (hB2 : c (y + 19) 2 = 4) (hB3 : c (y + 19) 3 = 4) : am_E ac_X5_formOf (0, [vR y, vI 4, vU, vU, vU, vU, vU], [], aq_h m s F c) (aq_Z m s F (fun a => a = y + 13) c (fun r _ => r = some (vI 0))) := by
  obtain ⟨hm, hFo, hG5, hG6, hG7, hG8, hG9, hG10, hG11, hG12, hG13, hG14, hG15, hG16, hG17, hG18, hG19, hG20, hG21, hG22, hG23⟩ := hO
  have hmt : mt_ y (c (y + 13) 0) (c (y + 13) 1) (c (y + 13) 2) (c (y + 13) 3) c := ⟨rfl, rfl, rfl, rfl⟩
  refine am_E.go (t2 := (1, [vR y, vI 4, vU, vU, vU, vU, vU], [vI 0], aq_h m s F c)) rfl rfl ?_
  refine am_E.go (t2 := (2, [vR y, vI 4, vI 0, vU, vU, vU, vU], [], aq_h m s F c)) rfl rfl ?_
  refine am_E.go (t2 := (3, [vR y, vI 4, vI 0, vU, vU, vU, vU], [vI 0], aq_h m s F c)) rfl rfl ?_
  refine am_E.go (t2 := (4, [vR y, vI 4, vI 0, vU, vU, vU, vU], [vI 4, vI 0], aq_h m s F c)) rfl rfl ?_
  refine am_E.go (t2 := (7, [vR y, vI 4, vI 0, vU, vU, vU, vU], [], aq_h m s F c)) rfl rfl ?_
  refine am_E.go (t2 := (8, [vR y, vI 4, vI 0, vU, vU, vU, vU], [vR y], aq_h m s F c)) rfl rfl ?_
  refine aq_gf (v := vR (y + 13)) rfl (by omega) hFo (by decide) rfl ?_
  show am_E _ (11, [vR y, vI 4, vI 0, vU, vU, vU, vU], [vR (y + 13)], aq_h m s F c) _
  refine am_E.go (t2 := (12, [vR y, vI 4, vI 0, vU, vU, vU, vU], [vI 0, vR (y + 13)], aq_h m s F c)) rfl rfl ?_
  refine am_E.go (t2 := (13, [vR y, vI 4, vI 0, vU, vU, vU, vU], [vI 0, vI 0, vR (y + 13)], aq_h m s F c)) rfl rfl ?_
  refine aq_as (kd := 1) rfl rfl (by omega) hG13 (by omega) (by omega) rfl rfl ?_
  show am_E _ (14, [vR y, vI 4, vI 0, vU, vU, vU, vU], [], aq_h m s F (aq_u c (y + 13) 0 0)) _
  generalize hdc_1 : aq_u c (y + 13) 0 0 = c_1
  have sc_1 := aq_smu (aq_sm0 (c := c) (S := fun a => a = y + 13)) hdc_1 rfl
  have mtc_1 := mt_0 hmt hdc_1
  refine am_E.go (t2 := (17, [vR y, vI 4, vI 1, vU, vU, vU, vU], [], aq_h m s F c_1)) rfl rfl ?_
  refine am_E.go (t2 := (2, [vR y, vI 4, vI 1, vU, vU, vU, vU], [], aq_h m s F c_1)) rfl rfl ?_
  refine am_E.go (t2 := (3, [vR y, vI 4, vI 1, vU, vU, vU, vU], [vI 1], aq_h m s F c_1)) rfl rfl ?_
  refine am_E.go (t2 := (4, [vR y, vI 4, vI 1, vU, vU, vU, vU], [vI 4, vI 1], aq_h m s F c_1)) rfl rfl ?_
  refine am_E.go (t2 := (7, [vR y, vI 4, vI 1, vU, vU, vU, vU], [], aq_h m s F c_1)) rfl rfl ?_
  refine am_E.go (t2 := (8, [vR y, vI 4, vI 1, vU, vU, vU, vU], [vR y], aq_h m s F c_1)) rfl rfl ?_
  refine aq_gf (v := vR (y + 13)) rfl (by omega) hFo (by decide) rfl ?_
  show am_E _ (11, [vR y, vI 4, vI 1, vU, vU, vU, vU], [vR (y + 13)], aq_h m s F c_1) _
  refine am_E.go (t2 := (12, [vR y, vI 4, vI 1, vU, vU, vU, vU], [vI 1, vR (y + 13)], aq_h m s F c_1)) rfl rfl ?_
  refine am_E.go (t2 := (13, [vR y, vI 4, vI 1, vU, vU, vU, vU], [vI 0, vI 1, vR (y + 13)], aq_h m s F c_1)) rfl rfl ?_
  refine aq_as (kd := 1) rfl rfl (by omega) hG13 (by omega) (by omega) rfl rfl ?_
  show am_E _ (14, [vR y, vI 4, vI 1, vU, vU, vU, vU], [], aq_h m s F (aq_u c_1 (y + 13) 1 0)) _
  generalize hdc_2 : aq_u c_1 (y + 13) 1 0 = c_2
  have sc_2 := aq_smu sc_1 hdc_2 rfl
  have mtc_2 := mt_1 mtc_1 hdc_2
  refine am_E.go (t2 := (17, [vR y, vI 4, vI 2, vU, vU, vU, vU], [], aq_h m s F c_2)) rfl rfl ?_
  refine am_E.go (t2 := (2, [vR y, vI 4, vI 2, vU, vU, vU, vU], [], aq_h m s F c_2)) rfl rfl ?_
  refine am_E.go (t2 := (3, [vR y, vI 4, vI 2, vU, vU, vU, vU], [vI 2], aq_h m s F c_2)) rfl rfl ?_
  refine am_E.go (t2 := (4, [vR y, vI 4, vI 2, vU, vU, vU, vU], [vI 4, vI 2], aq_h m s F c_2)) rfl rfl ?_
  refine am_E.go (t2 := (7, [vR y, vI 4, vI 2, vU, vU, vU, vU], [], aq_h m s F c_2)) rfl rfl ?_
  refine am_E.go (t2 := (8, [vR y, vI 4, vI 2, vU, vU, vU, vU], [vR y], aq_h m s F c_2)) rfl rfl ?_
  refine aq_gf (v := vR (y + 13)) rfl (by omega) hFo (by decide) rfl ?_
  show am_E _ (11, [vR y, vI 4, vI 2, vU, vU, vU, vU], [vR (y + 13)], aq_h m s F c_2) _
  refine am_E.go (t2 := (12, [vR y, vI 4, vI 2, vU, vU, vU, vU], [vI 2, vR (y + 13)], aq_h m s F c_2)) rfl rfl ?_
  refine am_E.go (t2 := (13, [vR y, vI 4, vI 2, vU, vU, vU, vU], [vI 0, vI 2, vR (y + 13)], aq_h m s F c_2)) rfl rfl ?_
  refine aq_as (kd := 1) rfl rfl (by omega) hG13 (by omega) (by omega) rfl rfl ?_
  show am_E _ (14, [vR y, vI 4, vI 2, vU, vU, vU, vU], [], aq_h m s F (aq_u c_2 (y + 13) 2 0)) _
  generalize hdc_3 : aq_u c_2 (y + 13) 2 0 = c_3
  have sc_3 := aq_smu sc_2 hdc_3 rfl
  have mtc_3 := mt_2 mtc_2 hdc_3
  refine am_E.go (t2 := (17, [vR y, vI 4, vI 3, vU, vU, vU, vU], [], aq_h m s F c_3)) rfl rfl ?_
  refine am_E.go (t2 := (2, [vR y, vI 4, vI 3, vU, vU, vU, vU], [], aq_h m s F c_3)) rfl rfl ?_
  refine am_E.go (t2 := (3, [vR y, vI 4, vI 3, vU, vU, vU, vU], [vI 3], aq_h m s F c_3)) rfl rfl ?_
  refine am_E.go (t2 := (4, [vR y, vI 4, vI 3, vU, vU, vU, vU], [vI 4, vI 3], aq_h m s F c_3)) rfl rfl ?_
  refine am_E.go (t2 := (7, [vR y, vI 4, vI 3, vU, vU, vU, vU], [], aq_h m s F c_3)) rfl rfl ?_
  refine am_E.go (t2 := (8, [vR y, vI 4, vI 3, vU, vU, vU, vU], [vR y], aq_h m s F c_3)) rfl rfl ?_
  refine aq_gf (v := vR (y + 13)) rfl (by omega) hFo (by decide) rfl ?_
  show am_E _ (11, [vR y, vI 4, vI 3, vU, vU, vU, vU], [vR (y + 13)], aq_h m s F c_3) _
  refine am_E.go (t2 := (12, [vR y, vI 4, vI 3, vU, vU, vU, vU], [vI 3, vR (y + 13)], aq_h m s F c_3)) rfl rfl ?_
  refine am_E.go (t2 := (13, [vR y, vI 4, vI 3, vU, vU, vU, vU], [vI 0, vI 3, vR (y + 13)], aq_h m s F c_3)) rfl rfl ?_
  refine aq_as (kd := 1) rfl rfl (by omega) hG13 (by omega) (by omega) rfl rfl ?_
  show am_E _ (14, [vR y, vI 4, vI 3, vU, vU, vU, vU], [], aq_h m s F (aq_u c_3 (y + 13) 3 0)) _
  generalize hdc_4 : aq_u c_3 (y + 13) 3 0 = c_4
  have sc_4 := aq_smu sc_3 hdc_4 rfl
  have mtc_4 := mt_3 mtc_3 hdc_4
  refine am_E.go (t2 := (17, [vR y, vI 4, vI 4, vU, vU, vU, vU], [], aq_h m s F c_4)) rfl rfl ?_
  refine am_E.go (t2 := (2, [vR y, vI 4, vI 4, vU, vU, vU, vU], [], aq_h m s F c_4)) rfl rfl ?_
  refine am_E.go (t2 := (3, [vR y, vI 4, vI 4, vU, vU, vU, vU], [vI 4], aq_h m s F c_4)) rfl rfl ?_
  refine am_E.go (t2 := (4, [vR y, vI 4, vI 4, vU, vU, vU, vU], [vI 4, vI 4], aq_h m s F c_4)) rfl rfl ?_
  refine am_E.go (t2 := (20, [vR y, vI 4, vI 4, vU, vU, vU, vU], [], aq_h m s F c_4)) rfl rfl ?_
  refine am_E.go (t2 := (21, [vR y, vI 4, vI 4, vU, vU, vU, vU], [vI 0], aq_h m s F c_4)) rfl rfl ?_
  refine am_E.go (t2 := (22, [vR y, vI 4, vI 0, vU, vU, vU, vU], [], aq_h m s F c_4)) rfl rfl ?_
  refine am_E.go (t2 := (23, [vR y, vI 4, vI 0, vU, vU, vU, vU], [vI 0], aq_h m s F c_4)) rfl rfl ?_
  refine am_E.go (t2 := (24, [vR y, vI 4, vI 0, vU, vU, vU, vU], [vI 4, vI 0], aq_h m s F c_4)) rfl rfl ?_
  refine am_E.go (t2 := (27, [vR y, vI 4, vI 0, vU, vU, vU, vU], [], aq_h m s F c_4)) rfl rfl ?_
  refine am_E.go (t2 := (28, [vR y, vI 4, vI 0, vU, vU, vU, vU], [vR y], aq_h m s F c_4)) rfl rfl ?_
  refine aq_gf (v := vR (y + 18)) rfl (by omega) hFo (by decide) rfl ?_
  show am_E _ (31, [vR y, vI 4, vI 0, vU, vU, vU, vU], [vR (y + 18)], aq_h m s F c_4) _
  refine am_E.go (t2 := (32, [vR y, vI 4, vI 0, vU, vU, vU, vU], [vI 0, vR (y + 18)], aq_h m s F c_4)) rfl rfl ?_
  refine aq_al (ok := fun k => k == 0) (v := vI (c_4 (y + 18) 0)) rfl rfl (by omega) hG18 rfl (by decide) (by decide) rfl ?_
  rw [sc_4 (y + 18) (by omega), hA0]
  show am_E _ (33, [vR y, vI 4, vI 0, vU, vU, vU, vU], [vI 4], aq_h m s F c_4) _
  refine am_E.go (t2 := (34, [vR y, vI 4, vI 0, vU, vU, vU, vU], [vI 4, vI 4], aq_h m s F c_4)) rfl rfl ?_
  refine am_E.go (t2 := (37, [vR y, vI 4, vI 0, vU, vU, vU, vU], [], aq_h m s F c_4)) rfl rfl ?_
  refine am_E.go (t2 := (38, [vR y, vI 4, vI 0, vU, vU, vU, vU], [vI 0], aq_h m s F c_4)) rfl rfl ?_
  refine am_E.go (t2 := (39, [vR y, vI 4, vI 0, vI 0, vU, vU, vU], [], aq_h m s F c_4)) rfl rfl ?_
  refine am_E.go (t2 := (40, [vR y, vI 4, vI 0, vI 0, vU, vU, vU], [vI 1], aq_h m s F c_4)) rfl rfl ?_
  refine am_E.go (t2 := (42, [vR y, vI 4, vI 0, vI 0, vI 1, vU, vU], [], aq_h m s F c_4)) rfl rfl ?_
  refine am_E.go (t2 := (43, [vR y, vI 4, vI 0, vI 0, vI 1, vU, vU], [vI 1], aq_h m s F c_4)) rfl rfl ?_
  refine am_E.go (t2 := (45, [vR y, vI 4, vI 0, vI 0, vI 1, vI 1, vU], [], aq_h m s F c_4)) rfl rfl ?_
  refine am_E.go (t2 := (47, [vR y, vI 4, vI 0, vI 0, vI 1, vI 1, vU], [vI 1], aq_h m s F c_4)) rfl rfl ?_
  refine am_E.go (t2 := (50, [vR y, vI 4, vI 0, vI 0, vI 1, vI 1, vU], [], aq_h m s F c_4)) rfl rfl ?_
  refine am_E.go (t2 := (51, [vR y, vI 4, vI 0, vI 0, vI 1, vI 1, vU], [vR y], aq_h m s F c_4)) rfl rfl ?_
  refine aq_gf (v := vR (y + 13)) rfl (by omega) hFo (by decide) rfl ?_
  show am_E _ (54, [vR y, vI 4, vI 0, vI 0, vI 1, vI 1, vU], [vR (y + 13)], aq_h m s F c_4) _
  refine am_E.go (t2 := (55, [vR y, vI 4, vI 0, vI 0, vI 1, vI 1, vU], [vI 0, vR (y + 13)], aq_h m s F c_4)) rfl rfl ?_
  refine am_E.go (t2 := (56, [vR y, vI 4, vI 0, vI 0, vI 1, vI 1, vU], [vI 1, vI 0, vR (y + 13)], aq_h m s F c_4)) rfl rfl ?_
  refine aq_as (kd := 1) rfl rfl (by omega) hG13 (by omega) (by omega) rfl rfl ?_
  show am_E _ (57, [vR y, vI 4, vI 0, vI 0, vI 1, vI 1, vU], [], aq_h m s F (aq_u c_4 (y + 13) 0 1)) _
  generalize hdc_5 : aq_u c_4 (y + 13) 0 1 = c_5
  have sc_5 := aq_smu sc_4 hdc_5 rfl
  have mtc_5 := mt_0 mtc_4 hdc_5
  refine am_E.go (t2 := (59, [vR y, vI 4, vI 0, vI 0, vI 1, vI 1, vU], [vI 1], aq_h m s F c_5)) rfl rfl ?_
  refine am_E.go (t2 := (62, [vR y, vI 4, vI 0, vI 0, vI 1, vI 1, vU], [], aq_h m s F c_5)) rfl rfl ?_
  refine am_E.go (t2 := (63, [vR y, vI 4, vI 0, vI 0, vI 1, vI 1, vU], [vR y], aq_h m s F c_5)) rfl rfl ?_
  refine aq_gf (v := vR (y + 19)) rfl (by omega) hFo (by decide) rfl ?_
  show am_E _ (66, [vR y, vI 4, vI 0, vI 0, vI 1, vI 1, vU], [vR (y + 19)], aq_h m s F c_5) _
  refine am_E.go (t2 := (67, [vR y, vI 4, vI 0, vI 0, vI 1, vI 1, vU], [vI 0, vR (y + 19)], aq_h m s F c_5)) rfl rfl ?_
  refine aq_al (ok := fun k => k == 0) (v := vI (c_5 (y + 19) 0)) rfl rfl (by omega) hG19 rfl (by decide) (by decide) rfl ?_
  rw [sc_5 (y + 19) (by omega), hB0]
  show am_E _ (68, [vR y, vI 4, vI 0, vI 0, vI 1, vI 1, vU], [vI 4], aq_h m s F c_5) _
  refine am_E.go (t2 := (77, [vR y, vI 4, vI 0, vI 0, vI 1, vI 1, vU], [vI 4], aq_h m s F c_5)) rfl rfl ?_
  refine am_E.go (t2 := (79, [vR y, vI 4, vI 0, vI 0, vI 1, vI 1, vI 4], [], aq_h m s F c_5)) rfl rfl ?_
  refine am_E.go (t2 := (81, [vR y, vI 4, vI 0, vI 0, vI 1, vI 1, vI 4], [vI 4], aq_h m s F c_5)) rfl rfl ?_
  refine am_E.go (t2 := (82, [vR y, vI 4, vI 0, vI 0, vI 1, vI 1, vI 4], [vI 4, vI 4], aq_h m s F c_5)) rfl rfl ?_
  refine am_E.go (t2 := (89, [vR y, vI 4, vI 0, vI 0, vI 1, vI 1, vI 4], [], aq_h m s F c_5)) rfl rfl ?_
  refine am_E.go (t2 := (90, [vR y, vI 4, vI 0, vI 0, vI 1, vI 1, vI 4], [vI 0], aq_h m s F c_5)) rfl rfl ?_
  refine am_E.go (t2 := (92, [vR y, vI 4, vI 0, vI 0, vI 1, vI 0, vI 4], [], aq_h m s F c_5)) rfl rfl ?_
  refine am_E.go (t2 := (94, [vR y, vI 4, vI 0, vI 0, vI 1, vI 0, vI 4], [vI 0], aq_h m s F c_5)) rfl rfl ?_
  refine am_E.go (t2 := (112, [vR y, vI 4, vI 0, vI 0, vI 1, vI 0, vI 4], [], aq_h m s F c_5)) rfl rfl ?_
  refine am_E.go (t2 := (45, [vR y, vI 4, vI 0, vI 0, vI 1, vI 0, vI 4], [], aq_h m s F c_5)) rfl rfl ?_
  refine am_E.go (t2 := (47, [vR y, vI 4, vI 0, vI 0, vI 1, vI 0, vI 4], [vI 0], aq_h m s F c_5)) rfl rfl ?_
  refine am_E.go (t2 := (115, [vR y, vI 4, vI 0, vI 0, vI 1, vI 0, vI 4], [], aq_h m s F c_5)) rfl rfl ?_
  refine am_E.go (t2 := (116, [vR y, vI 4, vI 0, vI 0, vI 1, vI 0, vI 4], [vR y], aq_h m s F c_5)) rfl rfl ?_
  refine aq_gf (v := vR (y + 13)) rfl (by omega) hFo (by decide) rfl ?_
  show am_E _ (119, [vR y, vI 4, vI 0, vI 0, vI 1, vI 0, vI 4], [vR (y + 13)], aq_h m s F c_5) _
  refine am_E.go (t2 := (120, [vR y, vI 4, vI 0, vI 0, vI 1, vI 0, vI 4], [vI 0, vR (y + 13)], aq_h m s F c_5)) rfl rfl ?_
  refine am_E.go (t2 := (121, [vR y, vI 4, vI 0, vI 0, vI 1, vI 0, vI 4], [vI 1, vI 0, vR (y + 13)], aq_h m s F c_5)) rfl rfl ?_
  refine aq_as (kd := 1) rfl rfl (by omega) hG13 (by omega) (by omega) rfl rfl ?_
  show am_E _ (122, [vR y, vI 4, vI 0, vI 0, vI 1, vI 0, vI 4], [], aq_h m s F (aq_u c_5 (y + 13) 0 1)) _
  generalize hdc_6 : aq_u c_5 (y + 13) 0 1 = c_6
  have sc_6 := aq_smu sc_5 hdc_6 rfl
  have mtc_6 := mt_0 mtc_5 hdc_6
  refine am_E.go (t2 := (124, [vR y, vI 4, vI 0, vI 0, vI 1, vI 0, vI 4], [vI 1], aq_h m s F c_6)) rfl rfl ?_
  refine am_E.go (t2 := (130, [vR y, vI 4, vI 0, vI 0, vI 1, vI 0, vI 4], [], aq_h m s F c_6)) rfl rfl ?_
  refine am_E.go (t2 := (133, [vR y, vI 4, vI 1, vI 0, vI 1, vI 0, vI 4], [], aq_h m s F c_6)) rfl rfl ?_
  refine am_E.go (t2 := (22, [vR y, vI 4, vI 1, vI 0, vI 1, vI 0, vI 4], [], aq_h m s F c_6)) rfl rfl ?_
  refine am_E.go (t2 := (23, [vR y, vI 4, vI 1, vI 0, vI 1, vI 0, vI 4], [vI 1], aq_h m s F c_6)) rfl rfl ?_
  refine am_E.go (t2 := (24, [vR y, vI 4, vI 1, vI 0, vI 1, vI 0, vI 4], [vI 4, vI 1], aq_h m s F c_6)) rfl rfl ?_
  refine am_E.go (t2 := (27, [vR y, vI 4, vI 1, vI 0, vI 1, vI 0, vI 4], [], aq_h m s F c_6)) rfl rfl ?_
  refine am_E.go (t2 := (28, [vR y, vI 4, vI 1, vI 0, vI 1, vI 0, vI 4], [vR y], aq_h m s F c_6)) rfl rfl ?_
  refine aq_gf (v := vR (y + 18)) rfl (by omega) hFo (by decide) rfl ?_
  show am_E _ (31, [vR y, vI 4, vI 1, vI 0, vI 1, vI 0, vI 4], [vR (y + 18)], aq_h m s F c_6) _
  refine am_E.go (t2 := (32, [vR y, vI 4, vI 1, vI 0, vI 1, vI 0, vI 4], [vI 1, vR (y + 18)], aq_h m s F c_6)) rfl rfl ?_
  refine aq_al (ok := fun k => k == 0) (v := vI (c_6 (y + 18) 1)) rfl rfl (by omega) hG18 rfl (by decide) (by decide) rfl ?_
  rw [sc_6 (y + 18) (by omega), hA1]
  show am_E _ (33, [vR y, vI 4, vI 1, vI 0, vI 1, vI 0, vI 4], [vI 4], aq_h m s F c_6) _
  refine am_E.go (t2 := (34, [vR y, vI 4, vI 1, vI 0, vI 1, vI 0, vI 4], [vI 4, vI 4], aq_h m s F c_6)) rfl rfl ?_
  refine am_E.go (t2 := (37, [vR y, vI 4, vI 1, vI 0, vI 1, vI 0, vI 4], [], aq_h m s F c_6)) rfl rfl ?_
  refine am_E.go (t2 := (38, [vR y, vI 4, vI 1, vI 0, vI 1, vI 0, vI 4], [vI 1], aq_h m s F c_6)) rfl rfl ?_
  refine am_E.go (t2 := (39, [vR y, vI 4, vI 1, vI 1, vI 1, vI 0, vI 4], [], aq_h m s F c_6)) rfl rfl ?_
  refine am_E.go (t2 := (40, [vR y, vI 4, vI 1, vI 1, vI 1, vI 0, vI 4], [vI 1], aq_h m s F c_6)) rfl rfl ?_
  refine am_E.go (t2 := (42, [vR y, vI 4, vI 1, vI 1, vI 1, vI 0, vI 4], [], aq_h m s F c_6)) rfl rfl ?_
  refine am_E.go (t2 := (43, [vR y, vI 4, vI 1, vI 1, vI 1, vI 0, vI 4], [vI 1], aq_h m s F c_6)) rfl rfl ?_
  refine am_E.go (t2 := (45, [vR y, vI 4, vI 1, vI 1, vI 1, vI 1, vI 4], [], aq_h m s F c_6)) rfl rfl ?_
  refine am_E.go (t2 := (47, [vR y, vI 4, vI 1, vI 1, vI 1, vI 1, vI 4], [vI 1], aq_h m s F c_6)) rfl rfl ?_
  refine am_E.go (t2 := (50, [vR y, vI 4, vI 1, vI 1, vI 1, vI 1, vI 4], [], aq_h m s F c_6)) rfl rfl ?_
  refine am_E.go (t2 := (51, [vR y, vI 4, vI 1, vI 1, vI 1, vI 1, vI 4], [vR y], aq_h m s F c_6)) rfl rfl ?_
  refine aq_gf (v := vR (y + 13)) rfl (by omega) hFo (by decide) rfl ?_
  show am_E _ (54, [vR y, vI 4, vI 1, vI 1, vI 1, vI 1, vI 4], [vR (y + 13)], aq_h m s F c_6) _
  refine am_E.go (t2 := (55, [vR y, vI 4, vI 1, vI 1, vI 1, vI 1, vI 4], [vI 1, vR (y + 13)], aq_h m s F c_6)) rfl rfl ?_
  refine am_E.go (t2 := (56, [vR y, vI 4, vI 1, vI 1, vI 1, vI 1, vI 4], [vI 1, vI 1, vR (y + 13)], aq_h m s F c_6)) rfl rfl ?_
  refine aq_as (kd := 1) rfl rfl (by omega) hG13 (by omega) (by omega) rfl rfl ?_
  show am_E _ (57, [vR y, vI 4, vI 1, vI 1, vI 1, vI 1, vI 4], [], aq_h m s F (aq_u c_6 (y + 13) 1 1)) _
  generalize hdc_7 : aq_u c_6 (y + 13) 1 1 = c_7
  have sc_7 := aq_smu sc_6 hdc_7 rfl
  have mtc_7 := mt_1 mtc_6 hdc_7
  refine am_E.go (t2 := (59, [vR y, vI 4, vI 1, vI 1, vI 1, vI 1, vI 4], [vI 1], aq_h m s F c_7)) rfl rfl ?_
  refine am_E.go (t2 := (62, [vR y, vI 4, vI 1, vI 1, vI 1, vI 1, vI 4], [], aq_h m s F c_7)) rfl rfl ?_
  refine am_E.go (t2 := (63, [vR y, vI 4, vI 1, vI 1, vI 1, vI 1, vI 4], [vR y], aq_h m s F c_7)) rfl rfl ?_
  refine aq_gf (v := vR (y + 19)) rfl (by omega) hFo (by decide) rfl ?_
  show am_E _ (66, [vR y, vI 4, vI 1, vI 1, vI 1, vI 1, vI 4], [vR (y + 19)], aq_h m s F c_7) _
  refine am_E.go (t2 := (67, [vR y, vI 4, vI 1, vI 1, vI 1, vI 1, vI 4], [vI 1, vR (y + 19)], aq_h m s F c_7)) rfl rfl ?_
  refine aq_al (ok := fun k => k == 0) (v := vI (c_7 (y + 19) 1)) rfl rfl (by omega) hG19 rfl (by decide) (by decide) rfl ?_
  rw [sc_7 (y + 19) (by omega), hB1]
  show am_E _ (68, [vR y, vI 4, vI 1, vI 1, vI 1, vI 1, vI 4], [vI 4], aq_h m s F c_7) _
  refine am_E.go (t2 := (77, [vR y, vI 4, vI 1, vI 1, vI 1, vI 1, vI 4], [vI 4], aq_h m s F c_7)) rfl rfl ?_
  refine am_E.go (t2 := (79, [vR y, vI 4, vI 1, vI 1, vI 1, vI 1, vI 4], [], aq_h m s F c_7)) rfl rfl ?_
  refine am_E.go (t2 := (81, [vR y, vI 4, vI 1, vI 1, vI 1, vI 1, vI 4], [vI 4], aq_h m s F c_7)) rfl rfl ?_
  refine am_E.go (t2 := (82, [vR y, vI 4, vI 1, vI 1, vI 1, vI 1, vI 4], [vI 4, vI 4], aq_h m s F c_7)) rfl rfl ?_
  refine am_E.go (t2 := (89, [vR y, vI 4, vI 1, vI 1, vI 1, vI 1, vI 4], [], aq_h m s F c_7)) rfl rfl ?_
  refine am_E.go (t2 := (90, [vR y, vI 4, vI 1, vI 1, vI 1, vI 1, vI 4], [vI 0], aq_h m s F c_7)) rfl rfl ?_
  refine am_E.go (t2 := (92, [vR y, vI 4, vI 1, vI 1, vI 1, vI 0, vI 4], [], aq_h m s F c_7)) rfl rfl ?_
  refine am_E.go (t2 := (94, [vR y, vI 4, vI 1, vI 1, vI 1, vI 0, vI 4], [vI 0], aq_h m s F c_7)) rfl rfl ?_
  refine am_E.go (t2 := (112, [vR y, vI 4, vI 1, vI 1, vI 1, vI 0, vI 4], [], aq_h m s F c_7)) rfl rfl ?_
  refine am_E.go (t2 := (45, [vR y, vI 4, vI 1, vI 1, vI 1, vI 0, vI 4], [], aq_h m s F c_7)) rfl rfl ?_
  refine am_E.go (t2 := (47, [vR y, vI 4, vI 1, vI 1, vI 1, vI 0, vI 4], [vI 0], aq_h m s F c_7)) rfl rfl ?_
  refine am_E.go (t2 := (115, [vR y, vI 4, vI 1, vI 1, vI 1, vI 0, vI 4], [], aq_h m s F c_7)) rfl rfl ?_
  refine am_E.go (t2 := (116, [vR y, vI 4, vI 1, vI 1, vI 1, vI 0, vI 4], [vR y], aq_h m s F c_7)) rfl rfl ?_
  refine aq_gf (v := vR (y + 13)) rfl (by omega) hFo (by decide) rfl ?_
  show am_E _ (119, [vR y, vI 4, vI 1, vI 1, vI 1, vI 0, vI 4], [vR (y + 13)], aq_h m s F c_7) _
  refine am_E.go (t2 := (120, [vR y, vI 4, vI 1, vI 1, vI 1, vI 0, vI 4], [vI 1, vR (y + 13)], aq_h m s F c_7)) rfl rfl ?_
  refine am_E.go (t2 := (121, [vR y, vI 4, vI 1, vI 1, vI 1, vI 0, vI 4], [vI 1, vI 1, vR (y + 13)], aq_h m s F c_7)) rfl rfl ?_
  refine aq_as (kd := 1) rfl rfl (by omega) hG13 (by omega) (by omega) rfl rfl ?_
  show am_E _ (122, [vR y, vI 4, vI 1, vI 1, vI 1, vI 0, vI 4], [], aq_h m s F (aq_u c_7 (y + 13) 1 1)) _
  generalize hdc_8 : aq_u c_7 (y + 13) 1 1 = c_8
  have sc_8 := aq_smu sc_7 hdc_8 rfl
  have mtc_8 := mt_1 mtc_7 hdc_8
  refine am_E.go (t2 := (124, [vR y, vI 4, vI 1, vI 1, vI 1, vI 0, vI 4], [vI 1], aq_h m s F c_8)) rfl rfl ?_
  refine am_E.go (t2 := (130, [vR y, vI 4, vI 1, vI 1, vI 1, vI 0, vI 4], [], aq_h m s F c_8)) rfl rfl ?_
  refine am_E.go (t2 := (133, [vR y, vI 4, vI 2, vI 1, vI 1, vI 0, vI 4], [], aq_h m s F c_8)) rfl rfl ?_
  refine am_E.go (t2 := (22, [vR y, vI 4, vI 2, vI 1, vI 1, vI 0, vI 4], [], aq_h m s F c_8)) rfl rfl ?_
  refine am_E.go (t2 := (23, [vR y, vI 4, vI 2, vI 1, vI 1, vI 0, vI 4], [vI 2], aq_h m s F c_8)) rfl rfl ?_
  refine am_E.go (t2 := (24, [vR y, vI 4, vI 2, vI 1, vI 1, vI 0, vI 4], [vI 4, vI 2], aq_h m s F c_8)) rfl rfl ?_
  refine am_E.go (t2 := (27, [vR y, vI 4, vI 2, vI 1, vI 1, vI 0, vI 4], [], aq_h m s F c_8)) rfl rfl ?_
  refine am_E.go (t2 := (28, [vR y, vI 4, vI 2, vI 1, vI 1, vI 0, vI 4], [vR y], aq_h m s F c_8)) rfl rfl ?_
  refine aq_gf (v := vR (y + 18)) rfl (by omega) hFo (by decide) rfl ?_
  show am_E _ (31, [vR y, vI 4, vI 2, vI 1, vI 1, vI 0, vI 4], [vR (y + 18)], aq_h m s F c_8) _
  refine am_E.go (t2 := (32, [vR y, vI 4, vI 2, vI 1, vI 1, vI 0, vI 4], [vI 2, vR (y + 18)], aq_h m s F c_8)) rfl rfl ?_
  refine aq_al (ok := fun k => k == 0) (v := vI (c_8 (y + 18) 2)) rfl rfl (by omega) hG18 rfl (by decide) (by decide) rfl ?_
  rw [sc_8 (y + 18) (by omega), hA2]
  show am_E _ (33, [vR y, vI 4, vI 2, vI 1, vI 1, vI 0, vI 4], [vI 4], aq_h m s F c_8) _
  refine am_E.go (t2 := (34, [vR y, vI 4, vI 2, vI 1, vI 1, vI 0, vI 4], [vI 4, vI 4], aq_h m s F c_8)) rfl rfl ?_
  refine am_E.go (t2 := (37, [vR y, vI 4, vI 2, vI 1, vI 1, vI 0, vI 4], [], aq_h m s F c_8)) rfl rfl ?_
  refine am_E.go (t2 := (38, [vR y, vI 4, vI 2, vI 1, vI 1, vI 0, vI 4], [vI 2], aq_h m s F c_8)) rfl rfl ?_
  refine am_E.go (t2 := (39, [vR y, vI 4, vI 2, vI 2, vI 1, vI 0, vI 4], [], aq_h m s F c_8)) rfl rfl ?_
  refine am_E.go (t2 := (40, [vR y, vI 4, vI 2, vI 2, vI 1, vI 0, vI 4], [vI 1], aq_h m s F c_8)) rfl rfl ?_
  refine am_E.go (t2 := (42, [vR y, vI 4, vI 2, vI 2, vI 1, vI 0, vI 4], [], aq_h m s F c_8)) rfl rfl ?_
  refine am_E.go (t2 := (43, [vR y, vI 4, vI 2, vI 2, vI 1, vI 0, vI 4], [vI 1], aq_h m s F c_8)) rfl rfl ?_
  refine am_E.go (t2 := (45, [vR y, vI 4, vI 2, vI 2, vI 1, vI 1, vI 4], [], aq_h m s F c_8)) rfl rfl ?_
  refine am_E.go (t2 := (47, [vR y, vI 4, vI 2, vI 2, vI 1, vI 1, vI 4], [vI 1], aq_h m s F c_8)) rfl rfl ?_
  refine am_E.go (t2 := (50, [vR y, vI 4, vI 2, vI 2, vI 1, vI 1, vI 4], [], aq_h m s F c_8)) rfl rfl ?_
  refine am_E.go (t2 := (51, [vR y, vI 4, vI 2, vI 2, vI 1, vI 1, vI 4], [vR y], aq_h m s F c_8)) rfl rfl ?_
  refine aq_gf (v := vR (y + 13)) rfl (by omega) hFo (by decide) rfl ?_
  show am_E _ (54, [vR y, vI 4, vI 2, vI 2, vI 1, vI 1, vI 4], [vR (y + 13)], aq_h m s F c_8) _
  refine am_E.go (t2 := (55, [vR y, vI 4, vI 2, vI 2, vI 1, vI 1, vI 4], [vI 2, vR (y + 13)], aq_h m s F c_8)) rfl rfl ?_
  refine am_E.go (t2 := (56, [vR y, vI 4, vI 2, vI 2, vI 1, vI 1, vI 4], [vI 1, vI 2, vR (y + 13)], aq_h m s F c_8)) rfl rfl ?_
  refine aq_as (kd := 1) rfl rfl (by omega) hG13 (by omega) (by omega) rfl rfl ?_
  show am_E _ (57, [vR y, vI 4, vI 2, vI 2, vI 1, vI 1, vI 4], [], aq_h m s F (aq_u c_8 (y + 13) 2 1)) _
  generalize hdc_9 : aq_u c_8 (y + 13) 2 1 = c_9
  have sc_9 := aq_smu sc_8 hdc_9 rfl
  have mtc_9 := mt_2 mtc_8 hdc_9
  refine am_E.go (t2 := (59, [vR y, vI 4, vI 2, vI 2, vI 1, vI 1, vI 4], [vI 1], aq_h m s F c_9)) rfl rfl ?_
  refine am_E.go (t2 := (62, [vR y, vI 4, vI 2, vI 2, vI 1, vI 1, vI 4], [], aq_h m s F c_9)) rfl rfl ?_
  refine am_E.go (t2 := (63, [vR y, vI 4, vI 2, vI 2, vI 1, vI 1, vI 4], [vR y], aq_h m s F c_9)) rfl rfl ?_
  refine aq_gf (v := vR (y + 19)) rfl (by omega) hFo (by decide) rfl ?_
  show am_E _ (66, [vR y, vI 4, vI 2, vI 2, vI 1, vI 1, vI 4], [vR (y + 19)], aq_h m s F c_9) _
  refine am_E.go (t2 := (67, [vR y, vI 4, vI 2, vI 2, vI 1, vI 1, vI 4], [vI 2, vR (y + 19)], aq_h m s F c_9)) rfl rfl ?_
  refine aq_al (ok := fun k => k == 0) (v := vI (c_9 (y + 19) 2)) rfl rfl (by omega) hG19 rfl (by decide) (by decide) rfl ?_
  rw [sc_9 (y + 19) (by omega), hB2]
  show am_E _ (68, [vR y, vI 4, vI 2, vI 2, vI 1, vI 1, vI 4], [vI 4], aq_h m s F c_9) _
  refine am_E.go (t2 := (77, [vR y, vI 4, vI 2, vI 2, vI 1, vI 1, vI 4], [vI 4], aq_h m s F c_9)) rfl rfl ?_
  refine am_E.go (t2 := (79, [vR y, vI 4, vI 2, vI 2, vI 1, vI 1, vI 4], [], aq_h m s F c_9)) rfl rfl ?_
  refine am_E.go (t2 := (81, [vR y, vI 4, vI 2, vI 2, vI 1, vI 1, vI 4], [vI 4], aq_h m s F c_9)) rfl rfl ?_
  refine am_E.go (t2 := (82, [vR y, vI 4, vI 2, vI 2, vI 1, vI 1, vI 4], [vI 4, vI 4], aq_h m s F c_9)) rfl rfl ?_
  refine am_E.go (t2 := (89, [vR y, vI 4, vI 2, vI 2, vI 1, vI 1, vI 4], [], aq_h m s F c_9)) rfl rfl ?_
  refine am_E.go (t2 := (90, [vR y, vI 4, vI 2, vI 2, vI 1, vI 1, vI 4], [vI 0], aq_h m s F c_9)) rfl rfl ?_
  refine am_E.go (t2 := (92, [vR y, vI 4, vI 2, vI 2, vI 1, vI 0, vI 4], [], aq_h m s F c_9)) rfl rfl ?_
  refine am_E.go (t2 := (94, [vR y, vI 4, vI 2, vI 2, vI 1, vI 0, vI 4], [vI 0], aq_h m s F c_9)) rfl rfl ?_
  refine am_E.go (t2 := (112, [vR y, vI 4, vI 2, vI 2, vI 1, vI 0, vI 4], [], aq_h m s F c_9)) rfl rfl ?_
  refine am_E.go (t2 := (45, [vR y, vI 4, vI 2, vI 2, vI 1, vI 0, vI 4], [], aq_h m s F c_9)) rfl rfl ?_
  refine am_E.go (t2 := (47, [vR y, vI 4, vI 2, vI 2, vI 1, vI 0, vI 4], [vI 0], aq_h m s F c_9)) rfl rfl ?_
  refine am_E.go (t2 := (115, [vR y, vI 4, vI 2, vI 2, vI 1, vI 0, vI 4], [], aq_h m s F c_9)) rfl rfl ?_
  refine am_E.go (t2 := (116, [vR y, vI 4, vI 2, vI 2, vI 1, vI 0, vI 4], [vR y], aq_h m s F c_9)) rfl rfl ?_
  refine aq_gf (v := vR (y + 13)) rfl (by omega) hFo (by decide) rfl ?_
  show am_E _ (119, [vR y, vI 4, vI 2, vI 2, vI 1, vI 0, vI 4], [vR (y + 13)], aq_h m s F c_9) _
  refine am_E.go (t2 := (120, [vR y, vI 4, vI 2, vI 2, vI 1, vI 0, vI 4], [vI 2, vR (y + 13)], aq_h m s F c_9)) rfl rfl ?_
  refine am_E.go (t2 := (121, [vR y, vI 4, vI 2, vI 2, vI 1, vI 0, vI 4], [vI 1, vI 2, vR (y + 13)], aq_h m s F c_9)) rfl rfl ?_
  refine aq_as (kd := 1) rfl rfl (by omega) hG13 (by omega) (by omega) rfl rfl ?_
  show am_E _ (122, [vR y, vI 4, vI 2, vI 2, vI 1, vI 0, vI 4], [], aq_h m s F (aq_u c_9 (y + 13) 2 1)) _
  generalize hdc_10 : aq_u c_9 (y + 13) 2 1 = c_10
  have sc_10 := aq_smu sc_9 hdc_10 rfl
  have mtc_10 := mt_2 mtc_9 hdc_10
  refine am_E.go (t2 := (124, [vR y, vI 4, vI 2, vI 2, vI 1, vI 0, vI 4], [vI 1], aq_h m s F c_10)) rfl rfl ?_
  refine am_E.go (t2 := (130, [vR y, vI 4, vI 2, vI 2, vI 1, vI 0, vI 4], [], aq_h m s F c_10)) rfl rfl ?_
  refine am_E.go (t2 := (133, [vR y, vI 4, vI 3, vI 2, vI 1, vI 0, vI 4], [], aq_h m s F c_10)) rfl rfl ?_
  refine am_E.go (t2 := (22, [vR y, vI 4, vI 3, vI 2, vI 1, vI 0, vI 4], [], aq_h m s F c_10)) rfl rfl ?_
  refine am_E.go (t2 := (23, [vR y, vI 4, vI 3, vI 2, vI 1, vI 0, vI 4], [vI 3], aq_h m s F c_10)) rfl rfl ?_
  refine am_E.go (t2 := (24, [vR y, vI 4, vI 3, vI 2, vI 1, vI 0, vI 4], [vI 4, vI 3], aq_h m s F c_10)) rfl rfl ?_
  refine am_E.go (t2 := (27, [vR y, vI 4, vI 3, vI 2, vI 1, vI 0, vI 4], [], aq_h m s F c_10)) rfl rfl ?_
  refine am_E.go (t2 := (28, [vR y, vI 4, vI 3, vI 2, vI 1, vI 0, vI 4], [vR y], aq_h m s F c_10)) rfl rfl ?_
  refine aq_gf (v := vR (y + 18)) rfl (by omega) hFo (by decide) rfl ?_
  show am_E _ (31, [vR y, vI 4, vI 3, vI 2, vI 1, vI 0, vI 4], [vR (y + 18)], aq_h m s F c_10) _
  refine am_E.go (t2 := (32, [vR y, vI 4, vI 3, vI 2, vI 1, vI 0, vI 4], [vI 3, vR (y + 18)], aq_h m s F c_10)) rfl rfl ?_
  refine aq_al (ok := fun k => k == 0) (v := vI (c_10 (y + 18) 3)) rfl rfl (by omega) hG18 rfl (by decide) (by decide) rfl ?_
  rw [sc_10 (y + 18) (by omega), hA3]
  show am_E _ (33, [vR y, vI 4, vI 3, vI 2, vI 1, vI 0, vI 4], [vI 4], aq_h m s F c_10) _
  refine am_E.go (t2 := (34, [vR y, vI 4, vI 3, vI 2, vI 1, vI 0, vI 4], [vI 4, vI 4], aq_h m s F c_10)) rfl rfl ?_
  refine am_E.go (t2 := (37, [vR y, vI 4, vI 3, vI 2, vI 1, vI 0, vI 4], [], aq_h m s F c_10)) rfl rfl ?_
  refine am_E.go (t2 := (38, [vR y, vI 4, vI 3, vI 2, vI 1, vI 0, vI 4], [vI 3], aq_h m s F c_10)) rfl rfl ?_
  refine am_E.go (t2 := (39, [vR y, vI 4, vI 3, vI 3, vI 1, vI 0, vI 4], [], aq_h m s F c_10)) rfl rfl ?_
  refine am_E.go (t2 := (40, [vR y, vI 4, vI 3, vI 3, vI 1, vI 0, vI 4], [vI 1], aq_h m s F c_10)) rfl rfl ?_
  refine am_E.go (t2 := (42, [vR y, vI 4, vI 3, vI 3, vI 1, vI 0, vI 4], [], aq_h m s F c_10)) rfl rfl ?_
  refine am_E.go (t2 := (43, [vR y, vI 4, vI 3, vI 3, vI 1, vI 0, vI 4], [vI 1], aq_h m s F c_10)) rfl rfl ?_
  refine am_E.go (t2 := (45, [vR y, vI 4, vI 3, vI 3, vI 1, vI 1, vI 4], [], aq_h m s F c_10)) rfl rfl ?_
  refine am_E.go (t2 := (47, [vR y, vI 4, vI 3, vI 3, vI 1, vI 1, vI 4], [vI 1], aq_h m s F c_10)) rfl rfl ?_
  refine am_E.go (t2 := (50, [vR y, vI 4, vI 3, vI 3, vI 1, vI 1, vI 4], [], aq_h m s F c_10)) rfl rfl ?_
  refine am_E.go (t2 := (51, [vR y, vI 4, vI 3, vI 3, vI 1, vI 1, vI 4], [vR y], aq_h m s F c_10)) rfl rfl ?_
  refine aq_gf (v := vR (y + 13)) rfl (by omega) hFo (by decide) rfl ?_
  show am_E _ (54, [vR y, vI 4, vI 3, vI 3, vI 1, vI 1, vI 4], [vR (y + 13)], aq_h m s F c_10) _
  refine am_E.go (t2 := (55, [vR y, vI 4, vI 3, vI 3, vI 1, vI 1, vI 4], [vI 3, vR (y + 13)], aq_h m s F c_10)) rfl rfl ?_
  refine am_E.go (t2 := (56, [vR y, vI 4, vI 3, vI 3, vI 1, vI 1, vI 4], [vI 1, vI 3, vR (y + 13)], aq_h m s F c_10)) rfl rfl ?_
  refine aq_as (kd := 1) rfl rfl (by omega) hG13 (by omega) (by omega) rfl rfl ?_
  show am_E _ (57, [vR y, vI 4, vI 3, vI 3, vI 1, vI 1, vI 4], [], aq_h m s F (aq_u c_10 (y + 13) 3 1)) _
  generalize hdc_11 : aq_u c_10 (y + 13) 3 1 = c_11
  have sc_11 := aq_smu sc_10 hdc_11 rfl
  have mtc_11 := mt_3 mtc_10 hdc_11
  refine am_E.go (t2 := (59, [vR y, vI 4, vI 3, vI 3, vI 1, vI 1, vI 4], [vI 1], aq_h m s F c_11)) rfl rfl ?_
  refine am_E.go (t2 := (62, [vR y, vI 4, vI 3, vI 3, vI 1, vI 1, vI 4], [], aq_h m s F c_11)) rfl rfl ?_
  refine am_E.go (t2 := (63, [vR y, vI 4, vI 3, vI 3, vI 1, vI 1, vI 4], [vR y], aq_h m s F c_11)) rfl rfl ?_
  refine aq_gf (v := vR (y + 19)) rfl (by omega) hFo (by decide) rfl ?_
  show am_E _ (66, [vR y, vI 4, vI 3, vI 3, vI 1, vI 1, vI 4], [vR (y + 19)], aq_h m s F c_11) _
  refine am_E.go (t2 := (67, [vR y, vI 4, vI 3, vI 3, vI 1, vI 1, vI 4], [vI 3, vR (y + 19)], aq_h m s F c_11)) rfl rfl ?_
  refine aq_al (ok := fun k => k == 0) (v := vI (c_11 (y + 19) 3)) rfl rfl (by omega) hG19 rfl (by decide) (by decide) rfl ?_
  rw [sc_11 (y + 19) (by omega), hB3]
  show am_E _ (68, [vR y, vI 4, vI 3, vI 3, vI 1, vI 1, vI 4], [vI 4], aq_h m s F c_11) _
  refine am_E.go (t2 := (77, [vR y, vI 4, vI 3, vI 3, vI 1, vI 1, vI 4], [vI 4], aq_h m s F c_11)) rfl rfl ?_
  refine am_E.go (t2 := (79, [vR y, vI 4, vI 3, vI 3, vI 1, vI 1, vI 4], [], aq_h m s F c_11)) rfl rfl ?_
  refine am_E.go (t2 := (81, [vR y, vI 4, vI 3, vI 3, vI 1, vI 1, vI 4], [vI 4], aq_h m s F c_11)) rfl rfl ?_
  refine am_E.go (t2 := (82, [vR y, vI 4, vI 3, vI 3, vI 1, vI 1, vI 4], [vI 4, vI 4], aq_h m s F c_11)) rfl rfl ?_
  refine am_E.go (t2 := (89, [vR y, vI 4, vI 3, vI 3, vI 1, vI 1, vI 4], [], aq_h m s F c_11)) rfl rfl ?_
  refine am_E.go (t2 := (90, [vR y, vI 4, vI 3, vI 3, vI 1, vI 1, vI 4], [vI 0], aq_h m s F c_11)) rfl rfl ?_
  refine am_E.go (t2 := (92, [vR y, vI 4, vI 3, vI 3, vI 1, vI 0, vI 4], [], aq_h m s F c_11)) rfl rfl ?_
  refine am_E.go (t2 := (94, [vR y, vI 4, vI 3, vI 3, vI 1, vI 0, vI 4], [vI 0], aq_h m s F c_11)) rfl rfl ?_
  refine am_E.go (t2 := (112, [vR y, vI 4, vI 3, vI 3, vI 1, vI 0, vI 4], [], aq_h m s F c_11)) rfl rfl ?_
  refine am_E.go (t2 := (45, [vR y, vI 4, vI 3, vI 3, vI 1, vI 0, vI 4], [], aq_h m s F c_11)) rfl rfl ?_
  refine am_E.go (t2 := (47, [vR y, vI 4, vI 3, vI 3, vI 1, vI 0, vI 4], [vI 0], aq_h m s F c_11)) rfl rfl ?_
  refine am_E.go (t2 := (115, [vR y, vI 4, vI 3, vI 3, vI 1, vI 0, vI 4], [], aq_h m s F c_11)) rfl rfl ?_
  refine am_E.go (t2 := (116, [vR y, vI 4, vI 3, vI 3, vI 1, vI 0, vI 4], [vR y], aq_h m s F c_11)) rfl rfl ?_
  refine aq_gf (v := vR (y + 13)) rfl (by omega) hFo (by decide) rfl ?_
  show am_E _ (119, [vR y, vI 4, vI 3, vI 3, vI 1, vI 0, vI 4], [vR (y + 13)], aq_h m s F c_11) _
  refine am_E.go (t2 := (120, [vR y, vI 4, vI 3, vI 3, vI 1, vI 0, vI 4], [vI 3, vR (y + 13)], aq_h m s F c_11)) rfl rfl ?_
  refine am_E.go (t2 := (121, [vR y, vI 4, vI 3, vI 3, vI 1, vI 0, vI 4], [vI 1, vI 3, vR (y + 13)], aq_h m s F c_11)) rfl rfl ?_
  refine aq_as (kd := 1) rfl rfl (by omega) hG13 (by omega) (by omega) rfl rfl ?_
  show am_E _ (122, [vR y, vI 4, vI 3, vI 3, vI 1, vI 0, vI 4], [], aq_h m s F (aq_u c_11 (y + 13) 3 1)) _
  generalize hdc_12 : aq_u c_11 (y + 13) 3 1 = c_12
  have sc_12 := aq_smu sc_11 hdc_12 rfl
  have mtc_12 := mt_3 mtc_11 hdc_12
  refine am_E.go (t2 := (124, [vR y, vI 4, vI 3, vI 3, vI 1, vI 0, vI 4], [vI 1], aq_h m s F c_12)) rfl rfl ?_
  refine am_E.go (t2 := (130, [vR y, vI 4, vI 3, vI 3, vI 1, vI 0, vI 4], [], aq_h m s F c_12)) rfl rfl ?_
  refine am_E.go (t2 := (133, [vR y, vI 4, vI 4, vI 3, vI 1, vI 0, vI 4], [], aq_h m s F c_12)) rfl rfl ?_
  refine am_E.go (t2 := (22, [vR y, vI 4, vI 4, vI 3, vI 1, vI 0, vI 4], [], aq_h m s F c_12)) rfl rfl ?_
  refine am_E.go (t2 := (23, [vR y, vI 4, vI 4, vI 3, vI 1, vI 0, vI 4], [vI 4], aq_h m s F c_12)) rfl rfl ?_
  refine am_E.go (t2 := (24, [vR y, vI 4, vI 4, vI 3, vI 1, vI 0, vI 4], [vI 4, vI 4], aq_h m s F c_12)) rfl rfl ?_
  refine am_E.go (t2 := (136, [vR y, vI 4, vI 4, vI 3, vI 1, vI 0, vI 4], [], aq_h m s F c_12)) rfl rfl ?_
  refine am_E.go (t2 := (137, [vR y, vI 4, vI 4, vI 3, vI 1, vI 0, vI 4], [vI 0], aq_h m s F c_12)) rfl rfl ?_
  refine am_E.go (t2 := (138, [vR y, vI 4, vI 0, vI 3, vI 1, vI 0, vI 4], [], aq_h m s F c_12)) rfl rfl ?_
  refine am_E.go (t2 := (139, [vR y, vI 4, vI 0, vI 3, vI 1, vI 0, vI 4], [vI 0], aq_h m s F c_12)) rfl rfl ?_
  refine am_E.go (t2 := (140, [vR y, vI 4, vI 0, vI 3, vI 1, vI 0, vI 4], [vI 4, vI 0], aq_h m s F c_12)) rfl rfl ?_
  refine am_E.go (t2 := (143, [vR y, vI 4, vI 0, vI 3, vI 1, vI 0, vI 4], [], aq_h m s F c_12)) rfl rfl ?_
  refine am_E.go (t2 := (144, [vR y, vI 4, vI 0, vI 3, vI 1, vI 0, vI 4], [vR y], aq_h m s F c_12)) rfl rfl ?_
  refine aq_gf (v := vR (y + 13)) rfl (by omega) hFo (by decide) rfl ?_
  show am_E _ (147, [vR y, vI 4, vI 0, vI 3, vI 1, vI 0, vI 4], [vR (y + 13)], aq_h m s F c_12) _
  refine am_E.go (t2 := (148, [vR y, vI 4, vI 0, vI 3, vI 1, vI 0, vI 4], [vI 0, vR (y + 13)], aq_h m s F c_12)) rfl rfl ?_
  refine aq_al (ok := fun k => k == 1) (v := vI (c_12 (y + 13) 0)) rfl rfl (by omega) hG13 rfl (by decide) (by decide) rfl ?_
  rw [mtc_12.1]
  show am_E _ (149, [vR y, vI 4, vI 0, vI 3, vI 1, vI 0, vI 4], [vI 1], aq_h m s F c_12) _
  refine am_E.go (t2 := (165, [vR y, vI 4, vI 0, vI 3, vI 1, vI 0, vI 4], [], aq_h m s F c_12)) rfl rfl ?_
  refine am_E.go (t2 := (168, [vR y, vI 4, vI 1, vI 3, vI 1, vI 0, vI 4], [], aq_h m s F c_12)) rfl rfl ?_
  refine am_E.go (t2 := (138, [vR y, vI 4, vI 1, vI 3, vI 1, vI 0, vI 4], [], aq_h m s F c_12)) rfl rfl ?_
  refine am_E.go (t2 := (139, [vR y, vI 4, vI 1, vI 3, vI 1, vI 0, vI 4], [vI 1], aq_h m s F c_12)) rfl rfl ?_
  refine am_E.go (t2 := (140, [vR y, vI 4, vI 1, vI 3, vI 1, vI 0, vI 4], [vI 4, vI 1], aq_h m s F c_12)) rfl rfl ?_
  refine am_E.go (t2 := (143, [vR y, vI 4, vI 1, vI 3, vI 1, vI 0, vI 4], [], aq_h m s F c_12)) rfl rfl ?_
  refine am_E.go (t2 := (144, [vR y, vI 4, vI 1, vI 3, vI 1, vI 0, vI 4], [vR y], aq_h m s F c_12)) rfl rfl ?_
  refine aq_gf (v := vR (y + 13)) rfl (by omega) hFo (by decide) rfl ?_
  show am_E _ (147, [vR y, vI 4, vI 1, vI 3, vI 1, vI 0, vI 4], [vR (y + 13)], aq_h m s F c_12) _
  refine am_E.go (t2 := (148, [vR y, vI 4, vI 1, vI 3, vI 1, vI 0, vI 4], [vI 1, vR (y + 13)], aq_h m s F c_12)) rfl rfl ?_
  refine aq_al (ok := fun k => k == 1) (v := vI (c_12 (y + 13) 1)) rfl rfl (by omega) hG13 rfl (by decide) (by decide) rfl ?_
  rw [mtc_12.2.1]
  show am_E _ (149, [vR y, vI 4, vI 1, vI 3, vI 1, vI 0, vI 4], [vI 1], aq_h m s F c_12) _
  refine am_E.go (t2 := (165, [vR y, vI 4, vI 1, vI 3, vI 1, vI 0, vI 4], [], aq_h m s F c_12)) rfl rfl ?_
  refine am_E.go (t2 := (168, [vR y, vI 4, vI 2, vI 3, vI 1, vI 0, vI 4], [], aq_h m s F c_12)) rfl rfl ?_
  refine am_E.go (t2 := (138, [vR y, vI 4, vI 2, vI 3, vI 1, vI 0, vI 4], [], aq_h m s F c_12)) rfl rfl ?_
  refine am_E.go (t2 := (139, [vR y, vI 4, vI 2, vI 3, vI 1, vI 0, vI 4], [vI 2], aq_h m s F c_12)) rfl rfl ?_
  refine am_E.go (t2 := (140, [vR y, vI 4, vI 2, vI 3, vI 1, vI 0, vI 4], [vI 4, vI 2], aq_h m s F c_12)) rfl rfl ?_
  refine am_E.go (t2 := (143, [vR y, vI 4, vI 2, vI 3, vI 1, vI 0, vI 4], [], aq_h m s F c_12)) rfl rfl ?_
  refine am_E.go (t2 := (144, [vR y, vI 4, vI 2, vI 3, vI 1, vI 0, vI 4], [vR y], aq_h m s F c_12)) rfl rfl ?_
  refine aq_gf (v := vR (y + 13)) rfl (by omega) hFo (by decide) rfl ?_
  show am_E _ (147, [vR y, vI 4, vI 2, vI 3, vI 1, vI 0, vI 4], [vR (y + 13)], aq_h m s F c_12) _
  refine am_E.go (t2 := (148, [vR y, vI 4, vI 2, vI 3, vI 1, vI 0, vI 4], [vI 2, vR (y + 13)], aq_h m s F c_12)) rfl rfl ?_
  refine aq_al (ok := fun k => k == 1) (v := vI (c_12 (y + 13) 2)) rfl rfl (by omega) hG13 rfl (by decide) (by decide) rfl ?_
  rw [mtc_12.2.2.1]
  show am_E _ (149, [vR y, vI 4, vI 2, vI 3, vI 1, vI 0, vI 4], [vI 1], aq_h m s F c_12) _
  refine am_E.go (t2 := (165, [vR y, vI 4, vI 2, vI 3, vI 1, vI 0, vI 4], [], aq_h m s F c_12)) rfl rfl ?_
  refine am_E.go (t2 := (168, [vR y, vI 4, vI 3, vI 3, vI 1, vI 0, vI 4], [], aq_h m s F c_12)) rfl rfl ?_
  refine am_E.go (t2 := (138, [vR y, vI 4, vI 3, vI 3, vI 1, vI 0, vI 4], [], aq_h m s F c_12)) rfl rfl ?_
  refine am_E.go (t2 := (139, [vR y, vI 4, vI 3, vI 3, vI 1, vI 0, vI 4], [vI 3], aq_h m s F c_12)) rfl rfl ?_
  refine am_E.go (t2 := (140, [vR y, vI 4, vI 3, vI 3, vI 1, vI 0, vI 4], [vI 4, vI 3], aq_h m s F c_12)) rfl rfl ?_
  refine am_E.go (t2 := (143, [vR y, vI 4, vI 3, vI 3, vI 1, vI 0, vI 4], [], aq_h m s F c_12)) rfl rfl ?_
  refine am_E.go (t2 := (144, [vR y, vI 4, vI 3, vI 3, vI 1, vI 0, vI 4], [vR y], aq_h m s F c_12)) rfl rfl ?_
  refine aq_gf (v := vR (y + 13)) rfl (by omega) hFo (by decide) rfl ?_
  show am_E _ (147, [vR y, vI 4, vI 3, vI 3, vI 1, vI 0, vI 4], [vR (y + 13)], aq_h m s F c_12) _
  refine am_E.go (t2 := (148, [vR y, vI 4, vI 3, vI 3, vI 1, vI 0, vI 4], [vI 3, vR (y + 13)], aq_h m s F c_12)) rfl rfl ?_
  refine aq_al (ok := fun k => k == 1) (v := vI (c_12 (y + 13) 3)) rfl rfl (by omega) hG13 rfl (by decide) (by decide) rfl ?_
  rw [mtc_12.2.2.2]
  show am_E _ (149, [vR y, vI 4, vI 3, vI 3, vI 1, vI 0, vI 4], [vI 1], aq_h m s F c_12) _
  refine am_E.go (t2 := (165, [vR y, vI 4, vI 3, vI 3, vI 1, vI 0, vI 4], [], aq_h m s F c_12)) rfl rfl ?_
  refine am_E.go (t2 := (168, [vR y, vI 4, vI 4, vI 3, vI 1, vI 0, vI 4], [], aq_h m s F c_12)) rfl rfl ?_
  refine am_E.go (t2 := (138, [vR y, vI 4, vI 4, vI 3, vI 1, vI 0, vI 4], [], aq_h m s F c_12)) rfl rfl ?_
  refine am_E.go (t2 := (139, [vR y, vI 4, vI 4, vI 3, vI 1, vI 0, vI 4], [vI 4], aq_h m s F c_12)) rfl rfl ?_
  refine am_E.go (t2 := (140, [vR y, vI 4, vI 4, vI 3, vI 1, vI 0, vI 4], [vI 4, vI 4], aq_h m s F c_12)) rfl rfl ?_
  refine am_E.go (t2 := (171, [vR y, vI 4, vI 4, vI 3, vI 1, vI 0, vI 4], [], aq_h m s F c_12)) rfl rfl ?_
  refine am_E.go (t2 := (172, [vR y, vI 4, vI 4, vI 3, vI 1, vI 0, vI 4], [vI 0], aq_h m s F c_12)) rfl rfl ?_
  refine am_E.go (t2 := (173, [vR y, vI 4, vI 0, vI 3, vI 1, vI 0, vI 4], [], aq_h m s F c_12)) rfl rfl ?_
  refine am_E.go (t2 := (174, [vR y, vI 4, vI 0, vI 3, vI 1, vI 0, vI 4], [vI 0], aq_h m s F c_12)) rfl rfl ?_
  refine am_E.go (t2 := (175, [vR y, vI 4, vI 0, vI 0, vI 1, vI 0, vI 4], [], aq_h m s F c_12)) rfl rfl ?_
  refine am_E.go (t2 := (176, [vR y, vI 4, vI 0, vI 0, vI 1, vI 0, vI 4], [vI 0], aq_h m s F c_12)) rfl rfl ?_
  refine am_E.go (t2 := (177, [vR y, vI 4, vI 0, vI 0, vI 1, vI 0, vI 4], [vI 4, vI 0], aq_h m s F c_12)) rfl rfl ?_
  refine am_E.go (t2 := (180, [vR y, vI 4, vI 0, vI 0, vI 1, vI 0, vI 4], [], aq_h m s F c_12)) rfl rfl ?_
  refine am_E.go (t2 := (181, [vR y, vI 4, vI 0, vI 0, vI 1, vI 0, vI 4], [vR y], aq_h m s F c_12)) rfl rfl ?_
  refine aq_gf (v := vR (y + 13)) rfl (by omega) hFo (by decide) rfl ?_
  show am_E _ (184, [vR y, vI 4, vI 0, vI 0, vI 1, vI 0, vI 4], [vR (y + 13)], aq_h m s F c_12) _
  refine am_E.go (t2 := (185, [vR y, vI 4, vI 0, vI 0, vI 1, vI 0, vI 4], [vI 0, vR (y + 13)], aq_h m s F c_12)) rfl rfl ?_
  refine aq_al (ok := fun k => k == 1) (v := vI (c_12 (y + 13) 0)) rfl rfl (by omega) hG13 rfl (by decide) (by decide) rfl ?_
  rw [mtc_12.1]
  show am_E _ (186, [vR y, vI 4, vI 0, vI 0, vI 1, vI 0, vI 4], [vI 1], aq_h m s F c_12) _
  refine am_E.go (t2 := (253, [vR y, vI 4, vI 0, vI 0, vI 1, vI 0, vI 4], [], aq_h m s F c_12)) rfl rfl ?_
  refine am_E.go (t2 := (256, [vR y, vI 4, vI 0, vI 1, vI 1, vI 0, vI 4], [], aq_h m s F c_12)) rfl rfl ?_
  refine am_E.go (t2 := (175, [vR y, vI 4, vI 0, vI 1, vI 1, vI 0, vI 4], [], aq_h m s F c_12)) rfl rfl ?_
  refine am_E.go (t2 := (176, [vR y, vI 4, vI 0, vI 1, vI 1, vI 0, vI 4], [vI 1], aq_h m s F c_12)) rfl rfl ?_
  refine am_E.go (t2 := (177, [vR y, vI 4, vI 0, vI 1, vI 1, vI 0, vI 4], [vI 4, vI 1], aq_h m s F c_12)) rfl rfl ?_
  refine am_E.go (t2 := (180, [vR y, vI 4, vI 0, vI 1, vI 1, vI 0, vI 4], [], aq_h m s F c_12)) rfl rfl ?_
  refine am_E.go (t2 := (181, [vR y, vI 4, vI 0, vI 1, vI 1, vI 0, vI 4], [vR y], aq_h m s F c_12)) rfl rfl ?_
  refine aq_gf (v := vR (y + 13)) rfl (by omega) hFo (by decide) rfl ?_
  show am_E _ (184, [vR y, vI 4, vI 0, vI 1, vI 1, vI 0, vI 4], [vR (y + 13)], aq_h m s F c_12) _
  refine am_E.go (t2 := (185, [vR y, vI 4, vI 0, vI 1, vI 1, vI 0, vI 4], [vI 1, vR (y + 13)], aq_h m s F c_12)) rfl rfl ?_
  refine aq_al (ok := fun k => k == 1) (v := vI (c_12 (y + 13) 1)) rfl rfl (by omega) hG13 rfl (by decide) (by decide) rfl ?_
  rw [mtc_12.2.1]
  show am_E _ (186, [vR y, vI 4, vI 0, vI 1, vI 1, vI 0, vI 4], [vI 1], aq_h m s F c_12) _
  refine am_E.go (t2 := (253, [vR y, vI 4, vI 0, vI 1, vI 1, vI 0, vI 4], [], aq_h m s F c_12)) rfl rfl ?_
  refine am_E.go (t2 := (256, [vR y, vI 4, vI 0, vI 2, vI 1, vI 0, vI 4], [], aq_h m s F c_12)) rfl rfl ?_
  refine am_E.go (t2 := (175, [vR y, vI 4, vI 0, vI 2, vI 1, vI 0, vI 4], [], aq_h m s F c_12)) rfl rfl ?_
  refine am_E.go (t2 := (176, [vR y, vI 4, vI 0, vI 2, vI 1, vI 0, vI 4], [vI 2], aq_h m s F c_12)) rfl rfl ?_
  refine am_E.go (t2 := (177, [vR y, vI 4, vI 0, vI 2, vI 1, vI 0, vI 4], [vI 4, vI 2], aq_h m s F c_12)) rfl rfl ?_
  refine am_E.go (t2 := (180, [vR y, vI 4, vI 0, vI 2, vI 1, vI 0, vI 4], [], aq_h m s F c_12)) rfl rfl ?_
  refine am_E.go (t2 := (181, [vR y, vI 4, vI 0, vI 2, vI 1, vI 0, vI 4], [vR y], aq_h m s F c_12)) rfl rfl ?_
  refine aq_gf (v := vR (y + 13)) rfl (by omega) hFo (by decide) rfl ?_
  show am_E _ (184, [vR y, vI 4, vI 0, vI 2, vI 1, vI 0, vI 4], [vR (y + 13)], aq_h m s F c_12) _
  refine am_E.go (t2 := (185, [vR y, vI 4, vI 0, vI 2, vI 1, vI 0, vI 4], [vI 2, vR (y + 13)], aq_h m s F c_12)) rfl rfl ?_
  refine aq_al (ok := fun k => k == 1) (v := vI (c_12 (y + 13) 2)) rfl rfl (by omega) hG13 rfl (by decide) (by decide) rfl ?_
  rw [mtc_12.2.2.1]
  show am_E _ (186, [vR y, vI 4, vI 0, vI 2, vI 1, vI 0, vI 4], [vI 1], aq_h m s F c_12) _
  refine am_E.go (t2 := (253, [vR y, vI 4, vI 0, vI 2, vI 1, vI 0, vI 4], [], aq_h m s F c_12)) rfl rfl ?_
  refine am_E.go (t2 := (256, [vR y, vI 4, vI 0, vI 3, vI 1, vI 0, vI 4], [], aq_h m s F c_12)) rfl rfl ?_
  refine am_E.go (t2 := (175, [vR y, vI 4, vI 0, vI 3, vI 1, vI 0, vI 4], [], aq_h m s F c_12)) rfl rfl ?_
  refine am_E.go (t2 := (176, [vR y, vI 4, vI 0, vI 3, vI 1, vI 0, vI 4], [vI 3], aq_h m s F c_12)) rfl rfl ?_
  refine am_E.go (t2 := (177, [vR y, vI 4, vI 0, vI 3, vI 1, vI 0, vI 4], [vI 4, vI 3], aq_h m s F c_12)) rfl rfl ?_
  refine am_E.go (t2 := (180, [vR y, vI 4, vI 0, vI 3, vI 1, vI 0, vI 4], [], aq_h m s F c_12)) rfl rfl ?_
  refine am_E.go (t2 := (181, [vR y, vI 4, vI 0, vI 3, vI 1, vI 0, vI 4], [vR y], aq_h m s F c_12)) rfl rfl ?_
  refine aq_gf (v := vR (y + 13)) rfl (by omega) hFo (by decide) rfl ?_
  show am_E _ (184, [vR y, vI 4, vI 0, vI 3, vI 1, vI 0, vI 4], [vR (y + 13)], aq_h m s F c_12) _
  refine am_E.go (t2 := (185, [vR y, vI 4, vI 0, vI 3, vI 1, vI 0, vI 4], [vI 3, vR (y + 13)], aq_h m s F c_12)) rfl rfl ?_
  refine aq_al (ok := fun k => k == 1) (v := vI (c_12 (y + 13) 3)) rfl rfl (by omega) hG13 rfl (by decide) (by decide) rfl ?_
  rw [mtc_12.2.2.2]
  show am_E _ (186, [vR y, vI 4, vI 0, vI 3, vI 1, vI 0, vI 4], [vI 1], aq_h m s F c_12) _
  refine am_E.go (t2 := (253, [vR y, vI 4, vI 0, vI 3, vI 1, vI 0, vI 4], [], aq_h m s F c_12)) rfl rfl ?_
  refine am_E.go (t2 := (256, [vR y, vI 4, vI 0, vI 4, vI 1, vI 0, vI 4], [], aq_h m s F c_12)) rfl rfl ?_
  refine am_E.go (t2 := (175, [vR y, vI 4, vI 0, vI 4, vI 1, vI 0, vI 4], [], aq_h m s F c_12)) rfl rfl ?_
  refine am_E.go (t2 := (176, [vR y, vI 4, vI 0, vI 4, vI 1, vI 0, vI 4], [vI 4], aq_h m s F c_12)) rfl rfl ?_
  refine am_E.go (t2 := (177, [vR y, vI 4, vI 0, vI 4, vI 1, vI 0, vI 4], [vI 4, vI 4], aq_h m s F c_12)) rfl rfl ?_
  refine am_E.go (t2 := (259, [vR y, vI 4, vI 0, vI 4, vI 1, vI 0, vI 4], [], aq_h m s F c_12)) rfl rfl ?_
  refine am_E.go (t2 := (260, [vR y, vI 4, vI 0, vI 4, vI 1, vI 0, vI 4], [vI 0], aq_h m s F c_12)) rfl rfl ?_
  refine am_E.ret rfl rfl ?_
  exact ⟨_, rfl, sc_12, rfl⟩
