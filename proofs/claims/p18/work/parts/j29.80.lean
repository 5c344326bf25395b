/-! The reference's constructor, whole. Printed by wip/p20/sx/gINI2.py. -/

/-- a new object of the reference: no array is there yet -/
def mo_t0 : Nat → aq_T := fun k => match k with
  | 0 => .inr vN
  | 1 => .inr vN
  | 2 => .inr vN
  | 3 => .inr vN
  | 4 => .inr vN
  | 5 => .inr vN
  | 6 => .inr vN
  | 7 => .inr vN
  | 8 => .inr vN
  | 11 => .inr vN
  | 12 => .inr vN
  | 13 => .inr vN
  | 14 => .inr vN
  | 16 => .inr vN
  | 18 => .inr vN
  | 19 => .inr vN
  | 20 => .inr vN
  | 21 => .inr vN
  | 22 => .inr vN
  | 23 => .inr vN
  | 24 => .inr vN
  | 25 => .inr vN
  | 26 => .inr vN
  | _ => .inl 0

theorem qm_init {s : Nat} {F : aq_F} {c : aq_C} {y : Nat} (hy : F y = (15, 27, mo_t0)) (h10 : c y 10 = 0) : am_E ac_X5_init (0, [vR y, vU, vU], [], aq_h (y + 1) s F c) (mo_Z y (s + 3246) F c) := by
  refine am_E.go (t2 := (1, [vR y, vU, vU], [vR y], aq_h (y + 1) s F c)) rfl rfl ?_
  refine am_E.go (t2 := (4, [vR y, vU, vU], [], aq_h (y + 1) s F c)) rfl rfl ?_
  have f0_0 : ∀ a, a < y → F a = F a := fun _ _ => rfl
  have s_0 : aq_sm (fun a => y ≤ a) c c := aq_sm0
  have t_0 := h10
  refine am_E.go (t2 := (5, [vR y, vU, vU], [vR y], aq_h (y + 1) s F c)) rfl rfl ?_
  refine am_E.go (t2 := (8, [vR y, vU, vU], [vI 992, vR y], aq_h (y + 1) s F c)) rfl rfl ?_
  refine aq_step (o := y) (n := 992) rfl rfl hy (by omega) (by decide) rfl (by decide) rfl (by decide) (fun F_1 c_1 hy_1 a_1 o_1 z_1 u_1 => ?_)
  show am_E _ (13, [vR y, vU, vU], [], aq_h (y + 2) (s + 992) F_1 c_1) _
  have g1_1 : F_1 (y + 1) = (0, 992, fun _ => .inl 0) := a_1
  have f0_1 : ∀ a, a < y → F_1 a = F a := fun a ha => (o_1 a (by omega) (by omega)).trans (f0_0 a ha)
  have t_1 : c_1 y 10 = 0 := by rw [u_1 y (by omega)]; exact t_0
  have s_1 : aq_sm (fun a => y ≤ a) c c_1 := fun a ha i => (u_1 a (by omega) i).trans (s_0 a ha i)
  refine am_E.go (t2 := (14, [vR y, vU, vU], [vR y], aq_h (y + 2) (s + 992) F_1 c_1)) rfl rfl ?_
  refine am_E.go (t2 := (16, [vR y, vU, vU], [vI 124, vR y], aq_h (y + 2) (s + 992) F_1 c_1)) rfl rfl ?_
  refine aq_step (o := y) (n := 124) rfl rfl hy_1 (by omega) (by decide) rfl (by decide) rfl (by decide) (fun F_2 c_2 hy_2 a_2 o_2 z_2 u_2 => ?_)
  show am_E _ (21, [vR y, vU, vU], [], aq_h (y + 3) (s + 1116) F_2 c_2) _
  have g1_2 : F_2 (y + 1) = (0, 992, fun _ => .inl 0) := by rw [o_2 (y + 1) (by omega) (by omega)]; exact g1_1
  have g2_2 : F_2 (y + 2) = (0, 124, fun _ => .inl 0) := a_2
  have f0_2 : ∀ a, a < y → F_2 a = F a := fun a ha => (o_2 a (by omega) (by omega)).trans (f0_1 a ha)
  have t_2 : c_2 y 10 = 0 := by rw [u_2 y (by omega)]; exact t_1
  have s_2 : aq_sm (fun a => y ≤ a) c c_2 := fun a ha i => (u_2 a (by omega) i).trans (s_1 a ha i)
  refine am_E.go (t2 := (22, [vR y, vU, vU], [vR y], aq_h (y + 3) (s + 1116) F_2 c_2)) rfl rfl ?_
  refine am_E.go (t2 := (24, [vR y, vU, vU], [vI 124, vR y], aq_h (y + 3) (s + 1116) F_2 c_2)) rfl rfl ?_
  refine aq_step (o := y) (n := 124) rfl rfl hy_2 (by omega) (by decide) rfl (by decide) rfl (by decide) (fun F_3 c_3 hy_3 a_3 o_3 z_3 u_3 => ?_)
  show am_E _ (29, [vR y, vU, vU], [], aq_h (y + 4) (s + 1240) F_3 c_3) _
  have g1_3 : F_3 (y + 1) = (0, 992, fun _ => .inl 0) := by rw [o_3 (y + 1) (by omega) (by omega)]; exact g1_2
  have g2_3 : F_3 (y + 2) = (0, 124, fun _ => .inl 0) := by rw [o_3 (y + 2) (by omega) (by omega)]; exact g2_2
  have g3_3 : F_3 (y + 3) = (0, 124, fun _ => .inl 0) := a_3
  have f0_3 : ∀ a, a < y → F_3 a = F a := fun a ha => (o_3 a (by omega) (by omega)).trans (f0_2 a ha)
  have t_3 : c_3 y 10 = 0 := by rw [u_3 y (by omega)]; exact t_2
  have s_3 : aq_sm (fun a => y ≤ a) c c_3 := fun a ha i => (u_3 a (by omega) i).trans (s_2 a ha i)
  have z3_3 : ∀ j, c_3 (y + 3) j = 0 := z_3
  refine am_E.go (t2 := (30, [vR y, vU, vU], [vR y], aq_h (y + 4) (s + 1240) F_3 c_3)) rfl rfl ?_
  refine am_E.go (t2 := (32, [vR y, vU, vU], [vI 124, vR y], aq_h (y + 4) (s + 1240) F_3 c_3)) rfl rfl ?_
  refine aq_step (o := y) (n := 124) rfl rfl hy_3 (by omega) (by decide) rfl (by decide) rfl (by decide) (fun F_4 c_4 hy_4 a_4 o_4 z_4 u_4 => ?_)
  show am_E _ (37, [vR y, vU, vU], [], aq_h (y + 5) (s + 1364) F_4 c_4) _
  have g1_4 : F_4 (y + 1) = (0, 992, fun _ => .inl 0) := by rw [o_4 (y + 1) (by omega) (by omega)]; exact g1_3
  have g2_4 : F_4 (y + 2) = (0, 124, fun _ => .inl 0) := by rw [o_4 (y + 2) (by omega) (by omega)]; exact g2_3
  have g3_4 : F_4 (y + 3) = (0, 124, fun _ => .inl 0) := by rw [o_4 (y + 3) (by omega) (by omega)]; exact g3_3
  have g4_4 : F_4 (y + 4) = (0, 124, fun _ => .inl 0) := a_4
  have f0_4 : ∀ a, a < y → F_4 a = F a := fun a ha => (o_4 a (by omega) (by omega)).trans (f0_3 a ha)
  have t_4 : c_4 y 10 = 0 := by rw [u_4 y (by omega)]; exact t_3
  have s_4 : aq_sm (fun a => y ≤ a) c c_4 := fun a ha i => (u_4 a (by omega) i).trans (s_3 a ha i)
  have z3_4 : ∀ j, c_4 (y + 3) j = 0 := fun j => by rw [u_4 (y + 3) (by omega)]; exact z3_3 j
  refine am_E.go (t2 := (38, [vR y, vU, vU], [vR y], aq_h (y + 5) (s + 1364) F_4 c_4)) rfl rfl ?_
  refine am_E.go (t2 := (40, [vR y, vU, vU], [vI 8, vR y], aq_h (y + 5) (s + 1364) F_4 c_4)) rfl rfl ?_
  refine aq_step (o := y) (n := 8) rfl rfl hy_4 (by omega) (by decide) rfl (by decide) rfl (by decide) (fun F_5 c_5 hy_5 a_5 o_5 z_5 u_5 => ?_)
  show am_E _ (45, [vR y, vU, vU], [], aq_h (y + 6) (s + 1372) F_5 c_5) _
  have g1_5 : F_5 (y + 1) = (0, 992, fun _ => .inl 0) := by rw [o_5 (y + 1) (by omega) (by omega)]; exact g1_4
  have g2_5 : F_5 (y + 2) = (0, 124, fun _ => .inl 0) := by rw [o_5 (y + 2) (by omega) (by omega)]; exact g2_4
  have g3_5 : F_5 (y + 3) = (0, 124, fun _ => .inl 0) := by rw [o_5 (y + 3) (by omega) (by omega)]; exact g3_4
  have g4_5 : F_5 (y + 4) = (0, 124, fun _ => .inl 0) := by rw [o_5 (y + 4) (by omega) (by omega)]; exact g4_4
  have g5_5 : F_5 (y + 5) = (0, 8, fun _ => .inl 0) := a_5
  have f0_5 : ∀ a, a < y → F_5 a = F a := fun a ha => (o_5 a (by omega) (by omega)).trans (f0_4 a ha)
  have t_5 : c_5 y 10 = 0 := by rw [u_5 y (by omega)]; exact t_4
  have s_5 : aq_sm (fun a => y ≤ a) c c_5 := fun a ha i => (u_5 a (by omega) i).trans (s_4 a ha i)
  have z3_5 : ∀ j, c_5 (y + 3) j = 0 := fun j => by rw [u_5 (y + 3) (by omega)]; exact z3_4 j
  refine am_E.go (t2 := (46, [vR y, vU, vU], [vR y], aq_h (y + 6) (s + 1372) F_5 c_5)) rfl rfl ?_
  refine am_E.go (t2 := (48, [vR y, vU, vU], [vI 8, vR y], aq_h (y + 6) (s + 1372) F_5 c_5)) rfl rfl ?_
  refine aq_step (o := y) (n := 8) rfl rfl hy_5 (by omega) (by decide) rfl (by decide) rfl (by decide) (fun F_6 c_6 hy_6 a_6 o_6 z_6 u_6 => ?_)
  show am_E _ (53, [vR y, vU, vU], [], aq_h (y + 7) (s + 1380) F_6 c_6) _
  have g1_6 : F_6 (y + 1) = (0, 992, fun _ => .inl 0) := by rw [o_6 (y + 1) (by omega) (by omega)]; exact g1_5
  have g2_6 : F_6 (y + 2) = (0, 124, fun _ => .inl 0) := by rw [o_6 (y + 2) (by omega) (by omega)]; exact g2_5
  have g3_6 : F_6 (y + 3) = (0, 124, fun _ => .inl 0) := by rw [o_6 (y + 3) (by omega) (by omega)]; exact g3_5
  have g4_6 : F_6 (y + 4) = (0, 124, fun _ => .inl 0) := by rw [o_6 (y + 4) (by omega) (by omega)]; exact g4_5
  have g5_6 : F_6 (y + 5) = (0, 8, fun _ => .inl 0) := by rw [o_6 (y + 5) (by omega) (by omega)]; exact g5_5
  have g6_6 : F_6 (y + 6) = (0, 8, fun _ => .inl 0) := a_6
  have f0_6 : ∀ a, a < y → F_6 a = F a := fun a ha => (o_6 a (by omega) (by omega)).trans (f0_5 a ha)
  have t_6 : c_6 y 10 = 0 := by rw [u_6 y (by omega)]; exact t_5
  have s_6 : aq_sm (fun a => y ≤ a) c c_6 := fun a ha i => (u_6 a (by omega) i).trans (s_5 a ha i)
  have z3_6 : ∀ j, c_6 (y + 3) j = 0 := fun j => by rw [u_6 (y + 3) (by omega)]; exact z3_5 j
  have z6_6 : ∀ j, c_6 (y + 6) j = 0 := z_6
  refine am_E.go (t2 := (54, [vR y, vU, vU], [vR y], aq_h (y + 7) (s + 1380) F_6 c_6)) rfl rfl ?_
  refine am_E.go (t2 := (57, [vR y, vU, vU], [vI 320, vR y], aq_h (y + 7) (s + 1380) F_6 c_6)) rfl rfl ?_
  refine aq_step (o := y) (n := 320) rfl rfl hy_6 (by omega) (by decide) rfl (by decide) rfl (by decide) (fun F_7 c_7 hy_7 a_7 o_7 z_7 u_7 => ?_)
  show am_E _ (62, [vR y, vU, vU], [], aq_h (y + 8) (s + 1700) F_7 c_7) _
  have g1_7 : F_7 (y + 1) = (0, 992, fun _ => .inl 0) := by rw [o_7 (y + 1) (by omega) (by omega)]; exact g1_6
  have g2_7 : F_7 (y + 2) = (0, 124, fun _ => .inl 0) := by rw [o_7 (y + 2) (by omega) (by omega)]; exact g2_6
  have g3_7 : F_7 (y + 3) = (0, 124, fun _ => .inl 0) := by rw [o_7 (y + 3) (by omega) (by omega)]; exact g3_6
  have g4_7 : F_7 (y + 4) = (0, 124, fun _ => .inl 0) := by rw [o_7 (y + 4) (by omega) (by omega)]; exact g4_6
  have g5_7 : F_7 (y + 5) = (0, 8, fun _ => .inl 0) := by rw [o_7 (y + 5) (by omega) (by omega)]; exact g5_6
  have g6_7 : F_7 (y + 6) = (0, 8, fun _ => .inl 0) := by rw [o_7 (y + 6) (by omega) (by omega)]; exact g6_6
  have g7_7 : F_7 (y + 7) = (0, 320, fun _ => .inl 0) := a_7
  have f0_7 : ∀ a, a < y → F_7 a = F a := fun a ha => (o_7 a (by omega) (by omega)).trans (f0_6 a ha)
  have t_7 : c_7 y 10 = 0 := by rw [u_7 y (by omega)]; exact t_6
  have s_7 : aq_sm (fun a => y ≤ a) c c_7 := fun a ha i => (u_7 a (by omega) i).trans (s_6 a ha i)
  have z3_7 : ∀ j, c_7 (y + 3) j = 0 := fun j => by rw [u_7 (y + 3) (by omega)]; exact z3_6 j
  have z6_7 : ∀ j, c_7 (y + 6) j = 0 := fun j => by rw [u_7 (y + 6) (by omega)]; exact z6_6 j
  refine am_E.go (t2 := (63, [vR y, vU, vU], [vR y], aq_h (y + 8) (s + 1700) F_7 c_7)) rfl rfl ?_
  refine am_E.go (t2 := (66, [vR y, vU, vU], [vI 320, vR y], aq_h (y + 8) (s + 1700) F_7 c_7)) rfl rfl ?_
  refine aq_step (o := y) (n := 320) rfl rfl hy_7 (by omega) (by decide) rfl (by decide) rfl (by decide) (fun F_8 c_8 hy_8 a_8 o_8 z_8 u_8 => ?_)
  show am_E _ (71, [vR y, vU, vU], [], aq_h (y + 9) (s + 2020) F_8 c_8) _
  have g1_8 : F_8 (y + 1) = (0, 992, fun _ => .inl 0) := by rw [o_8 (y + 1) (by omega) (by omega)]; exact g1_7
  have g2_8 : F_8 (y + 2) = (0, 124, fun _ => .inl 0) := by rw [o_8 (y + 2) (by omega) (by omega)]; exact g2_7
  have g3_8 : F_8 (y + 3) = (0, 124, fun _ => .inl 0) := by rw [o_8 (y + 3) (by omega) (by omega)]; exact g3_7
  have g4_8 : F_8 (y + 4) = (0, 124, fun _ => .inl 0) := by rw [o_8 (y + 4) (by omega) (by omega)]; exact g4_7
  have g5_8 : F_8 (y + 5) = (0, 8, fun _ => .inl 0) := by rw [o_8 (y + 5) (by omega) (by omega)]; exact g5_7
  have g6_8 : F_8 (y + 6) = (0, 8, fun _ => .inl 0) := by rw [o_8 (y + 6) (by omega) (by omega)]; exact g6_7
  have g7_8 : F_8 (y + 7) = (0, 320, fun _ => .inl 0) := by rw [o_8 (y + 7) (by omega) (by omega)]; exact g7_7
  have g8_8 : F_8 (y + 8) = (0, 320, fun _ => .inl 0) := a_8
  have f0_8 : ∀ a, a < y → F_8 a = F a := fun a ha => (o_8 a (by omega) (by omega)).trans (f0_7 a ha)
  have t_8 : c_8 y 10 = 0 := by rw [u_8 y (by omega)]; exact t_7
  have s_8 : aq_sm (fun a => y ≤ a) c c_8 := fun a ha i => (u_8 a (by omega) i).trans (s_7 a ha i)
  have z3_8 : ∀ j, c_8 (y + 3) j = 0 := fun j => by rw [u_8 (y + 3) (by omega)]; exact z3_7 j
  have z6_8 : ∀ j, c_8 (y + 6) j = 0 := fun j => by rw [u_8 (y + 6) (by omega)]; exact z6_7 j
  refine am_E.go (t2 := (72, [vR y, vU, vU], [vR y], aq_h (y + 9) (s + 2020) F_8 c_8)) rfl rfl ?_
  refine am_E.go (t2 := (75, [vR y, vU, vU], [vI 320, vR y], aq_h (y + 9) (s + 2020) F_8 c_8)) rfl rfl ?_
  refine aq_step (o := y) (n := 320) rfl rfl hy_8 (by omega) (by decide) rfl (by decide) rfl (by decide) (fun F_9 c_9 hy_9 a_9 o_9 z_9 u_9 => ?_)
  show am_E _ (80, [vR y, vU, vU], [], aq_h (y + 10) (s + 2340) F_9 c_9) _
  have g1_9 : F_9 (y + 1) = (0, 992, fun _ => .inl 0) := by rw [o_9 (y + 1) (by omega) (by omega)]; exact g1_8
  have g2_9 : F_9 (y + 2) = (0, 124, fun _ => .inl 0) := by rw [o_9 (y + 2) (by omega) (by omega)]; exact g2_8
  have g3_9 : F_9 (y + 3) = (0, 124, fun _ => .inl 0) := by rw [o_9 (y + 3) (by omega) (by omega)]; exact g3_8
  have g4_9 : F_9 (y + 4) = (0, 124, fun _ => .inl 0) := by rw [o_9 (y + 4) (by omega) (by omega)]; exact g4_8
  have g5_9 : F_9 (y + 5) = (0, 8, fun _ => .inl 0) := by rw [o_9 (y + 5) (by omega) (by omega)]; exact g5_8
  have g6_9 : F_9 (y + 6) = (0, 8, fun _ => .inl 0) := by rw [o_9 (y + 6) (by omega) (by omega)]; exact g6_8
  have g7_9 : F_9 (y + 7) = (0, 320, fun _ => .inl 0) := by rw [o_9 (y + 7) (by omega) (by omega)]; exact g7_8
  have g8_9 : F_9 (y + 8) = (0, 320, fun _ => .inl 0) := by rw [o_9 (y + 8) (by omega) (by omega)]; exact g8_8
  have g9_9 : F_9 (y + 9) = (2, 320, fun _ => .inl 2) := a_9
  have f0_9 : ∀ a, a < y → F_9 a = F a := fun a ha => (o_9 a (by omega) (by omega)).trans (f0_8 a ha)
  have t_9 : c_9 y 10 = 0 := by rw [u_9 y (by omega)]; exact t_8
  have s_9 : aq_sm (fun a => y ≤ a) c c_9 := fun a ha i => (u_9 a (by omega) i).trans (s_8 a ha i)
  have z3_9 : ∀ j, c_9 (y + 3) j = 0 := fun j => by rw [u_9 (y + 3) (by omega)]; exact z3_8 j
  have z6_9 : ∀ j, c_9 (y + 6) j = 0 := fun j => by rw [u_9 (y + 6) (by omega)]; exact z6_8 j
  refine am_E.go (t2 := (81, [vR y, vU, vU], [vR y], aq_h (y + 10) (s + 2340) F_9 c_9)) rfl rfl ?_
  refine am_E.go (t2 := (82, [vR y, vU, vU], [vI 2, vR y], aq_h (y + 10) (s + 2340) F_9 c_9)) rfl rfl ?_
  refine aq_pf rfl (by omega) hy_9 (by decide) rfl rfl ?_
  show am_E _ (85, [vR y, vU, vU], [], aq_h (y + 10) (s + 2340) F_9 (aq_u c_9 y 9 2)) _
  generalize hd9 : aq_u c_9 y 9 2 = d_9
  have r_9 : d_9 y 9 = 2 := by rw [← hd9, aq_us]
  have t_9b : d_9 y 10 = 0 := by rw [← hd9, aq_un (Or.inr (by decide))]; exact t_9
  have s_9b : aq_sm (fun a => y ≤ a) c d_9 := aq_smu s_9 hd9 (Nat.le_refl y)
  have z3_9b : ∀ j, d_9 (y + 3) j = 0 := fun j => by rw [← hd9, aq_un (Or.inl (by omega))]; exact z3_9 j
  have z6_9b : ∀ j, d_9 (y + 6) j = 0 := fun j => by rw [← hd9, aq_un (Or.inl (by omega))]; exact z6_9 j
  have t_9 := t_9b
  have s_9 := s_9b
  have z3_9 := z3_9b
  have z6_9 := z6_9b
  refine am_E.go (t2 := (86, [vR y, vU, vU], [vR y], aq_h (y + 10) (s + 2340) F_9 d_9)) rfl rfl ?_
  refine am_E.go (t2 := (88, [vR y, vU, vU], [vI 8, vR y], aq_h (y + 10) (s + 2340) F_9 d_9)) rfl rfl ?_
  refine aq_step (o := y) (n := 8) rfl rfl hy_9 (by omega) (by decide) rfl (by decide) rfl (by decide) (fun F_10 c_10 hy_10 a_10 o_10 z_10 u_10 => ?_)
  show am_E _ (93, [vR y, vU, vU], [], aq_h (y + 11) (s + 2348) F_10 c_10) _
  have g1_10 : F_10 (y + 1) = (0, 992, fun _ => .inl 0) := by rw [o_10 (y + 1) (by omega) (by omega)]; exact g1_9
  have g2_10 : F_10 (y + 2) = (0, 124, fun _ => .inl 0) := by rw [o_10 (y + 2) (by omega) (by omega)]; exact g2_9
  have g3_10 : F_10 (y + 3) = (0, 124, fun _ => .inl 0) := by rw [o_10 (y + 3) (by omega) (by omega)]; exact g3_9
  have g4_10 : F_10 (y + 4) = (0, 124, fun _ => .inl 0) := by rw [o_10 (y + 4) (by omega) (by omega)]; exact g4_9
  have g5_10 : F_10 (y + 5) = (0, 8, fun _ => .inl 0) := by rw [o_10 (y + 5) (by omega) (by omega)]; exact g5_9
  have g6_10 : F_10 (y + 6) = (0, 8, fun _ => .inl 0) := by rw [o_10 (y + 6) (by omega) (by omega)]; exact g6_9
  have g7_10 : F_10 (y + 7) = (0, 320, fun _ => .inl 0) := by rw [o_10 (y + 7) (by omega) (by omega)]; exact g7_9
  have g8_10 : F_10 (y + 8) = (0, 320, fun _ => .inl 0) := by rw [o_10 (y + 8) (by omega) (by omega)]; exact g8_9
  have g9_10 : F_10 (y + 9) = (2, 320, fun _ => .inl 2) := by rw [o_10 (y + 9) (by omega) (by omega)]; exact g9_9
  have g10_10 : F_10 (y + 10) = (0, 8, fun _ => .inl 0) := a_10
  have f0_10 : ∀ a, a < y → F_10 a = F a := fun a ha => (o_10 a (by omega) (by omega)).trans (f0_9 a ha)
  have t_10 : c_10 y 10 = 0 := by rw [u_10 y (by omega)]; exact t_9
  have s_10 : aq_sm (fun a => y ≤ a) c c_10 := fun a ha i => (u_10 a (by omega) i).trans (s_9 a ha i)
  have r_10 : c_10 y 9 = 2 := by rw [u_10 y (by omega)]; exact r_9
  have z3_10 : ∀ j, c_10 (y + 3) j = 0 := fun j => by rw [u_10 (y + 3) (by omega)]; exact z3_9 j
  have z6_10 : ∀ j, c_10 (y + 6) j = 0 := fun j => by rw [u_10 (y + 6) (by omega)]; exact z6_9 j
  refine am_E.go (t2 := (94, [vR y, vU, vU], [vR y], aq_h (y + 11) (s + 2348) F_10 c_10)) rfl rfl ?_
  refine am_E.go (t2 := (96, [vR y, vU, vU], [vI 8, vR y], aq_h (y + 11) (s + 2348) F_10 c_10)) rfl rfl ?_
  refine aq_step (o := y) (n := 8) rfl rfl hy_10 (by omega) (by decide) rfl (by decide) rfl (by decide) (fun F_11 c_11 hy_11 a_11 o_11 z_11 u_11 => ?_)
  show am_E _ (101, [vR y, vU, vU], [], aq_h (y + 12) (s + 2356) F_11 c_11) _
  have g1_11 : F_11 (y + 1) = (0, 992, fun _ => .inl 0) := by rw [o_11 (y + 1) (by omega) (by omega)]; exact g1_10
  have g2_11 : F_11 (y + 2) = (0, 124, fun _ => .inl 0) := by rw [o_11 (y + 2) (by omega) (by omega)]; exact g2_10
  have g3_11 : F_11 (y + 3) = (0, 124, fun _ => .inl 0) := by rw [o_11 (y + 3) (by omega) (by omega)]; exact g3_10
  have g4_11 : F_11 (y + 4) = (0, 124, fun _ => .inl 0) := by rw [o_11 (y + 4) (by omega) (by omega)]; exact g4_10
  have g5_11 : F_11 (y + 5) = (0, 8, fun _ => .inl 0) := by rw [o_11 (y + 5) (by omega) (by omega)]; exact g5_10
  have g6_11 : F_11 (y + 6) = (0, 8, fun _ => .inl 0) := by rw [o_11 (y + 6) (by omega) (by omega)]; exact g6_10
  have g7_11 : F_11 (y + 7) = (0, 320, fun _ => .inl 0) := by rw [o_11 (y + 7) (by omega) (by omega)]; exact g7_10
  have g8_11 : F_11 (y + 8) = (0, 320, fun _ => .inl 0) := by rw [o_11 (y + 8) (by omega) (by omega)]; exact g8_10
  have g9_11 : F_11 (y + 9) = (2, 320, fun _ => .inl 2) := by rw [o_11 (y + 9) (by omega) (by omega)]; exact g9_10
  have g10_11 : F_11 (y + 10) = (0, 8, fun _ => .inl 0) := by rw [o_11 (y + 10) (by omega) (by omega)]; exact g10_10
  have g11_11 : F_11 (y + 11) = (1, 8, fun _ => .inl 0) := a_11
  have f0_11 : ∀ a, a < y → F_11 a = F a := fun a ha => (o_11 a (by omega) (by omega)).trans (f0_10 a ha)
  have t_11 : c_11 y 10 = 0 := by rw [u_11 y (by omega)]; exact t_10
  have s_11 : aq_sm (fun a => y ≤ a) c c_11 := fun a ha i => (u_11 a (by omega) i).trans (s_10 a ha i)
  have r_11 : c_11 y 9 = 2 := by rw [u_11 y (by omega)]; exact r_10
  have z3_11 : ∀ j, c_11 (y + 3) j = 0 := fun j => by rw [u_11 (y + 3) (by omega)]; exact z3_10 j
  have z6_11 : ∀ j, c_11 (y + 6) j = 0 := fun j => by rw [u_11 (y + 6) (by omega)]; exact z6_10 j
  refine am_E.go (t2 := (102, [vR y, vU, vU], [vR y], aq_h (y + 12) (s + 2356) F_11 c_11)) rfl rfl ?_
  refine am_E.go (t2 := (104, [vR y, vU, vU], [vI 8, vR y], aq_h (y + 12) (s + 2356) F_11 c_11)) rfl rfl ?_
  refine aq_step (o := y) (n := 8) rfl rfl hy_11 (by omega) (by decide) rfl (by decide) rfl (by decide) (fun F_12 c_12 hy_12 a_12 o_12 z_12 u_12 => ?_)
  show am_E _ (109, [vR y, vU, vU], [], aq_h (y + 13) (s + 2364) F_12 c_12) _
  have g1_12 : F_12 (y + 1) = (0, 992, fun _ => .inl 0) := by rw [o_12 (y + 1) (by omega) (by omega)]; exact g1_11
  have g2_12 : F_12 (y + 2) = (0, 124, fun _ => .inl 0) := by rw [o_12 (y + 2) (by omega) (by omega)]; exact g2_11
  have g3_12 : F_12 (y + 3) = (0, 124, fun _ => .inl 0) := by rw [o_12 (y + 3) (by omega) (by omega)]; exact g3_11
  have g4_12 : F_12 (y + 4) = (0, 124, fun _ => .inl 0) := by rw [o_12 (y + 4) (by omega) (by omega)]; exact g4_11
  have g5_12 : F_12 (y + 5) = (0, 8, fun _ => .inl 0) := by rw [o_12 (y + 5) (by omega) (by omega)]; exact g5_11
  have g6_12 : F_12 (y + 6) = (0, 8, fun _ => .inl 0) := by rw [o_12 (y + 6) (by omega) (by omega)]; exact g6_11
  have g7_12 : F_12 (y + 7) = (0, 320, fun _ => .inl 0) := by rw [o_12 (y + 7) (by omega) (by omega)]; exact g7_11
  have g8_12 : F_12 (y + 8) = (0, 320, fun _ => .inl 0) := by rw [o_12 (y + 8) (by omega) (by omega)]; exact g8_11
  have g9_12 : F_12 (y + 9) = (2, 320, fun _ => .inl 2) := by rw [o_12 (y + 9) (by omega) (by omega)]; exact g9_11
  have g10_12 : F_12 (y + 10) = (0, 8, fun _ => .inl 0) := by rw [o_12 (y + 10) (by omega) (by omega)]; exact g10_11
  have g11_12 : F_12 (y + 11) = (1, 8, fun _ => .inl 0) := by rw [o_12 (y + 11) (by omega) (by omega)]; exact g11_11
  have g12_12 : F_12 (y + 12) = (0, 8, fun _ => .inl 0) := a_12
  have f0_12 : ∀ a, a < y → F_12 a = F a := fun a ha => (o_12 a (by omega) (by omega)).trans (f0_11 a ha)
  have t_12 : c_12 y 10 = 0 := by rw [u_12 y (by omega)]; exact t_11
  have s_12 : aq_sm (fun a => y ≤ a) c c_12 := fun a ha i => (u_12 a (by omega) i).trans (s_11 a ha i)
  have r_12 : c_12 y 9 = 2 := by rw [u_12 y (by omega)]; exact r_11
  have z3_12 : ∀ j, c_12 (y + 3) j = 0 := fun j => by rw [u_12 (y + 3) (by omega)]; exact z3_11 j
  have z6_12 : ∀ j, c_12 (y + 6) j = 0 := fun j => by rw [u_12 (y + 6) (by omega)]; exact z6_11 j
  refine am_E.go (t2 := (110, [vR y, vU, vU], [vR y], aq_h (y + 13) (s + 2364) F_12 c_12)) rfl rfl ?_
  refine am_E.go (t2 := (111, [vR y, vU, vU], [vI 4, vR y], aq_h (y + 13) (s + 2364) F_12 c_12)) rfl rfl ?_
  refine aq_step (o := y) (n := 4) rfl rfl hy_12 (by omega) (by decide) rfl (by decide) rfl (by decide) (fun F_13 c_13 hy_13 a_13 o_13 z_13 u_13 => ?_)
  show am_E _ (116, [vR y, vU, vU], [], aq_h (y + 14) (s + 2368) F_13 c_13) _
  have g1_13 : F_13 (y + 1) = (0, 992, fun _ => .inl 0) := by rw [o_13 (y + 1) (by omega) (by omega)]; exact g1_12
  have g2_13 : F_13 (y + 2) = (0, 124, fun _ => .inl 0) := by rw [o_13 (y + 2) (by omega) (by omega)]; exact g2_12
  have g3_13 : F_13 (y + 3) = (0, 124, fun _ => .inl 0) := by rw [o_13 (y + 3) (by omega) (by omega)]; exact g3_12
  have g4_13 : F_13 (y + 4) = (0, 124, fun _ => .inl 0) := by rw [o_13 (y + 4) (by omega) (by omega)]; exact g4_12
  have g5_13 : F_13 (y + 5) = (0, 8, fun _ => .inl 0) := by rw [o_13 (y + 5) (by omega) (by omega)]; exact g5_12
  have g6_13 : F_13 (y + 6) = (0, 8, fun _ => .inl 0) := by rw [o_13 (y + 6) (by omega) (by omega)]; exact g6_12
  have g7_13 : F_13 (y + 7) = (0, 320, fun _ => .inl 0) := by rw [o_13 (y + 7) (by omega) (by omega)]; exact g7_12
  have g8_13 : F_13 (y + 8) = (0, 320, fun _ => .inl 0) := by rw [o_13 (y + 8) (by omega) (by omega)]; exact g8_12
  have g9_13 : F_13 (y + 9) = (2, 320, fun _ => .inl 2) := by rw [o_13 (y + 9) (by omega) (by omega)]; exact g9_12
  have g10_13 : F_13 (y + 10) = (0, 8, fun _ => .inl 0) := by rw [o_13 (y + 10) (by omega) (by omega)]; exact g10_12
  have g11_13 : F_13 (y + 11) = (1, 8, fun _ => .inl 0) := by rw [o_13 (y + 11) (by omega) (by omega)]; exact g11_12
  have g12_13 : F_13 (y + 12) = (0, 8, fun _ => .inl 0) := by rw [o_13 (y + 12) (by omega) (by omega)]; exact g12_12
  have g13_13 : F_13 (y + 13) = (1, 4, fun _ => .inl 0) := a_13
  have f0_13 : ∀ a, a < y → F_13 a = F a := fun a ha => (o_13 a (by omega) (by omega)).trans (f0_12 a ha)
  have t_13 : c_13 y 10 = 0 := by rw [u_13 y (by omega)]; exact t_12
  have s_13 : aq_sm (fun a => y ≤ a) c c_13 := fun a ha i => (u_13 a (by omega) i).trans (s_12 a ha i)
  have r_13 : c_13 y 9 = 2 := by rw [u_13 y (by omega)]; exact r_12
  have z3_13 : ∀ j, c_13 (y + 3) j = 0 := fun j => by rw [u_13 (y + 3) (by omega)]; exact z3_12 j
  have z6_13 : ∀ j, c_13 (y + 6) j = 0 := fun j => by rw [u_13 (y + 6) (by omega)]; exact z6_12 j
  refine am_E.go (t2 := (117, [vR y, vU, vU], [vR y], aq_h (y + 14) (s + 2368) F_13 c_13)) rfl rfl ?_
  refine am_E.go (t2 := (119, [vR y, vU, vU], [vI 105, vR y], aq_h (y + 14) (s + 2368) F_13 c_13)) rfl rfl ?_
  refine aq_step (o := y) (n := 105) rfl rfl hy_13 (by omega) (by decide) rfl (by decide) rfl (by decide) (fun F_14 c_14 hy_14 a_14 o_14 z_14 u_14 => ?_)
  show am_E _ (124, [vR y, vU, vU], [], aq_h (y + 15) (s + 2473) F_14 c_14) _
  have g1_14 : F_14 (y + 1) = (0, 992, fun _ => .inl 0) := by rw [o_14 (y + 1) (by omega) (by omega)]; exact g1_13
  have g2_14 : F_14 (y + 2) = (0, 124, fun _ => .inl 0) := by rw [o_14 (y + 2) (by omega) (by omega)]; exact g2_13
  have g3_14 : F_14 (y + 3) = (0, 124, fun _ => .inl 0) := by rw [o_14 (y + 3) (by omega) (by omega)]; exact g3_13
  have g4_14 : F_14 (y + 4) = (0, 124, fun _ => .inl 0) := by rw [o_14 (y + 4) (by omega) (by omega)]; exact g4_13
  have g5_14 : F_14 (y + 5) = (0, 8, fun _ => .inl 0) := by rw [o_14 (y + 5) (by omega) (by omega)]; exact g5_13
  have g6_14 : F_14 (y + 6) = (0, 8, fun _ => .inl 0) := by rw [o_14 (y + 6) (by omega) (by omega)]; exact g6_13
  have g7_14 : F_14 (y + 7) = (0, 320, fun _ => .inl 0) := by rw [o_14 (y + 7) (by omega) (by omega)]; exact g7_13
  have g8_14 : F_14 (y + 8) = (0, 320, fun _ => .inl 0) := by rw [o_14 (y + 8) (by omega) (by omega)]; exact g8_13
  have g9_14 : F_14 (y + 9) = (2, 320, fun _ => .inl 2) := by rw [o_14 (y + 9) (by omega) (by omega)]; exact g9_13
  have g10_14 : F_14 (y + 10) = (0, 8, fun _ => .inl 0) := by rw [o_14 (y + 10) (by omega) (by omega)]; exact g10_13
  have g11_14 : F_14 (y + 11) = (1, 8, fun _ => .inl 0) := by rw [o_14 (y + 11) (by omega) (by omega)]; exact g11_13
  have g12_14 : F_14 (y + 12) = (0, 8, fun _ => .inl 0) := by rw [o_14 (y + 12) (by omega) (by omega)]; exact g12_13
  have g13_14 : F_14 (y + 13) = (1, 4, fun _ => .inl 0) := by rw [o_14 (y + 13) (by omega) (by omega)]; exact g13_13
  have g14_14 : F_14 (y + 14) = (0, 105, fun _ => .inl 0) := a_14
  have f0_14 : ∀ a, a < y → F_14 a = F a := fun a ha => (o_14 a (by omega) (by omega)).trans (f0_13 a ha)
  have t_14 : c_14 y 10 = 0 := by rw [u_14 y (by omega)]; exact t_13
  have s_14 : aq_sm (fun a => y ≤ a) c c_14 := fun a ha i => (u_14 a (by omega) i).trans (s_13 a ha i)
  have r_14 : c_14 y 9 = 2 := by rw [u_14 y (by omega)]; exact r_13
  have z3_14 : ∀ j, c_14 (y + 3) j = 0 := fun j => by rw [u_14 (y + 3) (by omega)]; exact z3_13 j
  have z6_14 : ∀ j, c_14 (y + 6) j = 0 := fun j => by rw [u_14 (y + 6) (by omega)]; exact z6_13 j
  refine am_E.go (t2 := (125, [vR y, vU, vU], [vR y], aq_h (y + 15) (s + 2473) F_14 c_14)) rfl rfl ?_
  refine am_E.go (t2 := (127, [vR y, vU, vU], [vI 42, vR y], aq_h (y + 15) (s + 2473) F_14 c_14)) rfl rfl ?_
  refine aq_step (o := y) (n := 42) rfl rfl hy_14 (by omega) (by decide) rfl (by decide) rfl (by decide) (fun F_15 c_15 hy_15 a_15 o_15 z_15 u_15 => ?_)
  show am_E _ (132, [vR y, vU, vU], [], aq_h (y + 16) (s + 2515) F_15 c_15) _
  have g1_15 : F_15 (y + 1) = (0, 992, fun _ => .inl 0) := by rw [o_15 (y + 1) (by omega) (by omega)]; exact g1_14
  have g2_15 : F_15 (y + 2) = (0, 124, fun _ => .inl 0) := by rw [o_15 (y + 2) (by omega) (by omega)]; exact g2_14
  have g3_15 : F_15 (y + 3) = (0, 124, fun _ => .inl 0) := by rw [o_15 (y + 3) (by omega) (by omega)]; exact g3_14
  have g4_15 : F_15 (y + 4) = (0, 124, fun _ => .inl 0) := by rw [o_15 (y + 4) (by omega) (by omega)]; exact g4_14
  have g5_15 : F_15 (y + 5) = (0, 8, fun _ => .inl 0) := by rw [o_15 (y + 5) (by omega) (by omega)]; exact g5_14
  have g6_15 : F_15 (y + 6) = (0, 8, fun _ => .inl 0) := by rw [o_15 (y + 6) (by omega) (by omega)]; exact g6_14
  have g7_15 : F_15 (y + 7) = (0, 320, fun _ => .inl 0) := by rw [o_15 (y + 7) (by omega) (by omega)]; exact g7_14
  have g8_15 : F_15 (y + 8) = (0, 320, fun _ => .inl 0) := by rw [o_15 (y + 8) (by omega) (by omega)]; exact g8_14
  have g9_15 : F_15 (y + 9) = (2, 320, fun _ => .inl 2) := by rw [o_15 (y + 9) (by omega) (by omega)]; exact g9_14
  have g10_15 : F_15 (y + 10) = (0, 8, fun _ => .inl 0) := by rw [o_15 (y + 10) (by omega) (by omega)]; exact g10_14
  have g11_15 : F_15 (y + 11) = (1, 8, fun _ => .inl 0) := by rw [o_15 (y + 11) (by omega) (by omega)]; exact g11_14
  have g12_15 : F_15 (y + 12) = (0, 8, fun _ => .inl 0) := by rw [o_15 (y + 12) (by omega) (by omega)]; exact g12_14
  have g13_15 : F_15 (y + 13) = (1, 4, fun _ => .inl 0) := by rw [o_15 (y + 13) (by omega) (by omega)]; exact g13_14
  have g14_15 : F_15 (y + 14) = (0, 105, fun _ => .inl 0) := by rw [o_15 (y + 14) (by omega) (by omega)]; exact g14_14
  have g15_15 : F_15 (y + 15) = (0, 42, fun _ => .inl 0) := a_15
  have f0_15 : ∀ a, a < y → F_15 a = F a := fun a ha => (o_15 a (by omega) (by omega)).trans (f0_14 a ha)
  have t_15 : c_15 y 10 = 0 := by rw [u_15 y (by omega)]; exact t_14
  have s_15 : aq_sm (fun a => y ≤ a) c c_15 := fun a ha i => (u_15 a (by omega) i).trans (s_14 a ha i)
  have r_15 : c_15 y 9 = 2 := by rw [u_15 y (by omega)]; exact r_14
  have z3_15 : ∀ j, c_15 (y + 3) j = 0 := fun j => by rw [u_15 (y + 3) (by omega)]; exact z3_14 j
  have z6_15 : ∀ j, c_15 (y + 6) j = 0 := fun j => by rw [u_15 (y + 6) (by omega)]; exact z6_14 j
  refine am_E.go (t2 := (133, [vR y, vU, vU], [vR y], aq_h (y + 16) (s + 2515) F_15 c_15)) rfl rfl ?_
  refine am_E.go (t2 := (135, [vR y, vU, vU], [vI 42, vR y], aq_h (y + 16) (s + 2515) F_15 c_15)) rfl rfl ?_
  refine aq_step (o := y) (n := 42) rfl rfl hy_15 (by omega) (by decide) rfl (by decide) rfl (by decide) (fun F_16 c_16 hy_16 a_16 o_16 z_16 u_16 => ?_)
  show am_E _ (140, [vR y, vU, vU], [], aq_h (y + 17) (s + 2557) F_16 c_16) _
  have g1_16 : F_16 (y + 1) = (0, 992, fun _ => .inl 0) := by rw [o_16 (y + 1) (by omega) (by omega)]; exact g1_15
  have g2_16 : F_16 (y + 2) = (0, 124, fun _ => .inl 0) := by rw [o_16 (y + 2) (by omega) (by omega)]; exact g2_15
  have g3_16 : F_16 (y + 3) = (0, 124, fun _ => .inl 0) := by rw [o_16 (y + 3) (by omega) (by omega)]; exact g3_15
  have g4_16 : F_16 (y + 4) = (0, 124, fun _ => .inl 0) := by rw [o_16 (y + 4) (by omega) (by omega)]; exact g4_15
  have g5_16 : F_16 (y + 5) = (0, 8, fun _ => .inl 0) := by rw [o_16 (y + 5) (by omega) (by omega)]; exact g5_15
  have g6_16 : F_16 (y + 6) = (0, 8, fun _ => .inl 0) := by rw [o_16 (y + 6) (by omega) (by omega)]; exact g6_15
  have g7_16 : F_16 (y + 7) = (0, 320, fun _ => .inl 0) := by rw [o_16 (y + 7) (by omega) (by omega)]; exact g7_15
  have g8_16 : F_16 (y + 8) = (0, 320, fun _ => .inl 0) := by rw [o_16 (y + 8) (by omega) (by omega)]; exact g8_15
  have g9_16 : F_16 (y + 9) = (2, 320, fun _ => .inl 2) := by rw [o_16 (y + 9) (by omega) (by omega)]; exact g9_15
  have g10_16 : F_16 (y + 10) = (0, 8, fun _ => .inl 0) := by rw [o_16 (y + 10) (by omega) (by omega)]; exact g10_15
  have g11_16 : F_16 (y + 11) = (1, 8, fun _ => .inl 0) := by rw [o_16 (y + 11) (by omega) (by omega)]; exact g11_15
  have g12_16 : F_16 (y + 12) = (0, 8, fun _ => .inl 0) := by rw [o_16 (y + 12) (by omega) (by omega)]; exact g12_15
  have g13_16 : F_16 (y + 13) = (1, 4, fun _ => .inl 0) := by rw [o_16 (y + 13) (by omega) (by omega)]; exact g13_15
  have g14_16 : F_16 (y + 14) = (0, 105, fun _ => .inl 0) := by rw [o_16 (y + 14) (by omega) (by omega)]; exact g14_15
  have g15_16 : F_16 (y + 15) = (0, 42, fun _ => .inl 0) := by rw [o_16 (y + 15) (by omega) (by omega)]; exact g15_15
  have g16_16 : F_16 (y + 16) = (0, 42, fun _ => .inl 0) := a_16
  have f0_16 : ∀ a, a < y → F_16 a = F a := fun a ha => (o_16 a (by omega) (by omega)).trans (f0_15 a ha)
  have t_16 : c_16 y 10 = 0 := by rw [u_16 y (by omega)]; exact t_15
  have s_16 : aq_sm (fun a => y ≤ a) c c_16 := fun a ha i => (u_16 a (by omega) i).trans (s_15 a ha i)
  have r_16 : c_16 y 9 = 2 := by rw [u_16 y (by omega)]; exact r_15
  have z3_16 : ∀ j, c_16 (y + 3) j = 0 := fun j => by rw [u_16 (y + 3) (by omega)]; exact z3_15 j
  have z6_16 : ∀ j, c_16 (y + 6) j = 0 := fun j => by rw [u_16 (y + 6) (by omega)]; exact z6_15 j
  refine am_E.go (t2 := (141, [vR y, vU, vU], [vR y], aq_h (y + 17) (s + 2557) F_16 c_16)) rfl rfl ?_
  refine am_E.go (t2 := (143, [vR y, vU, vU], [vI 42, vR y], aq_h (y + 17) (s + 2557) F_16 c_16)) rfl rfl ?_
  refine aq_step (o := y) (n := 42) rfl rfl hy_16 (by omega) (by decide) rfl (by decide) rfl (by decide) (fun F_17 c_17 hy_17 a_17 o_17 z_17 u_17 => ?_)
  show am_E _ (148, [vR y, vU, vU], [], aq_h (y + 18) (s + 2599) F_17 c_17) _
  have g1_17 : F_17 (y + 1) = (0, 992, fun _ => .inl 0) := by rw [o_17 (y + 1) (by omega) (by omega)]; exact g1_16
  have g2_17 : F_17 (y + 2) = (0, 124, fun _ => .inl 0) := by rw [o_17 (y + 2) (by omega) (by omega)]; exact g2_16
  have g3_17 : F_17 (y + 3) = (0, 124, fun _ => .inl 0) := by rw [o_17 (y + 3) (by omega) (by omega)]; exact g3_16
  have g4_17 : F_17 (y + 4) = (0, 124, fun _ => .inl 0) := by rw [o_17 (y + 4) (by omega) (by omega)]; exact g4_16
  have g5_17 : F_17 (y + 5) = (0, 8, fun _ => .inl 0) := by rw [o_17 (y + 5) (by omega) (by omega)]; exact g5_16
  have g6_17 : F_17 (y + 6) = (0, 8, fun _ => .inl 0) := by rw [o_17 (y + 6) (by omega) (by omega)]; exact g6_16
  have g7_17 : F_17 (y + 7) = (0, 320, fun _ => .inl 0) := by rw [o_17 (y + 7) (by omega) (by omega)]; exact g7_16
  have g8_17 : F_17 (y + 8) = (0, 320, fun _ => .inl 0) := by rw [o_17 (y + 8) (by omega) (by omega)]; exact g8_16
  have g9_17 : F_17 (y + 9) = (2, 320, fun _ => .inl 2) := by rw [o_17 (y + 9) (by omega) (by omega)]; exact g9_16
  have g10_17 : F_17 (y + 10) = (0, 8, fun _ => .inl 0) := by rw [o_17 (y + 10) (by omega) (by omega)]; exact g10_16
  have g11_17 : F_17 (y + 11) = (1, 8, fun _ => .inl 0) := by rw [o_17 (y + 11) (by omega) (by omega)]; exact g11_16
  have g12_17 : F_17 (y + 12) = (0, 8, fun _ => .inl 0) := by rw [o_17 (y + 12) (by omega) (by omega)]; exact g12_16
  have g13_17 : F_17 (y + 13) = (1, 4, fun _ => .inl 0) := by rw [o_17 (y + 13) (by omega) (by omega)]; exact g13_16
  have g14_17 : F_17 (y + 14) = (0, 105, fun _ => .inl 0) := by rw [o_17 (y + 14) (by omega) (by omega)]; exact g14_16
  have g15_17 : F_17 (y + 15) = (0, 42, fun _ => .inl 0) := by rw [o_17 (y + 15) (by omega) (by omega)]; exact g15_16
  have g16_17 : F_17 (y + 16) = (0, 42, fun _ => .inl 0) := by rw [o_17 (y + 16) (by omega) (by omega)]; exact g16_16
  have g17_17 : F_17 (y + 17) = (2, 42, fun _ => .inl 2) := a_17
  have f0_17 : ∀ a, a < y → F_17 a = F a := fun a ha => (o_17 a (by omega) (by omega)).trans (f0_16 a ha)
  have t_17 : c_17 y 10 = 0 := by rw [u_17 y (by omega)]; exact t_16
  have s_17 : aq_sm (fun a => y ≤ a) c c_17 := fun a ha i => (u_17 a (by omega) i).trans (s_16 a ha i)
  have r_17 : c_17 y 9 = 2 := by rw [u_17 y (by omega)]; exact r_16
  have z3_17 : ∀ j, c_17 (y + 3) j = 0 := fun j => by rw [u_17 (y + 3) (by omega)]; exact z3_16 j
  have z6_17 : ∀ j, c_17 (y + 6) j = 0 := fun j => by rw [u_17 (y + 6) (by omega)]; exact z6_16 j
  refine am_E.go (t2 := (149, [vR y, vU, vU], [vR y], aq_h (y + 18) (s + 2599) F_17 c_17)) rfl rfl ?_
  refine am_E.go (t2 := (150, [vR y, vU, vU], [vI 4, vR y], aq_h (y + 18) (s + 2599) F_17 c_17)) rfl rfl ?_
  refine aq_step (o := y) (n := 4) rfl rfl hy_17 (by omega) (by decide) rfl (by decide) rfl (by decide) (fun F_18 c_18 hy_18 a_18 o_18 z_18 u_18 => ?_)
  show am_E _ (155, [vR y, vU, vU], [], aq_h (y + 19) (s + 2603) F_18 c_18) _
  have g1_18 : F_18 (y + 1) = (0, 992, fun _ => .inl 0) := by rw [o_18 (y + 1) (by omega) (by omega)]; exact g1_17
  have g2_18 : F_18 (y + 2) = (0, 124, fun _ => .inl 0) := by rw [o_18 (y + 2) (by omega) (by omega)]; exact g2_17
  have g3_18 : F_18 (y + 3) = (0, 124, fun _ => .inl 0) := by rw [o_18 (y + 3) (by omega) (by omega)]; exact g3_17
  have g4_18 : F_18 (y + 4) = (0, 124, fun _ => .inl 0) := by rw [o_18 (y + 4) (by omega) (by omega)]; exact g4_17
  have g5_18 : F_18 (y + 5) = (0, 8, fun _ => .inl 0) := by rw [o_18 (y + 5) (by omega) (by omega)]; exact g5_17
  have g6_18 : F_18 (y + 6) = (0, 8, fun _ => .inl 0) := by rw [o_18 (y + 6) (by omega) (by omega)]; exact g6_17
  have g7_18 : F_18 (y + 7) = (0, 320, fun _ => .inl 0) := by rw [o_18 (y + 7) (by omega) (by omega)]; exact g7_17
  have g8_18 : F_18 (y + 8) = (0, 320, fun _ => .inl 0) := by rw [o_18 (y + 8) (by omega) (by omega)]; exact g8_17
  have g9_18 : F_18 (y + 9) = (2, 320, fun _ => .inl 2) := by rw [o_18 (y + 9) (by omega) (by omega)]; exact g9_17
  have g10_18 : F_18 (y + 10) = (0, 8, fun _ => .inl 0) := by rw [o_18 (y + 10) (by omega) (by omega)]; exact g10_17
  have g11_18 : F_18 (y + 11) = (1, 8, fun _ => .inl 0) := by rw [o_18 (y + 11) (by omega) (by omega)]; exact g11_17
  have g12_18 : F_18 (y + 12) = (0, 8, fun _ => .inl 0) := by rw [o_18 (y + 12) (by omega) (by omega)]; exact g12_17
  have g13_18 : F_18 (y + 13) = (1, 4, fun _ => .inl 0) := by rw [o_18 (y + 13) (by omega) (by omega)]; exact g13_17
  have g14_18 : F_18 (y + 14) = (0, 105, fun _ => .inl 0) := by rw [o_18 (y + 14) (by omega) (by omega)]; exact g14_17
  have g15_18 : F_18 (y + 15) = (0, 42, fun _ => .inl 0) := by rw [o_18 (y + 15) (by omega) (by omega)]; exact g15_17
  have g16_18 : F_18 (y + 16) = (0, 42, fun _ => .inl 0) := by rw [o_18 (y + 16) (by omega) (by omega)]; exact g16_17
  have g17_18 : F_18 (y + 17) = (2, 42, fun _ => .inl 2) := by rw [o_18 (y + 17) (by omega) (by omega)]; exact g17_17
  have g18_18 : F_18 (y + 18) = (0, 4, fun _ => .inl 0) := a_18
  have f0_18 : ∀ a, a < y → F_18 a = F a := fun a ha => (o_18 a (by omega) (by omega)).trans (f0_17 a ha)
  have t_18 : c_18 y 10 = 0 := by rw [u_18 y (by omega)]; exact t_17
  have s_18 : aq_sm (fun a => y ≤ a) c c_18 := fun a ha i => (u_18 a (by omega) i).trans (s_17 a ha i)
  have r_18 : c_18 y 9 = 2 := by rw [u_18 y (by omega)]; exact r_17
  have z3_18 : ∀ j, c_18 (y + 3) j = 0 := fun j => by rw [u_18 (y + 3) (by omega)]; exact z3_17 j
  have z6_18 : ∀ j, c_18 (y + 6) j = 0 := fun j => by rw [u_18 (y + 6) (by omega)]; exact z6_17 j
  refine am_E.go (t2 := (156, [vR y, vU, vU], [vR y], aq_h (y + 19) (s + 2603) F_18 c_18)) rfl rfl ?_
  refine am_E.go (t2 := (157, [vR y, vU, vU], [vI 4, vR y], aq_h (y + 19) (s + 2603) F_18 c_18)) rfl rfl ?_
  refine aq_step (o := y) (n := 4) rfl rfl hy_18 (by omega) (by decide) rfl (by decide) rfl (by decide) (fun F_19 c_19 hy_19 a_19 o_19 z_19 u_19 => ?_)
  show am_E _ (162, [vR y, vU, vU], [], aq_h (y + 20) (s + 2607) F_19 c_19) _
  have g1_19 : F_19 (y + 1) = (0, 992, fun _ => .inl 0) := by rw [o_19 (y + 1) (by omega) (by omega)]; exact g1_18
  have g2_19 : F_19 (y + 2) = (0, 124, fun _ => .inl 0) := by rw [o_19 (y + 2) (by omega) (by omega)]; exact g2_18
  have g3_19 : F_19 (y + 3) = (0, 124, fun _ => .inl 0) := by rw [o_19 (y + 3) (by omega) (by omega)]; exact g3_18
  have g4_19 : F_19 (y + 4) = (0, 124, fun _ => .inl 0) := by rw [o_19 (y + 4) (by omega) (by omega)]; exact g4_18
  have g5_19 : F_19 (y + 5) = (0, 8, fun _ => .inl 0) := by rw [o_19 (y + 5) (by omega) (by omega)]; exact g5_18
  have g6_19 : F_19 (y + 6) = (0, 8, fun _ => .inl 0) := by rw [o_19 (y + 6) (by omega) (by omega)]; exact g6_18
  have g7_19 : F_19 (y + 7) = (0, 320, fun _ => .inl 0) := by rw [o_19 (y + 7) (by omega) (by omega)]; exact g7_18
  have g8_19 : F_19 (y + 8) = (0, 320, fun _ => .inl 0) := by rw [o_19 (y + 8) (by omega) (by omega)]; exact g8_18
  have g9_19 : F_19 (y + 9) = (2, 320, fun _ => .inl 2) := by rw [o_19 (y + 9) (by omega) (by omega)]; exact g9_18
  have g10_19 : F_19 (y + 10) = (0, 8, fun _ => .inl 0) := by rw [o_19 (y + 10) (by omega) (by omega)]; exact g10_18
  have g11_19 : F_19 (y + 11) = (1, 8, fun _ => .inl 0) := by rw [o_19 (y + 11) (by omega) (by omega)]; exact g11_18
  have g12_19 : F_19 (y + 12) = (0, 8, fun _ => .inl 0) := by rw [o_19 (y + 12) (by omega) (by omega)]; exact g12_18
  have g13_19 : F_19 (y + 13) = (1, 4, fun _ => .inl 0) := by rw [o_19 (y + 13) (by omega) (by omega)]; exact g13_18
  have g14_19 : F_19 (y + 14) = (0, 105, fun _ => .inl 0) := by rw [o_19 (y + 14) (by omega) (by omega)]; exact g14_18
  have g15_19 : F_19 (y + 15) = (0, 42, fun _ => .inl 0) := by rw [o_19 (y + 15) (by omega) (by omega)]; exact g15_18
  have g16_19 : F_19 (y + 16) = (0, 42, fun _ => .inl 0) := by rw [o_19 (y + 16) (by omega) (by omega)]; exact g16_18
  have g17_19 : F_19 (y + 17) = (2, 42, fun _ => .inl 2) := by rw [o_19 (y + 17) (by omega) (by omega)]; exact g17_18
  have g18_19 : F_19 (y + 18) = (0, 4, fun _ => .inl 0) := by rw [o_19 (y + 18) (by omega) (by omega)]; exact g18_18
  have g19_19 : F_19 (y + 19) = (0, 4, fun _ => .inl 0) := a_19
  have f0_19 : ∀ a, a < y → F_19 a = F a := fun a ha => (o_19 a (by omega) (by omega)).trans (f0_18 a ha)
  have t_19 : c_19 y 10 = 0 := by rw [u_19 y (by omega)]; exact t_18
  have s_19 : aq_sm (fun a => y ≤ a) c c_19 := fun a ha i => (u_19 a (by omega) i).trans (s_18 a ha i)
  have r_19 : c_19 y 9 = 2 := by rw [u_19 y (by omega)]; exact r_18
  have z3_19 : ∀ j, c_19 (y + 3) j = 0 := fun j => by rw [u_19 (y + 3) (by omega)]; exact z3_18 j
  have z6_19 : ∀ j, c_19 (y + 6) j = 0 := fun j => by rw [u_19 (y + 6) (by omega)]; exact z6_18 j
  refine am_E.go (t2 := (163, [vR y, vU, vU], [vR y], aq_h (y + 20) (s + 2607) F_19 c_19)) rfl rfl ?_
  refine am_E.go (t2 := (165, [vR y, vU, vU], [vI 36, vR y], aq_h (y + 20) (s + 2607) F_19 c_19)) rfl rfl ?_
  refine aq_step (o := y) (n := 36) rfl rfl hy_19 (by omega) (by decide) rfl (by decide) rfl (by decide) (fun F_20 c_20 hy_20 a_20 o_20 z_20 u_20 => ?_)
  show am_E _ (170, [vR y, vU, vU], [], aq_h (y + 21) (s + 2643) F_20 c_20) _
  have g1_20 : F_20 (y + 1) = (0, 992, fun _ => .inl 0) := by rw [o_20 (y + 1) (by omega) (by omega)]; exact g1_19
  have g2_20 : F_20 (y + 2) = (0, 124, fun _ => .inl 0) := by rw [o_20 (y + 2) (by omega) (by omega)]; exact g2_19
  have g3_20 : F_20 (y + 3) = (0, 124, fun _ => .inl 0) := by rw [o_20 (y + 3) (by omega) (by omega)]; exact g3_19
  have g4_20 : F_20 (y + 4) = (0, 124, fun _ => .inl 0) := by rw [o_20 (y + 4) (by omega) (by omega)]; exact g4_19
  have g5_20 : F_20 (y + 5) = (0, 8, fun _ => .inl 0) := by rw [o_20 (y + 5) (by omega) (by omega)]; exact g5_19
  have g6_20 : F_20 (y + 6) = (0, 8, fun _ => .inl 0) := by rw [o_20 (y + 6) (by omega) (by omega)]; exact g6_19
  have g7_20 : F_20 (y + 7) = (0, 320, fun _ => .inl 0) := by rw [o_20 (y + 7) (by omega) (by omega)]; exact g7_19
  have g8_20 : F_20 (y + 8) = (0, 320, fun _ => .inl 0) := by rw [o_20 (y + 8) (by omega) (by omega)]; exact g8_19
  have g9_20 : F_20 (y + 9) = (2, 320, fun _ => .inl 2) := by rw [o_20 (y + 9) (by omega) (by omega)]; exact g9_19
  have g10_20 : F_20 (y + 10) = (0, 8, fun _ => .inl 0) := by rw [o_20 (y + 10) (by omega) (by omega)]; exact g10_19
  have g11_20 : F_20 (y + 11) = (1, 8, fun _ => .inl 0) := by rw [o_20 (y + 11) (by omega) (by omega)]; exact g11_19
  have g12_20 : F_20 (y + 12) = (0, 8, fun _ => .inl 0) := by rw [o_20 (y + 12) (by omega) (by omega)]; exact g12_19
  have g13_20 : F_20 (y + 13) = (1, 4, fun _ => .inl 0) := by rw [o_20 (y + 13) (by omega) (by omega)]; exact g13_19
  have g14_20 : F_20 (y + 14) = (0, 105, fun _ => .inl 0) := by rw [o_20 (y + 14) (by omega) (by omega)]; exact g14_19
  have g15_20 : F_20 (y + 15) = (0, 42, fun _ => .inl 0) := by rw [o_20 (y + 15) (by omega) (by omega)]; exact g15_19
  have g16_20 : F_20 (y + 16) = (0, 42, fun _ => .inl 0) := by rw [o_20 (y + 16) (by omega) (by omega)]; exact g16_19
  have g17_20 : F_20 (y + 17) = (2, 42, fun _ => .inl 2) := by rw [o_20 (y + 17) (by omega) (by omega)]; exact g17_19
  have g18_20 : F_20 (y + 18) = (0, 4, fun _ => .inl 0) := by rw [o_20 (y + 18) (by omega) (by omega)]; exact g18_19
  have g19_20 : F_20 (y + 19) = (0, 4, fun _ => .inl 0) := by rw [o_20 (y + 19) (by omega) (by omega)]; exact g19_19
  have g20_20 : F_20 (y + 20) = (0, 36, fun _ => .inl 0) := a_20
  have f0_20 : ∀ a, a < y → F_20 a = F a := fun a ha => (o_20 a (by omega) (by omega)).trans (f0_19 a ha)
  have t_20 : c_20 y 10 = 0 := by rw [u_20 y (by omega)]; exact t_19
  have s_20 : aq_sm (fun a => y ≤ a) c c_20 := fun a ha i => (u_20 a (by omega) i).trans (s_19 a ha i)
  have r_20 : c_20 y 9 = 2 := by rw [u_20 y (by omega)]; exact r_19
  have z3_20 : ∀ j, c_20 (y + 3) j = 0 := fun j => by rw [u_20 (y + 3) (by omega)]; exact z3_19 j
  have z6_20 : ∀ j, c_20 (y + 6) j = 0 := fun j => by rw [u_20 (y + 6) (by omega)]; exact z6_19 j
  refine am_E.go (t2 := (171, [vR y, vU, vU], [vR y], aq_h (y + 21) (s + 2643) F_20 c_20)) rfl rfl ?_
  refine am_E.go (t2 := (174, [vR y, vU, vU], [vI 201, vR y], aq_h (y + 21) (s + 2643) F_20 c_20)) rfl rfl ?_
  refine aq_step (o := y) (n := 201) rfl rfl hy_20 (by omega) (by decide) rfl (by decide) rfl (by decide) (fun F_21 c_21 hy_21 a_21 o_21 z_21 u_21 => ?_)
  show am_E _ (179, [vR y, vU, vU], [], aq_h (y + 22) (s + 2844) F_21 c_21) _
  have g1_21 : F_21 (y + 1) = (0, 992, fun _ => .inl 0) := by rw [o_21 (y + 1) (by omega) (by omega)]; exact g1_20
  have g2_21 : F_21 (y + 2) = (0, 124, fun _ => .inl 0) := by rw [o_21 (y + 2) (by omega) (by omega)]; exact g2_20
  have g3_21 : F_21 (y + 3) = (0, 124, fun _ => .inl 0) := by rw [o_21 (y + 3) (by omega) (by omega)]; exact g3_20
  have g4_21 : F_21 (y + 4) = (0, 124, fun _ => .inl 0) := by rw [o_21 (y + 4) (by omega) (by omega)]; exact g4_20
  have g5_21 : F_21 (y + 5) = (0, 8, fun _ => .inl 0) := by rw [o_21 (y + 5) (by omega) (by omega)]; exact g5_20
  have g6_21 : F_21 (y + 6) = (0, 8, fun _ => .inl 0) := by rw [o_21 (y + 6) (by omega) (by omega)]; exact g6_20
  have g7_21 : F_21 (y + 7) = (0, 320, fun _ => .inl 0) := by rw [o_21 (y + 7) (by omega) (by omega)]; exact g7_20
  have g8_21 : F_21 (y + 8) = (0, 320, fun _ => .inl 0) := by rw [o_21 (y + 8) (by omega) (by omega)]; exact g8_20
  have g9_21 : F_21 (y + 9) = (2, 320, fun _ => .inl 2) := by rw [o_21 (y + 9) (by omega) (by omega)]; exact g9_20
  have g10_21 : F_21 (y + 10) = (0, 8, fun _ => .inl 0) := by rw [o_21 (y + 10) (by omega) (by omega)]; exact g10_20
  have g11_21 : F_21 (y + 11) = (1, 8, fun _ => .inl 0) := by rw [o_21 (y + 11) (by omega) (by omega)]; exact g11_20
  have g12_21 : F_21 (y + 12) = (0, 8, fun _ => .inl 0) := by rw [o_21 (y + 12) (by omega) (by omega)]; exact g12_20
  have g13_21 : F_21 (y + 13) = (1, 4, fun _ => .inl 0) := by rw [o_21 (y + 13) (by omega) (by omega)]; exact g13_20
  have g14_21 : F_21 (y + 14) = (0, 105, fun _ => .inl 0) := by rw [o_21 (y + 14) (by omega) (by omega)]; exact g14_20
  have g15_21 : F_21 (y + 15) = (0, 42, fun _ => .inl 0) := by rw [o_21 (y + 15) (by omega) (by omega)]; exact g15_20
  have g16_21 : F_21 (y + 16) = (0, 42, fun _ => .inl 0) := by rw [o_21 (y + 16) (by omega) (by omega)]; exact g16_20
  have g17_21 : F_21 (y + 17) = (2, 42, fun _ => .inl 2) := by rw [o_21 (y + 17) (by omega) (by omega)]; exact g17_20
  have g18_21 : F_21 (y + 18) = (0, 4, fun _ => .inl 0) := by rw [o_21 (y + 18) (by omega) (by omega)]; exact g18_20
  have g19_21 : F_21 (y + 19) = (0, 4, fun _ => .inl 0) := by rw [o_21 (y + 19) (by omega) (by omega)]; exact g19_20
  have g20_21 : F_21 (y + 20) = (0, 36, fun _ => .inl 0) := by rw [o_21 (y + 20) (by omega) (by omega)]; exact g20_20
  have g21_21 : F_21 (y + 21) = (0, 201, fun _ => .inl 0) := a_21
  have f0_21 : ∀ a, a < y → F_21 a = F a := fun a ha => (o_21 a (by omega) (by omega)).trans (f0_20 a ha)
  have t_21 : c_21 y 10 = 0 := by rw [u_21 y (by omega)]; exact t_20
  have s_21 : aq_sm (fun a => y ≤ a) c c_21 := fun a ha i => (u_21 a (by omega) i).trans (s_20 a ha i)
  have r_21 : c_21 y 9 = 2 := by rw [u_21 y (by omega)]; exact r_20
  have z3_21 : ∀ j, c_21 (y + 3) j = 0 := fun j => by rw [u_21 (y + 3) (by omega)]; exact z3_20 j
  have z6_21 : ∀ j, c_21 (y + 6) j = 0 := fun j => by rw [u_21 (y + 6) (by omega)]; exact z6_20 j
  refine am_E.go (t2 := (180, [vR y, vU, vU], [vR y], aq_h (y + 22) (s + 2844) F_21 c_21)) rfl rfl ?_
  refine am_E.go (t2 := (183, [vR y, vU, vU], [vI 201, vR y], aq_h (y + 22) (s + 2844) F_21 c_21)) rfl rfl ?_
  refine aq_step (o := y) (n := 201) rfl rfl hy_21 (by omega) (by decide) rfl (by decide) rfl (by decide) (fun F_22 c_22 hy_22 a_22 o_22 z_22 u_22 => ?_)
  show am_E _ (188, [vR y, vU, vU], [], aq_h (y + 23) (s + 3045) F_22 c_22) _
  have g1_22 : F_22 (y + 1) = (0, 992, fun _ => .inl 0) := by rw [o_22 (y + 1) (by omega) (by omega)]; exact g1_21
  have g2_22 : F_22 (y + 2) = (0, 124, fun _ => .inl 0) := by rw [o_22 (y + 2) (by omega) (by omega)]; exact g2_21
  have g3_22 : F_22 (y + 3) = (0, 124, fun _ => .inl 0) := by rw [o_22 (y + 3) (by omega) (by omega)]; exact g3_21
  have g4_22 : F_22 (y + 4) = (0, 124, fun _ => .inl 0) := by rw [o_22 (y + 4) (by omega) (by omega)]; exact g4_21
  have g5_22 : F_22 (y + 5) = (0, 8, fun _ => .inl 0) := by rw [o_22 (y + 5) (by omega) (by omega)]; exact g5_21
  have g6_22 : F_22 (y + 6) = (0, 8, fun _ => .inl 0) := by rw [o_22 (y + 6) (by omega) (by omega)]; exact g6_21
  have g7_22 : F_22 (y + 7) = (0, 320, fun _ => .inl 0) := by rw [o_22 (y + 7) (by omega) (by omega)]; exact g7_21
  have g8_22 : F_22 (y + 8) = (0, 320, fun _ => .inl 0) := by rw [o_22 (y + 8) (by omega) (by omega)]; exact g8_21
  have g9_22 : F_22 (y + 9) = (2, 320, fun _ => .inl 2) := by rw [o_22 (y + 9) (by omega) (by omega)]; exact g9_21
  have g10_22 : F_22 (y + 10) = (0, 8, fun _ => .inl 0) := by rw [o_22 (y + 10) (by omega) (by omega)]; exact g10_21
  have g11_22 : F_22 (y + 11) = (1, 8, fun _ => .inl 0) := by rw [o_22 (y + 11) (by omega) (by omega)]; exact g11_21
  have g12_22 : F_22 (y + 12) = (0, 8, fun _ => .inl 0) := by rw [o_22 (y + 12) (by omega) (by omega)]; exact g12_21
  have g13_22 : F_22 (y + 13) = (1, 4, fun _ => .inl 0) := by rw [o_22 (y + 13) (by omega) (by omega)]; exact g13_21
  have g14_22 : F_22 (y + 14) = (0, 105, fun _ => .inl 0) := by rw [o_22 (y + 14) (by omega) (by omega)]; exact g14_21
  have g15_22 : F_22 (y + 15) = (0, 42, fun _ => .inl 0) := by rw [o_22 (y + 15) (by omega) (by omega)]; exact g15_21
  have g16_22 : F_22 (y + 16) = (0, 42, fun _ => .inl 0) := by rw [o_22 (y + 16) (by omega) (by omega)]; exact g16_21
  have g17_22 : F_22 (y + 17) = (2, 42, fun _ => .inl 2) := by rw [o_22 (y + 17) (by omega) (by omega)]; exact g17_21
  have g18_22 : F_22 (y + 18) = (0, 4, fun _ => .inl 0) := by rw [o_22 (y + 18) (by omega) (by omega)]; exact g18_21
  have g19_22 : F_22 (y + 19) = (0, 4, fun _ => .inl 0) := by rw [o_22 (y + 19) (by omega) (by omega)]; exact g19_21
  have g20_22 : F_22 (y + 20) = (0, 36, fun _ => .inl 0) := by rw [o_22 (y + 20) (by omega) (by omega)]; exact g20_21
  have g21_22 : F_22 (y + 21) = (0, 201, fun _ => .inl 0) := by rw [o_22 (y + 21) (by omega) (by omega)]; exact g21_21
  have g22_22 : F_22 (y + 22) = (0, 201, fun _ => .inl 0) := a_22
  have f0_22 : ∀ a, a < y → F_22 a = F a := fun a ha => (o_22 a (by omega) (by omega)).trans (f0_21 a ha)
  have t_22 : c_22 y 10 = 0 := by rw [u_22 y (by omega)]; exact t_21
  have s_22 : aq_sm (fun a => y ≤ a) c c_22 := fun a ha i => (u_22 a (by omega) i).trans (s_21 a ha i)
  have r_22 : c_22 y 9 = 2 := by rw [u_22 y (by omega)]; exact r_21
  have z3_22 : ∀ j, c_22 (y + 3) j = 0 := fun j => by rw [u_22 (y + 3) (by omega)]; exact z3_21 j
  have z6_22 : ∀ j, c_22 (y + 6) j = 0 := fun j => by rw [u_22 (y + 6) (by omega)]; exact z6_21 j
  refine am_E.go (t2 := (189, [vR y, vU, vU], [vR y], aq_h (y + 23) (s + 3045) F_22 c_22)) rfl rfl ?_
  refine am_E.go (t2 := (192, [vR y, vU, vU], [vI 201, vR y], aq_h (y + 23) (s + 3045) F_22 c_22)) rfl rfl ?_
  refine aq_step (o := y) (n := 201) rfl rfl hy_22 (by omega) (by decide) rfl (by decide) rfl (by decide) (fun F_23 c_23 hy_23 a_23 o_23 z_23 u_23 => ?_)
  show am_E _ (197, [vR y, vU, vU], [], aq_h (y + 24) (s + 3246) F_23 c_23) _
  have g1_23 : F_23 (y + 1) = (0, 992, fun _ => .inl 0) := by rw [o_23 (y + 1) (by omega) (by omega)]; exact g1_22
  have g2_23 : F_23 (y + 2) = (0, 124, fun _ => .inl 0) := by rw [o_23 (y + 2) (by omega) (by omega)]; exact g2_22
  have g3_23 : F_23 (y + 3) = (0, 124, fun _ => .inl 0) := by rw [o_23 (y + 3) (by omega) (by omega)]; exact g3_22
  have g4_23 : F_23 (y + 4) = (0, 124, fun _ => .inl 0) := by rw [o_23 (y + 4) (by omega) (by omega)]; exact g4_22
  have g5_23 : F_23 (y + 5) = (0, 8, fun _ => .inl 0) := by rw [o_23 (y + 5) (by omega) (by omega)]; exact g5_22
  have g6_23 : F_23 (y + 6) = (0, 8, fun _ => .inl 0) := by rw [o_23 (y + 6) (by omega) (by omega)]; exact g6_22
  have g7_23 : F_23 (y + 7) = (0, 320, fun _ => .inl 0) := by rw [o_23 (y + 7) (by omega) (by omega)]; exact g7_22
  have g8_23 : F_23 (y + 8) = (0, 320, fun _ => .inl 0) := by rw [o_23 (y + 8) (by omega) (by omega)]; exact g8_22
  have g9_23 : F_23 (y + 9) = (2, 320, fun _ => .inl 2) := by rw [o_23 (y + 9) (by omega) (by omega)]; exact g9_22
  have g10_23 : F_23 (y + 10) = (0, 8, fun _ => .inl 0) := by rw [o_23 (y + 10) (by omega) (by omega)]; exact g10_22
  have g11_23 : F_23 (y + 11) = (1, 8, fun _ => .inl 0) := by rw [o_23 (y + 11) (by omega) (by omega)]; exact g11_22
  have g12_23 : F_23 (y + 12) = (0, 8, fun _ => .inl 0) := by rw [o_23 (y + 12) (by omega) (by omega)]; exact g12_22
  have g13_23 : F_23 (y + 13) = (1, 4, fun _ => .inl 0) := by rw [o_23 (y + 13) (by omega) (by omega)]; exact g13_22
  have g14_23 : F_23 (y + 14) = (0, 105, fun _ => .inl 0) := by rw [o_23 (y + 14) (by omega) (by omega)]; exact g14_22
  have g15_23 : F_23 (y + 15) = (0, 42, fun _ => .inl 0) := by rw [o_23 (y + 15) (by omega) (by omega)]; exact g15_22
  have g16_23 : F_23 (y + 16) = (0, 42, fun _ => .inl 0) := by rw [o_23 (y + 16) (by omega) (by omega)]; exact g16_22
  have g17_23 : F_23 (y + 17) = (2, 42, fun _ => .inl 2) := by rw [o_23 (y + 17) (by omega) (by omega)]; exact g17_22
  have g18_23 : F_23 (y + 18) = (0, 4, fun _ => .inl 0) := by rw [o_23 (y + 18) (by omega) (by omega)]; exact g18_22
  have g19_23 : F_23 (y + 19) = (0, 4, fun _ => .inl 0) := by rw [o_23 (y + 19) (by omega) (by omega)]; exact g19_22
  have g20_23 : F_23 (y + 20) = (0, 36, fun _ => .inl 0) := by rw [o_23 (y + 20) (by omega) (by omega)]; exact g20_22
  have g21_23 : F_23 (y + 21) = (0, 201, fun _ => .inl 0) := by rw [o_23 (y + 21) (by omega) (by omega)]; exact g21_22
  have g22_23 : F_23 (y + 22) = (0, 201, fun _ => .inl 0) := by rw [o_23 (y + 22) (by omega) (by omega)]; exact g22_22
  have g23_23 : F_23 (y + 23) = (0, 201, fun _ => .inl 0) := a_23
  have f0_23 : ∀ a, a < y → F_23 a = F a := fun a ha => (o_23 a (by omega) (by omega)).trans (f0_22 a ha)
  have t_23 : c_23 y 10 = 0 := by rw [u_23 y (by omega)]; exact t_22
  have s_23 : aq_sm (fun a => y ≤ a) c c_23 := fun a ha i => (u_23 a (by omega) i).trans (s_22 a ha i)
  have r_23 : c_23 y 9 = 2 := by rw [u_23 y (by omega)]; exact r_22
  have z3_23 : ∀ j, c_23 (y + 3) j = 0 := fun j => by rw [u_23 (y + 3) (by omega)]; exact z3_22 j
  have z6_23 : ∀ j, c_23 (y + 6) j = 0 := fun j => by rw [u_23 (y + 6) (by omega)]; exact z6_22 j
  have et : am_up (am_up (am_up (am_up (am_up (am_up (am_up (am_up (am_up (am_up (am_up (am_up (am_up (am_up (am_up (am_up (am_up (am_up (am_up (am_up (am_up (am_up (am_up (mo_t0) 0 (.inr (vR (y + 1)))) 1 (.inr (vR (y + 2)))) 2 (.inr (vR (y + 3)))) 3 (.inr (vR (y + 4)))) 4 (.inr (vR (y + 5)))) 5 (.inr (vR (y + 6)))) 6 (.inr (vR (y + 7)))) 7 (.inr (vR (y + 8)))) 8 (.inr (vR (y + 9)))) 11 (.inr (vR (y + 10)))) 12 (.inr (vR (y + 11)))) 13 (.inr (vR (y + 12)))) 14 (.inr (vR (y + 13)))) 16 (.inr (vR (y + 14)))) 18 (.inr (vR (y + 15)))) 19 (.inr (vR (y + 16)))) 20 (.inr (vR (y + 17)))) 21 (.inr (vR (y + 18)))) 22 (.inr (vR (y + 19)))) 23 (.inr (vR (y + 20)))) 24 (.inr (vR (y + 21)))) 25 (.inr (vR (y + 22)))) 26 (.inr (vR (y + 23))) = mo_t y := by
    funext k
    have hk : k = 0 ∨ k = 1 ∨ k = 2 ∨ k = 3 ∨ k = 4 ∨ k = 5 ∨ k = 6 ∨ k = 7 ∨ k = 8 ∨ k = 9 ∨ k = 10 ∨ k = 11 ∨ k = 12 ∨ k = 13 ∨ k = 14 ∨ k = 15 ∨ k = 16 ∨ k = 17 ∨ k = 18 ∨ k = 19 ∨ k = 20 ∨ k = 21 ∨ k = 22 ∨ k = 23 ∨ k = 24 ∨ k = 25 ∨ k = 26 ∨ 27 ≤ k := by omega
    rcases hk with hk | hk | hk | hk | hk | hk | hk | hk | hk | hk | hk | hk | hk | hk | hk | hk | hk | hk | hk | hk | hk | hk | hk | hk | hk | hk | hk | hk
    · subst hk; rfl
    · subst hk; rfl
    · subst hk; rfl
    · subst hk; rfl
    · subst hk; rfl
    · subst hk; rfl
    · subst hk; rfl
    · subst hk; rfl
    · subst hk; rfl
    · subst hk; rfl
    · subst hk; rfl
    · subst hk; rfl
    · subst hk; rfl
    · subst hk; rfl
    · subst hk; rfl
    · subst hk; rfl
    · subst hk; rfl
    · subst hk; rfl
    · subst hk; rfl
    · subst hk; rfl
    · subst hk; rfl
    · subst hk; rfl
    · subst hk; rfl
    · subst hk; rfl
    · subst hk; rfl
    · subst hk; rfl
    · subst hk; rfl
    · obtain ⟨j, rfl⟩ : ∃ j, k = j + 27 := ⟨k - 27, by omega⟩
      repeat rw [am_up_n (by omega)]
      rfl
  have hyy : F_23 y = (15, 27, mo_t y) := by rw [← et]; exact hy_23
  refine am_E.go (t2 := (198, [vR y, vU, vU], [vI 0], aq_h (y + 24) (s + 3246) F_23 c_23)) rfl rfl ?_
  refine am_E.go (t2 := (199, [vR y, vI 0, vU], [], aq_h (y + 24) (s + 3246) F_23 c_23)) rfl rfl ?_
  exact qm_ini_s ⟨Nat.le_refl _, hyy, g5_23, g6_23, g7_23, g8_23, g9_23, g10_23, g11_23, g12_23, g13_23, g14_23, g15_23, g16_23, g17_23, g18_23, g19_23, g20_23, g21_23, g22_23, g23_23⟩ f0_23 g1_23 g2_23 g3_23 g4_23 10 0 _ c_23 s_23 (by omega) (by omega) ⟨r_23, t_23⟩ (fun s5 k0 k1 => absurd k1 (by omega)) z6_23 z3_23 (by omega)
/-! Halves: methods of its constructor. Printed by wip/p20/sx/gHC.py. -/

/-- an object of Halves while it is made: size, left and partners are contents still -/
def hc_t (o n : Nat) : Nat → aq_T := fun y => match y with
  | 0 => .inr (vI (n : Int))
  | 1 => .inr (vR (o + 9))
  | 2 => .inr (vR (o + 1))
  | 3 => .inr (vR (o + 2))
  | 4 => .inr (vR (o + 16))
  | 5 => .inr (vR (o + 17))
  | _ => .inl 0
def hc_0 (m : Nat) (F : aq_F) (o n : Nat) : Prop := o + 18 ≤ m ∧ 1 ≤ n ∧ n ≤ 4 ∧ F o = (12, 7, hc_t o n) ∧ F (o + 1) = (0, 6, fun _ => .inl 0) ∧ F (o + 2) = (3, 6, fun j => aq_g 6 j (o + 3 + j)) ∧ (∀ j, j < 6 → F (o + 3 + j) = (0, 6, fun _ => .inl 0)) ∧ F (o + 9) = (3, 6, fun j => aq_g 6 j (o + 10 + j)) ∧ (∀ h, h < 6 → F (o + 10 + h) = (0, n, fun _ => .inl 0)) ∧ F (o + 16) = (0, n, fun _ => .inl 0) ∧ F (o + 17) = (1, n, fun _ => .inl 0)
/-- draft and partners lie in range, size too -/
def hc_I (o n : Nat) (c : aq_C) : Prop := aq_rg (o + 16) (n : Int) 0 ((n : Int) + 1) c ∧ (∀ h, h < 6 → aq_rg (o + 10 + h) (n : Int) 0 ((n : Int) + 1) c) ∧ 0 ≤ c o 6 ∧ c o 6 ≤ 6
theorem hc_u {o n a : Nat} {i x : Int} {c d : aq_C} (h : hc_I o n c) (he : aq_u c a i x = d) (h0 : 0 ≤ x) (h1 : x < (n : Int) + 1) (ha : a ≠ o) : hc_I o n d := by
  obtain ⟨k1, k2, k3, k4⟩ := h
  refine ⟨?_, fun h hh => ?_, ?_, ?_⟩
  · by_cases e : o + 16 = a
    · subst e
      exact aq_rgu k1 he h0 h1
    · exact aq_rgn k1 he e
  · by_cases e : o + 10 + h = a
    · subst e
      exact aq_rgu (k2 h hh) he h0 h1
    · exact aq_rgn (k2 h hh) he e
  · rw [← he, aq_un (Or.inl (Ne.symm ha))]; exact k3
  · rw [← he, aq_un (Or.inl (Ne.symm ha))]; exact k4
theorem hc_l {o n : Nat} {i x : Int} {c d : aq_C} (h : hc_I o n c) (he : aq_u c (o + 1) i x = d) : hc_I o n d := by
  obtain ⟨k1, k2, k3, k4⟩ := h
  refine ⟨aq_rgn k1 he (by omega), fun h hh => aq_rgn (k2 h hh) he (by omega), ?_, ?_⟩
  · rw [← he, aq_un (Or.inl (by omega))]; exact k3
  · rw [← he, aq_un (Or.inl (by omega))]; exact k4

theorem qc_keeps_l {m s : Nat} {F : aq_F} {c : aq_C} {o n : Nat} (hH : hc_0 m F o n) (hc : hc_I o n c) {p q : Int} (hp : 0 ≤ p) (hq : q ≤ (n : Int)) : ∀ (d : Nat) (r : Int) (h0 : 0 ≤ r) (hd : max 0 (q - r) < (d : Int)), am_E ac_X2_keepsWithin (4, [vR (o + 16), vI p, vI q, vI r], [], aq_h m s F c) (aq_P m s F c aq_vb)
  | 0, r, h0, hd => by exfalso; omega
  | d + 1, r, h0, hd => by
    obtain ⟨hm, hn1, hn4, hFo, hFl, hFg, hFt, hFp, hFq, hFd, hFs⟩ := hH
    refine am_E.go (t2 := (5, [vR (o + 16), vI p, vI q, vI r], [vI r], aq_h m s F c)) rfl rfl ?_
    refine am_E.go (t2 := (6, [vR (o + 16), vI p, vI q, vI r], [vI q, vI r], aq_h m s F c)) rfl rfl ?_
    refine ae_icmp rfl (fun (q_1 : q ≤ r) => ?_) (fun (q_1 : r < q) => ?_)
    · refine am_E.go (t2 := (32, [vR (o + 16), vI p, vI q, vI r], [vI 1], aq_h m s F c)) rfl rfl ?_
      refine am_E.ret rfl rfl ?_
      exact ⟨rfl, _, rfl, by omega⟩
    · refine am_E.go (t2 := (10, [vR (o + 16), vI p, vI q, vI r], [vR (o + 16)], aq_h m s F c)) rfl rfl ?_
      refine am_E.go (t2 := (11, [vR (o + 16), vI p, vI q, vI r], [vI r, vR (o + 16)], aq_h m s F c)) rfl rfl ?_
      refine aq_al (ok := fun k => k == 0) (v := vI (c (o + 16) r)) rfl rfl (by omega) hFd rfl (by omega) (by omega) rfl ?_
      show am_E _ (12, [vR (o + 16), vI p, vI q, vI r], [vI (c (o + 16) r)], aq_h m s F c) _
      have f_2 := (hc).1 r (by omega) (by omega)
      refine am_E.go (t2 := (13, [vR (o + 16), vI p, vI q, vI r], [vI p, vI (c (o + 16) r)], aq_h m s F c)) rfl rfl ?_
      refine ae_icmp rfl (fun (q_3 : (c (o + 16) r) ≤ p) => ?_) (fun (q_3 : p < (c (o + 16) r)) => ?_)
      · refine am_E.go (t2 := (24, [vR (o + 16), vI p, vI q, vI r], [vI 0], aq_h m s F c)) rfl rfl ?_
        refine am_E.ret rfl rfl ?_
        exact ⟨rfl, _, rfl, by omega⟩
      · refine am_E.go (t2 := (17, [vR (o + 16), vI p, vI q, vI r], [vR (o + 16)], aq_h m s F c)) rfl rfl ?_
        refine am_E.go (t2 := (18, [vR (o + 16), vI p, vI q, vI r], [vI r, vR (o + 16)], aq_h m s F c)) rfl rfl ?_
        refine aq_al (ok := fun k => k == 0) (v := vI (c (o + 16) r)) rfl rfl (by omega) hFd rfl (by omega) (by omega) rfl ?_
        show am_E _ (19, [vR (o + 16), vI p, vI q, vI r], [vI (c (o + 16) r)], aq_h m s F c) _
        have f_4 := (hc).1 r (by omega) (by omega)
        refine am_E.go (t2 := (20, [vR (o + 16), vI p, vI q, vI r], [vI q, vI (c (o + 16) r)], aq_h m s F c)) rfl rfl ?_
        refine ae_icmp rfl (fun (q_5 : (c (o + 16) r) < q) => ?_) (fun (q_5 : q ≤ (c (o + 16) r)) => ?_)
        · refine ae_iinc rfl rfl (am_ri (by omega) (by omega)) ?_
          show am_E _ (28, [vR (o + 16), vI p, vI q, vI (r + 1)], [], aq_h m s F c) _
          refine am_E.go (t2 := (4, [vR (o + 16), vI p, vI q, vI (r + 1)], [], aq_h m s F c)) rfl rfl ?_
          exact qc_keeps_l ⟨hm, hn1, hn4, hFo, hFl, hFg, hFt, hFp, hFq, hFd, hFs⟩ hc hp hq d (r + 1) (by omega) (by omega)
        · refine am_E.go (t2 := (24, [vR (o + 16), vI p, vI q, vI r], [vI 0], aq_h m s F c)) rfl rfl ?_
          refine am_E.ret rfl rfl ?_
          exact ⟨rfl, _, rfl, by omega⟩

theorem qc_keepsWithin {m s : Nat} {F : aq_F} {c : aq_C} {o n : Nat} (hH : hc_0 m F o n) (hc : hc_I o n c) {p q : Int} (hp : 0 ≤ p) (hp2 : p < (n : Int)) (hq : q ≤ (n : Int)) : am_E ac_X2_keepsWithin (0, [vR (o + 16), vI p, vI q, vU], [], aq_h m s F c) (aq_P m s F c aq_vb) := by
  obtain ⟨hm, hn1, hn4, hFo, hFl, hFg, hFt, hFp, hFq, hFd, hFs⟩ := hH
  refine am_E.go (t2 := (1, [vR (o + 16), vI p, vI q, vU], [vI p], aq_h m s F c)) rfl rfl ?_
  refine am_E.go (t2 := (2, [vR (o + 16), vI p, vI q, vU], [vI 1, vI p], aq_h m s F c)) rfl rfl ?_
  refine ae_add rfl (am_ri (by omega) (by omega)) ?_
  show am_E _ (3, [vR (o + 16), vI p, vI q, vU], [vI (p + 1)], aq_h m s F c) _
  refine am_E.go (t2 := (4, [vR (o + 16), vI p, vI q, vI (p + 1)], [], aq_h m s F c)) rfl rfl ?_
  exact qc_keeps_l ⟨hm, hn1, hn4, hFo, hFl, hFg, hFt, hFp, hFq, hFd, hFs⟩ hc hp hq 6 (p + 1) (by omega) (by omega)

theorem qc_isHalf_l {m s : Nat} {F : aq_F} {c : aq_C} {o n : Nat} (hH : hc_0 m F o n) (hc : hc_I o n c) : ∀ (d : Nat) (p : Int) (v3 : am_V) (h0 : 0 ≤ p) (h1 : p ≤ (n : Int)) (hd : (n : Int) - p < (d : Int)), am_E ac_X2_isHalf (2, [vR o, vR (o + 16), vI p, v3], [], aq_h m s F c) (aq_P m s F c aq_vb)
  | 0, p, v3, h0, h1, hd => by exfalso; omega
  | d + 1, p, v3, h0, h1, hd => by
    obtain ⟨hm, hn1, hn4, hFo, hFl, hFg, hFt, hFp, hFq, hFd, hFs⟩ := hH
    refine am_E.go (t2 := (3, [vR o, vR (o + 16), vI p, v3], [vI p], aq_h m s F c)) rfl rfl ?_
    refine am_E.go (t2 := (4, [vR o, vR (o + 16), vI p, v3], [vR o, vI p], aq_h m s F c)) rfl rfl ?_
    refine aq_gf (v := vI (n : Int)) rfl (by omega) hFo (by decide) rfl ?_
    show am_E _ (7, [vR o, vR (o + 16), vI p, v3], [vI (n : Int), vI p], aq_h m s F c) _
    refine ae_icmp rfl (fun (q_1 : (n : Int) ≤ p) => ?_) (fun (q_1 : p < (n : Int)) => ?_)
    · refine am_E.go (t2 := (62, [vR o, vR (o + 16), vI p, v3], [vI 1], aq_h m s F c)) rfl rfl ?_
      refine am_E.ret rfl rfl ?_
      exact ⟨rfl, _, rfl, by omega⟩
    · refine am_E.go (t2 := (11, [vR o, vR (o + 16), vI p, v3], [vR (o + 16)], aq_h m s F c)) rfl rfl ?_
      refine am_E.go (t2 := (12, [vR o, vR (o + 16), vI p, v3], [vI p, vR (o + 16)], aq_h m s F c)) rfl rfl ?_
      refine aq_al (ok := fun k => k == 0) (v := vI (c (o + 16) p)) rfl rfl (by omega) hFd rfl (by omega) (by omega) rfl ?_
      show am_E _ (13, [vR o, vR (o + 16), vI p, v3], [vI (c (o + 16) p)], aq_h m s F c) _
      have f_2 := (hc).1 p (by omega) (by omega)
      refine am_E.go (t2 := (14, [vR o, vR (o + 16), vI p, vI (c (o + 16) p)], [], aq_h m s F c)) rfl rfl ?_
      refine am_E.go (t2 := (15, [vR o, vR (o + 16), vI p, vI (c (o + 16) p)], [vI (c (o + 16) p)], aq_h m s F c)) rfl rfl ?_
      refine am_E.go (t2 := (16, [vR o, vR (o + 16), vI p, vI (c (o + 16) p)], [vR o, vI (c (o + 16) p)], aq_h m s F c)) rfl rfl ?_
      refine aq_gf (v := vI (n : Int)) rfl (by omega) hFo (by decide) rfl ?_
      show am_E _ (19, [vR o, vR (o + 16), vI p, vI (c (o + 16) p)], [vI (n : Int), vI (c (o + 16) p)], aq_h m s F c) _
      refine ae_icmp rfl (fun (q_3 : (n : Int) ≤ (c (o + 16) p)) => ?_) (fun (q_3 : (c (o + 16) p) < (n : Int)) => ?_)
      · refine am_E.go (t2 := (37, [vR o, vR (o + 16), vI p, vI (c (o + 16) p)], [vI (c (o + 16) p)], aq_h m s F c)) rfl rfl ?_
        refine am_E.go (t2 := (38, [vR o, vR (o + 16), vI p, vI (c (o + 16) p)], [vR o, vI (c (o + 16) p)], aq_h m s F c)) rfl rfl ?_
        refine aq_gf (v := vI (n : Int)) rfl (by omega) hFo (by decide) rfl ?_
        show am_E _ (41, [vR o, vR (o + 16), vI p, vI (c (o + 16) p)], [vI (n : Int), vI (c (o + 16) p)], aq_h m s F c) _
        refine ae_icmp rfl (fun (q_4 : (n : Int) ≤ (c (o + 16) p)) => ?_) (fun (q_4 : (c (o + 16) p) < (n : Int)) => ?_)
        · refine ae_iinc rfl rfl (am_ri (by omega) (by omega)) ?_
          show am_E _ (58, [vR o, vR (o + 16), vI (p + 1), vI (c (o + 16) p)], [], aq_h m s F c) _
          refine am_E.go (t2 := (2, [vR o, vR (o + 16), vI (p + 1), vI (c (o + 16) p)], [], aq_h m s F c)) rfl rfl ?_
          exact qc_isHalf_l ⟨hm, hn1, hn4, hFo, hFl, hFg, hFt, hFp, hFq, hFd, hFs⟩ hc d (p + 1) (vI (c (o + 16) p)) (by omega) (by omega) (by omega)
        · refine am_E.go (t2 := (45, [vR o, vR (o + 16), vI p, vI (c (o + 16) p)], [vR (o + 16)], aq_h m s F c)) rfl rfl ?_
          refine am_E.go (t2 := (46, [vR o, vR (o + 16), vI p, vI (c (o + 16) p)], [vI p, vR (o + 16)], aq_h m s F c)) rfl rfl ?_
          refine am_E.go (t2 := (47, [vR o, vR (o + 16), vI p, vI (c (o + 16) p)], [vI (c (o + 16) p), vI p, vR (o + 16)], aq_h m s F c)) rfl rfl ?_
          refine am_E.call rfl rfl rfl (Nat.le_of_ble_eq_true rfl) (qc_keepsWithin ⟨hm, hn1, hn4, hFo, hFl, hFg, hFt, hFp, hFq, hFd, hFs⟩ hc (by omega) (by omega) (by omega)) ?_
          rintro r5 h5 ⟨rfl, v_5, rfl, hv_5⟩
          show am_E _ (50, [vR o, vR (o + 16), vI p, vI (c (o + 16) p)], [vI v_5], aq_h m s F c) _
          refine ae_if0 rfl (fun (q_6 : v_5 ≠ 0) => ?_) (fun (q_6 : v_5 = 0) => ?_)
          · refine ae_iinc rfl rfl (am_ri (by omega) (by omega)) ?_
            show am_E _ (58, [vR o, vR (o + 16), vI (p + 1), vI (c (o + 16) p)], [], aq_h m s F c) _
            refine am_E.go (t2 := (2, [vR o, vR (o + 16), vI (p + 1), vI (c (o + 16) p)], [], aq_h m s F c)) rfl rfl ?_
            exact qc_isHalf_l ⟨hm, hn1, hn4, hFo, hFl, hFg, hFt, hFp, hFq, hFd, hFs⟩ hc d (p + 1) (vI (c (o + 16) p)) (by omega) (by omega) (by omega)
          · refine am_E.go (t2 := (54, [vR o, vR (o + 16), vI p, vI (c (o + 16) p)], [vI 0], aq_h m s F c)) rfl rfl ?_
            refine am_E.ret rfl rfl ?_
            exact ⟨rfl, _, rfl, by omega⟩
      · refine am_E.go (t2 := (23, [vR o, vR (o + 16), vI p, vI (c (o + 16) p)], [vI (c (o + 16) p)], aq_h m s F c)) rfl rfl ?_
        refine am_E.go (t2 := (24, [vR o, vR (o + 16), vI p, vI (c (o + 16) p)], [vI p, vI (c (o + 16) p)], aq_h m s F c)) rfl rfl ?_
        refine ae_icmp rfl (fun (q_7 : (c (o + 16) p) = p) => ?_) (fun (q_7 : (c (o + 16) p) ≠ p) => ?_)
        · refine am_E.go (t2 := (35, [vR o, vR (o + 16), vI p, vI (c (o + 16) p)], [vI 0], aq_h m s F c)) rfl rfl ?_
          refine am_E.ret rfl rfl ?_
          exact ⟨rfl, _, rfl, by omega⟩
        · refine am_E.go (t2 := (28, [vR o, vR (o + 16), vI p, vI (c (o + 16) p)], [vR (o + 16)], aq_h m s F c)) rfl rfl ?_
          refine am_E.go (t2 := (29, [vR o, vR (o + 16), vI p, vI (c (o + 16) p)], [vI (c (o + 16) p), vR (o + 16)], aq_h m s F c)) rfl rfl ?_
          refine aq_al (ok := fun k => k == 0) (v := vI (c (o + 16) (c (o + 16) p))) rfl rfl (by omega) hFd rfl (by omega) (by omega) rfl ?_
          show am_E _ (30, [vR o, vR (o + 16), vI p, vI (c (o + 16) p)], [vI (c (o + 16) (c (o + 16) p))], aq_h m s F c) _
          have f_8 := (hc).1 (c (o + 16) p) (by omega) (by omega)
          refine am_E.go (t2 := (31, [vR o, vR (o + 16), vI p, vI (c (o + 16) p)], [vI p, vI (c (o + 16) (c (o + 16) p))], aq_h m s F c)) rfl rfl ?_
          refine ae_icmp rfl (fun (q_9 : (c (o + 16) (c (o + 16) p)) = p) => ?_) (fun (q_9 : (c (o + 16) (c (o + 16) p)) ≠ p) => ?_)
          · refine am_E.go (t2 := (37, [vR o, vR (o + 16), vI p, vI (c (o + 16) p)], [vI (c (o + 16) p)], aq_h m s F c)) rfl rfl ?_
            refine am_E.go (t2 := (38, [vR o, vR (o + 16), vI p, vI (c (o + 16) p)], [vR o, vI (c (o + 16) p)], aq_h m s F c)) rfl rfl ?_
            refine aq_gf (v := vI (n : Int)) rfl (by omega) hFo (by decide) rfl ?_
            show am_E _ (41, [vR o, vR (o + 16), vI p, vI (c (o + 16) p)], [vI (n : Int), vI (c (o + 16) p)], aq_h m s F c) _
            refine ae_icmp rfl (fun (q_10 : (n : Int) ≤ (c (o + 16) p)) => ?_) (fun (q_10 : (c (o + 16) p) < (n : Int)) => ?_)
            · refine ae_iinc rfl rfl (am_ri (by omega) (by omega)) ?_
              show am_E _ (58, [vR o, vR (o + 16), vI (p + 1), vI (c (o + 16) p)], [], aq_h m s F c) _
              refine am_E.go (t2 := (2, [vR o, vR (o + 16), vI (p + 1), vI (c (o + 16) p)], [], aq_h m s F c)) rfl rfl ?_
              exact qc_isHalf_l ⟨hm, hn1, hn4, hFo, hFl, hFg, hFt, hFp, hFq, hFd, hFs⟩ hc d (p + 1) (vI (c (o + 16) p)) (by omega) (by omega) (by omega)
            · refine am_E.go (t2 := (45, [vR o, vR (o + 16), vI p, vI (c (o + 16) p)], [vR (o + 16)], aq_h m s F c)) rfl rfl ?_
              refine am_E.go (t2 := (46, [vR o, vR (o + 16), vI p, vI (c (o + 16) p)], [vI p, vR (o + 16)], aq_h m s F c)) rfl rfl ?_
              refine am_E.go (t2 := (47, [vR o, vR (o + 16), vI p, vI (c (o + 16) p)], [vI (c (o + 16) p), vI p, vR (o + 16)], aq_h m s F c)) rfl rfl ?_
              refine am_E.call rfl rfl rfl (Nat.le_of_ble_eq_true rfl) (qc_keepsWithin ⟨hm, hn1, hn4, hFo, hFl, hFg, hFt, hFp, hFq, hFd, hFs⟩ hc (by omega) (by omega) (by omega)) ?_
              rintro r5 h5 ⟨rfl, v_11, rfl, hv_11⟩
              show am_E _ (50, [vR o, vR (o + 16), vI p, vI (c (o + 16) p)], [vI v_11], aq_h m s F c) _
              refine ae_if0 rfl (fun (q_12 : v_11 ≠ 0) => ?_) (fun (q_12 : v_11 = 0) => ?_)
              · refine ae_iinc rfl rfl (am_ri (by omega) (by omega)) ?_
                show am_E _ (58, [vR o, vR (o + 16), vI (p + 1), vI (c (o + 16) p)], [], aq_h m s F c) _
                refine am_E.go (t2 := (2, [vR o, vR (o + 16), vI (p + 1), vI (c (o + 16) p)], [], aq_h m s F c)) rfl rfl ?_
                exact qc_isHalf_l ⟨hm, hn1, hn4, hFo, hFl, hFg, hFt, hFp, hFq, hFd, hFs⟩ hc d (p + 1) (vI (c (o + 16) p)) (by omega) (by omega) (by omega)
              · refine am_E.go (t2 := (54, [vR o, vR (o + 16), vI p, vI (c (o + 16) p)], [vI 0], aq_h m s F c)) rfl rfl ?_
                refine am_E.ret rfl rfl ?_
                exact ⟨rfl, _, rfl, by omega⟩
          · refine am_E.go (t2 := (35, [vR o, vR (o + 16), vI p, vI (c (o + 16) p)], [vI 0], aq_h m s F c)) rfl rfl ?_
            refine am_E.ret rfl rfl ?_
            exact ⟨rfl, _, rfl, by omega⟩

theorem qc_isHalf {m s : Nat} {F : aq_F} {c : aq_C} {o n : Nat} (hH : hc_0 m F o n) (hc : hc_I o n c) : am_E ac_X2_isHalf (0, [vR o, vR (o + 16), vU, vU], [], aq_h m s F c) (aq_P m s F c aq_vb) := by
  obtain ⟨hm, hn1, hn4, hFo, hFl, hFg, hFt, hFp, hFq, hFd, hFs⟩ := hH
  refine am_E.go (t2 := (1, [vR o, vR (o + 16), vU, vU], [vI 0], aq_h m s F c)) rfl rfl ?_
  refine am_E.go (t2 := (2, [vR o, vR (o + 16), vI 0, vU], [], aq_h m s F c)) rfl rfl ?_
  exact qc_isHalf_l ⟨hm, hn1, hn4, hFo, hFl, hFg, hFt, hFp, hFq, hFd, hFs⟩ hc 6 0 (vU) (by omega) (by omega) (by omega)

theorem qc_nextDraft_l {m s : Nat} {F : aq_F} {c0 : aq_C} {o n : Nat} (hH : hc_0 m F o n) : ∀ (d : Nat) (p : Int) (c : aq_C) (hs : aq_sm (fun a => o ≤ a ∧ a < o + 18) c0 c) (h0 : -1 ≤ p) (h1 : p < (n : Int)) (hc : hc_I o n c) (hd : p + 1 < (d : Int)), am_E ac_X2_nextDraft (7, [vR o, vI p], [], aq_h m s F c) (aq_Z m s F (fun a => o ≤ a ∧ a < o + 18) c0 (fun r d => r = none ∧ hc_I o n d))
  | 0, p, c, hs, h0, h1, hc, hd => by exfalso; omega
  | d + 1, p, c, hs, h0, h1, hc, hd => by
    obtain ⟨hm, hn1, hn4, hFo, hFl, hFg, hFt, hFp, hFq, hFd, hFs⟩ := hH
    refine am_E.go (t2 := (8, [vR o, vI p], [vI p], aq_h m s F c)) rfl rfl ?_
    refine ae_if0 rfl (fun (q_1 : p < 0) => ?_) (fun (q_1 : 0 ≤ p) => ?_)
    · refine am_E.go (t2 := (38, [vR o, vI p], [vI p], aq_h m s F c)) rfl rfl ?_
      refine ae_if0 rfl (fun (q_2 : p < 0) => ?_) (fun (q_2 : 0 ≤ p) => ?_)
      · refine am_E.ret rfl rfl ?_
        exact ⟨_, rfl, hs, rfl, hc⟩
      · refine am_E.go (t2 := (42, [vR o, vI p], [vR o], aq_h m s F c)) rfl rfl ?_
        refine aq_gf (v := vR (o + 16)) rfl (by omega) hFo (by decide) rfl ?_
        show am_E _ (45, [vR o, vI p], [vR (o + 16)], aq_h m s F c) _
        refine am_E.go (t2 := (46, [vR o, vI p], [vI p, vR (o + 16)], aq_h m s F c)) rfl rfl ?_
        refine am_E.go (t2 := (47, [vR o, vI p], [vI p, vR (o + 16), vI p, vR (o + 16)], aq_h m s F c)) rfl rfl ?_
        refine aq_al (ok := fun k => k == 0) (v := vI (c (o + 16) p)) rfl rfl (by omega) hFd rfl (by omega) (by omega) rfl ?_
        show am_E _ (48, [vR o, vI p], [vI (c (o + 16) p), vI p, vR (o + 16)], aq_h m s F c) _
        have f_3 := (hc).1 p (by omega) (by omega)
        refine am_E.go (t2 := (49, [vR o, vI p], [vI 1, vI (c (o + 16) p), vI p, vR (o + 16)], aq_h m s F c)) rfl rfl ?_
        refine ae_add rfl (am_ri (by omega) (by omega)) ?_
        show am_E _ (50, [vR o, vI p], [vI ((c (o + 16) p) + 1), vI p, vR (o + 16)], aq_h m s F c) _
        refine aq_as (kd := 0) rfl rfl (by omega) hFd (by omega) (by omega) rfl rfl ?_
        show am_E _ (51, [vR o, vI p], [], aq_h m s F (aq_u c (o + 16) p ((c (o + 16) p) + 1))) _
        generalize hdc_4 : aq_u c (o + 16) p ((c (o + 16) p) + 1) = c_4
        have sc_4 := aq_smu hs hdc_4 (by omega)
        have hhcc_4 := hc_u hc hdc_4 (by omega) (by omega) (by omega)
        refine am_E.ret rfl rfl ?_
        exact ⟨_, rfl, sc_4, rfl, hhcc_4⟩
    · refine am_E.go (t2 := (12, [vR o, vI p], [vR o], aq_h m s F c)) rfl rfl ?_
      refine aq_gf (v := vR (o + 16)) rfl (by omega) hFo (by decide) rfl ?_
      show am_E _ (15, [vR o, vI p], [vR (o + 16)], aq_h m s F c) _
      refine am_E.go (t2 := (16, [vR o, vI p], [vI p, vR (o + 16)], aq_h m s F c)) rfl rfl ?_
      refine aq_al (ok := fun k => k == 0) (v := vI (c (o + 16) p)) rfl rfl (by omega) hFd rfl (by omega) (by omega) rfl ?_
      show am_E _ (17, [vR o, vI p], [vI (c (o + 16) p)], aq_h m s F c) _
      have f_5 := (hc).1 p (by omega) (by omega)
      refine am_E.go (t2 := (18, [vR o, vI p], [vR o, vI (c (o + 16) p)], aq_h m s F c)) rfl rfl ?_
      refine aq_gf (v := vI (n : Int)) rfl (by omega) hFo (by decide) rfl ?_
      show am_E _ (21, [vR o, vI p], [vI (n : Int), vI (c (o + 16) p)], aq_h m s F c) _
      refine ae_icmp rfl (fun (q_6 : (c (o + 16) p) ≠ (n : Int)) => ?_) (fun (q_6 : (c (o + 16) p) = (n : Int)) => ?_)
      · refine am_E.go (t2 := (38, [vR o, vI p], [vI p], aq_h m s F c)) rfl rfl ?_
        refine ae_if0 rfl (fun (q_7 : p < 0) => ?_) (fun (q_7 : 0 ≤ p) => ?_)
        · refine am_E.ret rfl rfl ?_
          exact ⟨_, rfl, hs, rfl, hc⟩
        · refine am_E.go (t2 := (42, [vR o, vI p], [vR o], aq_h m s F c)) rfl rfl ?_
          refine aq_gf (v := vR (o + 16)) rfl (by omega) hFo (by decide) rfl ?_
          show am_E _ (45, [vR o, vI p], [vR (o + 16)], aq_h m s F c) _
          refine am_E.go (t2 := (46, [vR o, vI p], [vI p, vR (o + 16)], aq_h m s F c)) rfl rfl ?_
          refine am_E.go (t2 := (47, [vR o, vI p], [vI p, vR (o + 16), vI p, vR (o + 16)], aq_h m s F c)) rfl rfl ?_
          refine aq_al (ok := fun k => k == 0) (v := vI (c (o + 16) p)) rfl rfl (by omega) hFd rfl (by omega) (by omega) rfl ?_
          show am_E _ (48, [vR o, vI p], [vI (c (o + 16) p), vI p, vR (o + 16)], aq_h m s F c) _
          have f_8 := (hc).1 p (by omega) (by omega)
          refine am_E.go (t2 := (49, [vR o, vI p], [vI 1, vI (c (o + 16) p), vI p, vR (o + 16)], aq_h m s F c)) rfl rfl ?_
          refine ae_add rfl (am_ri (by omega) (by omega)) ?_
          show am_E _ (50, [vR o, vI p], [vI ((c (o + 16) p) + 1), vI p, vR (o + 16)], aq_h m s F c) _
          refine aq_as (kd := 0) rfl rfl (by omega) hFd (by omega) (by omega) rfl rfl ?_
          show am_E _ (51, [vR o, vI p], [], aq_h m s F (aq_u c (o + 16) p ((c (o + 16) p) + 1))) _
          generalize hdc_9 : aq_u c (o + 16) p ((c (o + 16) p) + 1) = c_9
          have sc_9 := aq_smu hs hdc_9 (by omega)
          have hhcc_9 := hc_u hc hdc_9 (by omega) (by omega) (by omega)
          refine am_E.ret rfl rfl ?_
          exact ⟨_, rfl, sc_9, rfl, hhcc_9⟩
      · refine am_E.go (t2 := (25, [vR o, vI p], [vR o], aq_h m s F c)) rfl rfl ?_
        refine aq_gf (v := vR (o + 16)) rfl (by omega) hFo (by decide) rfl ?_
        show am_E _ (28, [vR o, vI p], [vR (o + 16)], aq_h m s F c) _
        refine am_E.go (t2 := (29, [vR o, vI p], [vI p, vR (o + 16)], aq_h m s F c)) rfl rfl ?_
        refine am_E.go (t2 := (30, [vR o, vI p], [vI 0, vI p, vR (o + 16)], aq_h m s F c)) rfl rfl ?_
        refine aq_as (kd := 0) rfl rfl (by omega) hFd (by omega) (by omega) rfl rfl ?_
        show am_E _ (31, [vR o, vI p], [], aq_h m s F (aq_u c (o + 16) p 0)) _
        generalize hdc_10 : aq_u c (o + 16) p 0 = c_10
        have sc_10 := aq_smu hs hdc_10 (by omega)
        have hhcc_10 := hc_u hc hdc_10 (by omega) (by omega) (by omega)
        refine ae_iinc rfl rfl (am_ri (by omega) (by omega)) ?_
        show am_E _ (34, [vR o, vI (p + (-1))], [], aq_h m s F c_10) _
        refine am_E.go (t2 := (7, [vR o, vI (p + (-1))], [], aq_h m s F c_10)) rfl rfl ?_
        exact qc_nextDraft_l ⟨hm, hn1, hn4, hFo, hFl, hFg, hFt, hFp, hFq, hFd, hFs⟩ d (p + (-1)) c_10 sc_10 (by omega) (by omega) hhcc_10 (by omega)

theorem qc_nextDraft {m s : Nat} {F : aq_F} {c : aq_C} {o n : Nat} (hH : hc_0 m F o n) (hc : hc_I o n c) : am_E ac_X2_nextDraft (0, [vR o, vU], [], aq_h m s F c) (aq_Z m s F (fun a => o ≤ a ∧ a < o + 18) c (fun r d => r = none ∧ hc_I o n d)) := by
  obtain ⟨hm, hn1, hn4, hFo, hFl, hFg, hFt, hFp, hFq, hFd, hFs⟩ := hH
  refine am_E.go (t2 := (1, [vR o, vU], [vR o], aq_h m s F c)) rfl rfl ?_
  refine aq_gf (v := vI (n : Int)) rfl (by omega) hFo (by decide) rfl ?_
  show am_E _ (4, [vR o, vU], [vI (n : Int)], aq_h m s F c) _
  refine am_E.go (t2 := (5, [vR o, vU], [vI 1, vI (n : Int)], aq_h m s F c)) rfl rfl ?_
  refine ae_sub rfl (am_ri (by omega) (by omega)) ?_
  show am_E _ (6, [vR o, vU], [vI ((n : Int) - 1)], aq_h m s F c) _
  refine am_E.go (t2 := (7, [vR o, vI ((n : Int) - 1)], [], aq_h m s F c)) rfl rfl ?_
  exact qc_nextDraft_l ⟨hm, hn1, hn4, hFo, hFl, hFg, hFt, hFp, hFq, hFd, hFs⟩ 6 ((n : Int) - 1) c (aq_sm0 (c := c) (S := (fun a => o ≤ a ∧ a < o + 18))) (by omega) (by omega) hc (by omega)
/-! numberOf gives a pairing its place in the list. -/
theorem nu_1 : ∀ b : Nat, b < 1 → nu_o (prt 1 b) (2 * 1) 9 0 0 (2 * 1 - 1) = b := by decide +kernel
theorem nu_2 : ∀ b : Nat, b < 3 → nu_o (prt 2 b) (2 * 2) 9 0 0 (2 * 2 - 1) = b := by decide +kernel
theorem nu_3 : ∀ b : Nat, b < 15 → nu_o (prt 3 b) (2 * 3) 9 0 0 (2 * 3 - 1) = b := by decide +kernel
theorem nu_4 : ∀ b : Nat, b < 105 → nu_o (prt 4 b) (2 * 4) 9 0 0 (2 * 4 - 1) = b := by decide +kernel
theorem nu_b {n b : Int} (h1 : 1 ≤ n) (h4 : n ≤ 4) (h0 : 0 ≤ b) (hb : b < bx_K n) : nu_o (prt n b) (2 * n) 9 0 0 (2 * n - 1) = b := by
  have h : n = 1 ∨ n = 2 ∨ n = 3 ∨ n = 4 := by omega
  have eb : ((b.toNat : Nat) : Int) = b := Int.toNat_of_nonneg h0
  rcases h with h | h | h | h <;> subst h
  · have hk : bx_K 1 = 1 := rfl
    have := nu_1 b.toNat (by omega)
    rw [eb] at this
    exact this
  · have hk : bx_K 2 = 3 := rfl
    have := nu_2 b.toNat (by omega)
    rw [eb] at this
    exact this
  · have hk : bx_K 3 = 15 := rfl
    have := nu_3 b.toNat (by omega)
    rw [eb] at this
    exact this
  · have hk : bx_K 4 = 105 := rfl
    have := nu_4 b.toNat (by omega)
    rw [eb] at this
    exact this
theorem nu_fi {n : Int} {f : Int → Int} (h1 : 1 ≤ n) (h4 : n ≤ 4) (hf : fi n f) : 0 ≤ nu_o f (2 * n) 9 0 0 (2 * n - 1) ∧ nu_o f (2 * n) 9 0 0 (2 * n - 1) < bx_K n := by
  obtain ⟨b, b0, b1, b2⟩ := pr_c h1 h4 hf
  have e := nu_oc (N := 2 * n) b2 (fun i k0 k1 => by have := pr_fi h1 h4 b0 b1 i k0 k1; omega) 9 0 0 (2 * n - 1) (by omega)
  rw [← e, nu_b h1 h4 b0 b1]
  exact ⟨b0, b1⟩
theorem ldr_le {n : Int} {f g : Int → Int} : ∀ (d k : Nat) (u : Bool) (p : Int), exd n f g d u p → ldr n f g (d + k) u p = ldr n f g d u p
  | 0, k, u, p, h => h.elim
  | d + 1, k, true, p, h => by
    rw [show d + 1 + k = (d + k) + 1 by omega, ldr, ldr]
    by_cases e : n ≤ f p
    · rw [if_pos e, if_pos e, ldr_le d k false _ (h e)]
    · rw [if_neg e, if_neg e]
  | d + 1, k, false, p, h => by
    rw [show d + 1 + k = (d + k) + 1 by omega, ldr, ldr]
    by_cases e : g p < n
    · rw [if_pos e, if_pos e, ldr_le d k true _ (h e)]
    · rw [if_neg e, if_neg e]
/-- one strand: two steps are enough -/
theorem ld_ex1 {f g : Int → Int} (hf : fi 1 f) (hg : fi 1 g) {p : Int} (h0 : 0 ≤ p) (h1 : p < 2) : exd 1 f g 3 (decide (p < 1)) p := by
  have a := hf 0 (by omega) (by omega)
  have b := hf 1 (by omega) (by omega)
  have c := hg 0 (by omega) (by omega)
  have d := hg 1 (by omega) (by omega)
  have e : p = 0 ∨ p = 1 := by omega
  rcases e with e | e <;> subst e
  · intro k1
    intro k2
    have e1 : f 0 = 1 := by omega
    rw [e1] at k2
    exfalso
    have : (1 : Int) - 1 = 0 := rfl
    rw [this] at k2
    omega
  · intro k1
    intro k2
    have e1 : g 1 = 0 := by omega
    rw [e1] at k2
    exfalso
    have : (1 : Int) + 0 = 1 := rfl
    rw [this] at k2
    omega
/-! Boxes: methods of its constructor. Printed by wip/p20/sx/gBC.py. -/

theorem qb_close_i {m s : Nat} {F : aq_F} {c0 : aq_C} {S : Nat → Prop} {o n K : Nat} (hB : bx_0 m F o n K) (hSs : S (o + 7 + 3 * K)) {tP : Int → Int → Int} (hP : bx_p F o n K tP) {x : Int} (hx0 : 0 ≤ x) (hxK : x < (K : Int)) : ∀ (d : Nat) (f : Int) (p : Int) (a : Int) (k : Int) (c : aq_C) (hs : aq_sm S c0 c) (h0 : 0 ≤ a) (h1 : a < 2 * (n : Int)) (h2 : 0 ≤ k) (h3 : k ≤ 2 * (n : Int)) (hd : 2 * (n : Int) - k < (d : Int)) (K0 : ∀ (a2 : Int) (k2 : Int) (c2 : aq_C) (hs2 : aq_sm S c0 c2), am_E ac_X0_closeRings (89, [vR o, vR (o + 2 + x.toNat), vI f, vI p, vI a2, vI k2], [], aq_h m s F c2) (aq_Z m s F S c0 (fun r _ => ∃ v, r = some (vI v) ∧ 0 ≤ v ∧ v ≤ 8))), am_E ac_X0_closeRings (34, [vR o, vR (o + 2 + x.toNat), vI f, vI p, vI a, vI k], [], aq_h m s F c) (aq_Z m s F S c0 (fun r _ => ∃ v, r = some (vI v) ∧ 0 ≤ v ∧ v ≤ 8))
  | 0, f, p, a, k, c, hs, h0, h1, h2, h3, hd, K0 => by exfalso; omega
  | d + 1, f, p, a, k, c, hs, h0, h1, h2, h3, hd, K0 => by
    obtain ⟨hm, hn1, hn4, hK, hFo, hFd, hFs⟩ := hB
    obtain ⟨hPg, hPr, hPt⟩ := hP
    refine am_E.go (t2 := (36, [vR o, vR (o + 2 + x.toNat), vI f, vI p, vI a, vI k], [vI k], aq_h m s F c)) rfl rfl ?_
    refine am_E.go (t2 := (37, [vR o, vR (o + 2 + x.toNat), vI f, vI p, vI a, vI k], [vR o, vI k], aq_h m s F c)) rfl rfl ?_
    refine aq_gf (v := vI (2 * (n : Int))) rfl (by omega) hFo (by decide) rfl ?_
    show am_E _ (40, [vR o, vR (o + 2 + x.toNat), vI f, vI p, vI a, vI k], [vI (2 * (n : Int)), vI k], aq_h m s F c) _
    refine ae_icmp rfl (fun (q_1 : (2 * (n : Int)) ≤ k) => ?_) (fun (q_1 : k < (2 * (n : Int))) => ?_)
    · exact K0 a k c hs
    · refine am_E.go (t2 := (44, [vR o, vR (o + 2 + x.toNat), vI f, vI p, vI a, vI k], [vR o], aq_h m s F c)) rfl rfl ?_
      refine aq_gf (v := vR (o + 7 + 3 * K)) rfl (by omega) hFo (by decide) rfl ?_
      show am_E _ (47, [vR o, vR (o + 2 + x.toNat), vI f, vI p, vI a, vI k], [vR (o + 7 + 3 * K)], aq_h m s F c) _
      refine am_E.go (t2 := (49, [vR o, vR (o + 2 + x.toNat), vI f, vI p, vI a, vI k], [vI a, vR (o + 7 + 3 * K)], aq_h m s F c)) rfl rfl ?_
      refine aq_al (ok := fun k => k == 1) (v := vI (c (o + 7 + 3 * K) a)) rfl rfl (by omega) hFs rfl (by omega) (by omega) rfl ?_
      show am_E _ (50, [vR o, vR (o + 2 + x.toNat), vI f, vI p, vI a, vI k], [vI (c (o + 7 + 3 * K) a)], aq_h m s F c) _
      refine ae_if0 rfl (fun (q_2 : (c (o + 7 + 3 * K) a) ≠ 0) => ?_) (fun (q_2 : (c (o + 7 + 3 * K) a) = 0) => ?_)
      · exact K0 a k c hs
      · refine am_E.go (t2 := (54, [vR o, vR (o + 2 + x.toNat), vI f, vI p, vI a, vI k], [vR o], aq_h m s F c)) rfl rfl ?_
        refine aq_gf (v := vR (o + 7 + 3 * K)) rfl (by omega) hFo (by decide) rfl ?_
        show am_E _ (57, [vR o, vR (o + 2 + x.toNat), vI f, vI p, vI a, vI k], [vR (o + 7 + 3 * K)], aq_h m s F c) _
        refine am_E.go (t2 := (59, [vR o, vR (o + 2 + x.toNat), vI f, vI p, vI a, vI k], [vI a, vR (o + 7 + 3 * K)], aq_h m s F c)) rfl rfl ?_
        refine am_E.go (t2 := (60, [vR o, vR (o + 2 + x.toNat), vI f, vI p, vI a, vI k], [vI 1, vI a, vR (o + 7 + 3 * K)], aq_h m s F c)) rfl rfl ?_
        refine aq_as (kd := 1) rfl rfl (by omega) hFs (by omega) (by omega) rfl rfl ?_
        show am_E _ (61, [vR o, vR (o + 2 + x.toNat), vI f, vI p, vI a, vI k], [], aq_h m s F (aq_u c (o + 7 + 3 * K) a 1)) _
        generalize hdc_3 : aq_u c (o + 7 + 3 * K) a 1 = c_3
        have sc_3 := aq_smu hs hdc_3 hSs
        refine am_E.go (t2 := (62, [vR o, vR (o + 2 + x.toNat), vI f, vI p, vI a, vI k], [vR (o + 2 + x.toNat)], aq_h m s F c_3)) rfl rfl ?_
        refine am_E.go (t2 := (64, [vR o, vR (o + 2 + x.toNat), vI f, vI p, vI a, vI k], [vI a, vR (o + 2 + x.toNat)], aq_h m s F c_3)) rfl rfl ?_
        refine aq_alt (ok := fun k => k == 0) rfl rfl (by omega) (hPr _ (by omega)) rfl (by omega) (by omega) ?_
        show am_E _ (65, [vR o, vR (o + 2 + x.toNat), vI f, vI p, vI a, vI k], [vI (tP ((x.toNat : Nat) : Int) a)], aq_h m s F c_3) _
        have f_4 := hPt ((x.toNat : Nat) : Int) a (by omega) (by omega) (by omega) (by omega)
        refine am_E.go (t2 := (67, [vR o, vR (o + 2 + x.toNat), vI f, vI p, vI (tP ((x.toNat : Nat) : Int) a), vI k], [], aq_h m s F c_3)) rfl rfl ?_
        refine am_E.go (t2 := (68, [vR o, vR (o + 2 + x.toNat), vI f, vI p, vI (tP ((x.toNat : Nat) : Int) a), vI k], [vR o], aq_h m s F c_3)) rfl rfl ?_
        refine aq_gf (v := vR (o + 7 + 3 * K)) rfl (by omega) hFo (by decide) rfl ?_
        show am_E _ (71, [vR o, vR (o + 2 + x.toNat), vI f, vI p, vI (tP ((x.toNat : Nat) : Int) a), vI k], [vR (o + 7 + 3 * K)], aq_h m s F c_3) _
        refine am_E.go (t2 := (73, [vR o, vR (o + 2 + x.toNat), vI f, vI p, vI (tP ((x.toNat : Nat) : Int) a), vI k], [vI (tP ((x.toNat : Nat) : Int) a), vR (o + 7 + 3 * K)], aq_h m s F c_3)) rfl rfl ?_
        refine am_E.go (t2 := (74, [vR o, vR (o + 2 + x.toNat), vI f, vI p, vI (tP ((x.toNat : Nat) : Int) a), vI k], [vI 1, vI (tP ((x.toNat : Nat) : Int) a), vR (o + 7 + 3 * K)], aq_h m s F c_3)) rfl rfl ?_
        refine aq_as (kd := 1) rfl rfl (by omega) hFs (by omega) (by omega) rfl rfl ?_
        show am_E _ (75, [vR o, vR (o + 2 + x.toNat), vI f, vI p, vI (tP ((x.toNat : Nat) : Int) a), vI k], [], aq_h m s F (aq_u c_3 (o + 7 + 3 * K) (tP ((x.toNat : Nat) : Int) a) 1)) _
        generalize hdc_5 : aq_u c_3 (o + 7 + 3 * K) (tP ((x.toNat : Nat) : Int) a) 1 = c_5
        have sc_5 := aq_smu sc_3 hdc_5 hSs
        refine am_E.go (t2 := (76, [vR o, vR (o + 2 + x.toNat), vI f, vI p, vI (tP ((x.toNat : Nat) : Int) a), vI k], [vR o], aq_h m s F c_5)) rfl rfl ?_
        refine am_E.go (t2 := (78, [vR o, vR (o + 2 + x.toNat), vI f, vI p, vI (tP ((x.toNat : Nat) : Int) a), vI k], [vI (tP ((x.toNat : Nat) : Int) a), vR o], aq_h m s F c_5)) rfl rfl ?_
        refine aq_callv (y := 2) (as2 := [vI (tP ((x.toNat : Nat) : Int) a)]) (rest := []) rfl rfl (by decide) (Nat.le_of_ble_eq_true rfl) rfl rfl (Nat.le_of_ble_eq_true rfl) (by omega) hFo rfl (Nat.le_of_ble_eq_true rfl) (qn_X0_across ⟨hm, hn1, hn4, hK, hFo, hFd, hFs⟩ (by omega) (by omega)) ?_
        rintro r5 h5 ⟨rfl, v_6, rfl, hv_6⟩
        show am_E _ (81, [vR o, vR (o + 2 + x.toNat), vI f, vI p, vI (tP ((x.toNat : Nat) : Int) a), vI k], [vI v_6], aq_h m s F c_5) _
        refine am_E.go (t2 := (83, [vR o, vR (o + 2 + x.toNat), vI f, vI p, vI v_6, vI k], [], aq_h m s F c_5)) rfl rfl ?_
        refine ae_iinc rfl rfl (am_ri (by omega) (by omega)) ?_
        show am_E _ (86, [vR o, vR (o + 2 + x.toNat), vI f, vI p, vI v_6, vI (k + 1)], [], aq_h m s F c_5) _
        refine am_E.go (t2 := (34, [vR o, vR (o + 2 + x.toNat), vI f, vI p, vI v_6, vI (k + 1)], [], aq_h m s F c_5)) rfl rfl ?_
        exact qb_close_i ⟨hm, hn1, hn4, hK, hFo, hFd, hFs⟩ hSs ⟨hPg, hPr, hPt⟩ hx0 hxK d f p v_6 (k + 1) c_5 sc_5 (by omega) (by omega) (by omega) (by omega) (by omega) K0

theorem qb_close_o {m s : Nat} {F : aq_F} {c0 : aq_C} {S : Nat → Prop} {o n K : Nat} (hB : bx_0 m F o n K) (hSs : S (o + 7 + 3 * K)) {tP : Int → Int → Int} (hP : bx_p F o n K tP) {x : Int} (hx0 : 0 ≤ x) (hxK : x < (K : Int)) : ∀ (d : Nat) (f : Int) (p : Int) (v4 : am_V) (v5 : am_V) (c : aq_C) (hs : aq_sm S c0 c) (h0 : 0 ≤ p) (h1 : p ≤ 2 * (n : Int)) (h2 : 0 ≤ f) (h3 : f ≤ p) (hd : 2 * (n : Int) - p < (d : Int)), am_E ac_X0_closeRings (8, [vR o, vR (o + 2 + x.toNat), vI f, vI p, v4, v5], [], aq_h m s F c) (aq_Z m s F S c0 (fun r _ => ∃ v, r = some (vI v) ∧ 0 ≤ v ∧ v ≤ 8))
  | 0, f, p, v4, v5, c, hs, h0, h1, h2, h3, hd => by exfalso; omega
  | d + 1, f, p, v4, v5, c, hs, h0, h1, h2, h3, hd => by
    obtain ⟨hm, hn1, hn4, hK, hFo, hFd, hFs⟩ := hB
    obtain ⟨hPg, hPr, hPt⟩ := hP
    refine am_E.go (t2 := (9, [vR o, vR (o + 2 + x.toNat), vI f, vI p, v4, v5], [vI p], aq_h m s F c)) rfl rfl ?_
    refine am_E.go (t2 := (10, [vR o, vR (o + 2 + x.toNat), vI f, vI p, v4, v5], [vR o, vI p], aq_h m s F c)) rfl rfl ?_
    refine aq_gf (v := vI (2 * (n : Int))) rfl (by omega) hFo (by decide) rfl ?_
    show am_E _ (13, [vR o, vR (o + 2 + x.toNat), vI f, vI p, v4, v5], [vI (2 * (n : Int)), vI p], aq_h m s F c) _
    refine ae_icmp rfl (fun (q_1 : (2 * (n : Int)) ≤ p) => ?_) (fun (q_1 : p < (2 * (n : Int))) => ?_)
    · refine am_E.go (t2 := (96, [vR o, vR (o + 2 + x.toNat), vI f, vI p, v4, v5], [vI f], aq_h m s F c)) rfl rfl ?_
      refine am_E.ret rfl rfl ?_
      exact ⟨_, rfl, hs, _, rfl, by omega, by omega⟩
    · refine am_E.go (t2 := (17, [vR o, vR (o + 2 + x.toNat), vI f, vI p, v4, v5], [vR o], aq_h m s F c)) rfl rfl ?_
      refine aq_gf (v := vR (o + 7 + 3 * K)) rfl (by omega) hFo (by decide) rfl ?_
      show am_E _ (20, [vR o, vR (o + 2 + x.toNat), vI f, vI p, v4, v5], [vR (o + 7 + 3 * K)], aq_h m s F c) _
      refine am_E.go (t2 := (21, [vR o, vR (o + 2 + x.toNat), vI f, vI p, v4, v5], [vI p, vR (o + 7 + 3 * K)], aq_h m s F c)) rfl rfl ?_
      refine aq_al (ok := fun k => k == 1) (v := vI (c (o + 7 + 3 * K) p)) rfl rfl (by omega) hFs rfl (by omega) (by omega) rfl ?_
      show am_E _ (22, [vR o, vR (o + 2 + x.toNat), vI f, vI p, v4, v5], [vI (c (o + 7 + 3 * K) p)], aq_h m s F c) _
      refine ae_if0 rfl (fun (q_2 : (c (o + 7 + 3 * K) p) ≠ 0) => ?_) (fun (q_2 : (c (o + 7 + 3 * K) p) = 0) => ?_)
      · refine ae_iinc rfl rfl (am_ri (by omega) (by omega)) ?_
        show am_E _ (92, [vR o, vR (o + 2 + x.toNat), vI f, vI (p + 1), v4, v5], [], aq_h m s F c) _
        refine am_E.go (t2 := (8, [vR o, vR (o + 2 + x.toNat), vI f, vI (p + 1), v4, v5], [], aq_h m s F c)) rfl rfl ?_
        exact qb_close_o ⟨hm, hn1, hn4, hK, hFo, hFd, hFs⟩ hSs ⟨hPg, hPr, hPt⟩ hx0 hxK d f (p + 1) (v4) (v5) c hs (by omega) (by omega) (by omega) (by omega) (by omega)
      · refine ae_iinc rfl rfl (am_ri (by omega) (by omega)) ?_
        show am_E _ (28, [vR o, vR (o + 2 + x.toNat), vI (f + 1), vI p, v4, v5], [], aq_h m s F c) _
        refine am_E.go (t2 := (29, [vR o, vR (o + 2 + x.toNat), vI (f + 1), vI p, v4, v5], [vI p], aq_h m s F c)) rfl rfl ?_
        refine am_E.go (t2 := (31, [vR o, vR (o + 2 + x.toNat), vI (f + 1), vI p, vI p, v5], [], aq_h m s F c)) rfl rfl ?_
        refine am_E.go (t2 := (32, [vR o, vR (o + 2 + x.toNat), vI (f + 1), vI p, vI p, v5], [vI 0], aq_h m s F c)) rfl rfl ?_
        refine am_E.go (t2 := (34, [vR o, vR (o + 2 + x.toNat), vI (f + 1), vI p, vI p, vI 0], [], aq_h m s F c)) rfl rfl ?_
        refine qb_close_i ⟨hm, hn1, hn4, hK, hFo, hFd, hFs⟩ hSs ⟨hPg, hPr, hPt⟩ hx0 hxK 9 (f + 1) p p 0 c hs (by omega) (by omega) (by omega) (by omega) (by omega) ?_
        · intro a2_34 k2_34 c_3 sc_3
          refine ae_iinc rfl rfl (am_ri (by omega) (by omega)) ?_
          show am_E _ (92, [vR o, vR (o + 2 + x.toNat), vI (f + 1), vI (p + 1), vI a2_34, vI k2_34], [], aq_h m s F c_3) _
          refine am_E.go (t2 := (8, [vR o, vR (o + 2 + x.toNat), vI (f + 1), vI (p + 1), vI a2_34, vI k2_34], [], aq_h m s F c_3)) rfl rfl ?_
          exact qb_close_o ⟨hm, hn1, hn4, hK, hFo, hFd, hFs⟩ hSs ⟨hPg, hPr, hPt⟩ hx0 hxK d (f + 1) (p + 1) (vI a2_34) (vI k2_34) c_3 sc_3 (by omega) (by omega) (by omega) (by omega) (by omega)

theorem qb_closeRings {m s : Nat} {F : aq_F} {c : aq_C} {S : Nat → Prop} {o n K : Nat} (hB : bx_0 m F o n K) (hSs : S (o + 7 + 3 * K)) {tP : Int → Int → Int} (hP : bx_p F o n K tP) {x : Int} (hx0 : 0 ≤ x) (hxK : x < (K : Int)) : am_E ac_X0_closeRings (0, [vR o, vR (o + 2 + x.toNat), vU, vU, vU, vU], [], aq_h m s F c) (aq_Z m s F S c (fun r _ => ∃ v, r = some (vI v) ∧ 0 ≤ v ∧ v ≤ 8)) := by
  obtain ⟨hm, hn1, hn4, hK, hFo, hFd, hFs⟩ := hB
  obtain ⟨hPg, hPr, hPt⟩ := hP
  refine am_E.go (t2 := (1, [vR o, vR (o + 2 + x.toNat), vU, vU, vU, vU], [vR o], aq_h m s F c)) rfl rfl ?_
  refine aq_callv (y := 1) (as2 := []) (rest := []) rfl rfl (by decide) (Nat.le_of_ble_eq_true rfl) rfl rfl (Nat.le_of_ble_eq_true rfl) (by omega) hFo rfl (Nat.le_of_ble_eq_true rfl) (qn_X0_forgetSeen ⟨hm, hn1, hn4, hK, hFo, hFd, hFs⟩) ?_
  rintro r5 h5 ⟨c_1, rfl, sc_1, rfl, hzc_1⟩
  show am_E _ (4, [vR o, vR (o + 2 + x.toNat), vU, vU, vU, vU], [], aq_h m s F c_1) _
  refine am_E.go (t2 := (5, [vR o, vR (o + 2 + x.toNat), vU, vU, vU, vU], [vI 0], aq_h m s F c_1)) rfl rfl ?_
  refine am_E.go (t2 := (6, [vR o, vR (o + 2 + x.toNat), vI 0, vU, vU, vU], [], aq_h m s F c_1)) rfl rfl ?_
  refine am_E.go (t2 := (7, [vR o, vR (o + 2 + x.toNat), vI 0, vU, vU, vU], [vI 0], aq_h m s F c_1)) rfl rfl ?_
  refine am_E.go (t2 := (8, [vR o, vR (o + 2 + x.toNat), vI 0, vI 0, vU, vU], [], aq_h m s F c_1)) rfl rfl ?_
  exact qb_close_o ⟨hm, hn1, hn4, hK, hFo, hFd, hFs⟩ hSs ⟨hPg, hPr, hPt⟩ hx0 hxK 9 0 0 (vU) (vU) c_1 (aq_smt aq_sm0 (aq_smi sc_1 (fun a h => by rw [h]; exact hSs))) (by omega) (by omega) (by omega) (by omega) (by omega)

theorem qb_inner_i {m s : Nat} {F : aq_F} {c0 : aq_C} {S : Nat → Prop} {o n K : Nat} (hB : bx_0 m F o n K) (hSs : S (o + 7 + 3 * K)) {tP : Int → Int → Int} (hP : bx_p F o n K tP) {x : Int} (hx0 : 0 ≤ x) (hxK : x < (K : Int)) {y : Int} (hy0 : 0 ≤ y) (hyK : y < (K : Int)) : ∀ (d : Nat) (f : Int) (m2 : Int) (a : Int) (k : Int) (c : aq_C) (hs : aq_sm S c0 c) (h0 : 0 ≤ a) (h1 : a < 2 * (n : Int)) (h2 : 0 ≤ k) (h3 : k ≤ (n : Int)) (hd : (n : Int) - k < (d : Int)) (K0 : ∀ (a2 : Int) (k2 : Int) (c2 : aq_C) (hs2 : aq_sm S c0 c2), am_E ac_X0_countInnerRings (95, [vR o, vR (o + 2 + x.toNat), vR (o + 2 + y.toNat), vI f, vI m2, vI a2, vI k2], [], aq_h m s F c2) (aq_Z m s F S c0 (fun r _ => ∃ v, r = some (vI v) ∧ 0 ≤ v ∧ v ≤ (n : Int)))), am_E ac_X0_countInnerRings (34, [vR o, vR (o + 2 + x.toNat), vR (o + 2 + y.toNat), vI f, vI m2, vI a, vI k], [], aq_h m s F c) (aq_Z m s F S c0 (fun r _ => ∃ v, r = some (vI v) ∧ 0 ≤ v ∧ v ≤ (n : Int)))
  | 0, f, m2, a, k, c, hs, h0, h1, h2, h3, hd, K0 => by exfalso; omega
  | d + 1, f, m2, a, k, c, hs, h0, h1, h2, h3, hd, K0 => by
    obtain ⟨hm, hn1, hn4, hK, hFo, hFd, hFs⟩ := hB
    obtain ⟨hPg, hPr, hPt⟩ := hP
    refine am_E.go (t2 := (36, [vR o, vR (o + 2 + x.toNat), vR (o + 2 + y.toNat), vI f, vI m2, vI a, vI k], [vI k], aq_h m s F c)) rfl rfl ?_
    refine am_E.go (t2 := (37, [vR o, vR (o + 2 + x.toNat), vR (o + 2 + y.toNat), vI f, vI m2, vI a, vI k], [vR o, vI k], aq_h m s F c)) rfl rfl ?_
    refine aq_gf (v := vI (n : Int)) rfl (by omega) hFo (by decide) rfl ?_
    show am_E _ (40, [vR o, vR (o + 2 + x.toNat), vR (o + 2 + y.toNat), vI f, vI m2, vI a, vI k], [vI (n : Int), vI k], aq_h m s F c) _
    refine ae_icmp rfl (fun (q_1 : (n : Int) ≤ k) => ?_) (fun (q_1 : k < (n : Int)) => ?_)
    · exact K0 a k c hs
    · refine am_E.go (t2 := (44, [vR o, vR (o + 2 + x.toNat), vR (o + 2 + y.toNat), vI f, vI m2, vI a, vI k], [vR o], aq_h m s F c)) rfl rfl ?_
      refine aq_gf (v := vR (o + 7 + 3 * K)) rfl (by omega) hFo (by decide) rfl ?_
      show am_E _ (47, [vR o, vR (o + 2 + x.toNat), vR (o + 2 + y.toNat), vI f, vI m2, vI a, vI k], [vR (o + 7 + 3 * K)], aq_h m s F c) _
      refine am_E.go (t2 := (49, [vR o, vR (o + 2 + x.toNat), vR (o + 2 + y.toNat), vI f, vI m2, vI a, vI k], [vI a, vR (o + 7 + 3 * K)], aq_h m s F c)) rfl rfl ?_
      refine aq_al (ok := fun k => k == 1) (v := vI (c (o + 7 + 3 * K) a)) rfl rfl (by omega) hFs rfl (by omega) (by omega) rfl ?_
      show am_E _ (50, [vR o, vR (o + 2 + x.toNat), vR (o + 2 + y.toNat), vI f, vI m2, vI a, vI k], [vI (c (o + 7 + 3 * K) a)], aq_h m s F c) _
      refine ae_if0 rfl (fun (q_2 : (c (o + 7 + 3 * K) a) ≠ 0) => ?_) (fun (q_2 : (c (o + 7 + 3 * K) a) = 0) => ?_)
      · exact K0 a k c hs
      · refine am_E.go (t2 := (54, [vR o, vR (o + 2 + x.toNat), vR (o + 2 + y.toNat), vI f, vI m2, vI a, vI k], [vR o], aq_h m s F c)) rfl rfl ?_
        refine aq_gf (v := vR (o + 7 + 3 * K)) rfl (by omega) hFo (by decide) rfl ?_
        show am_E _ (57, [vR o, vR (o + 2 + x.toNat), vR (o + 2 + y.toNat), vI f, vI m2, vI a, vI k], [vR (o + 7 + 3 * K)], aq_h m s F c) _
        refine am_E.go (t2 := (59, [vR o, vR (o + 2 + x.toNat), vR (o + 2 + y.toNat), vI f, vI m2, vI a, vI k], [vI a, vR (o + 7 + 3 * K)], aq_h m s F c)) rfl rfl ?_
        refine am_E.go (t2 := (60, [vR o, vR (o + 2 + x.toNat), vR (o + 2 + y.toNat), vI f, vI m2, vI a, vI k], [vI 1, vI a, vR (o + 7 + 3 * K)], aq_h m s F c)) rfl rfl ?_
        refine aq_as (kd := 1) rfl rfl (by omega) hFs (by omega) (by omega) rfl rfl ?_
        show am_E _ (61, [vR o, vR (o + 2 + x.toNat), vR (o + 2 + y.toNat), vI f, vI m2, vI a, vI k], [], aq_h m s F (aq_u c (o + 7 + 3 * K) a 1)) _
        generalize hdc_3 : aq_u c (o + 7 + 3 * K) a 1 = c_3
        have sc_3 := aq_smu hs hdc_3 hSs
        refine am_E.go (t2 := (62, [vR o, vR (o + 2 + x.toNat), vR (o + 2 + y.toNat), vI f, vI m2, vI a, vI k], [vR o], aq_h m s F c_3)) rfl rfl ?_
        refine am_E.go (t2 := (63, [vR o, vR (o + 2 + x.toNat), vR (o + 2 + y.toNat), vI f, vI m2, vI a, vI k], [vR (o + 2 + x.toNat), vR o], aq_h m s F c_3)) rfl rfl ?_
        refine am_E.go (t2 := (64, [vR o, vR (o + 2 + x.toNat), vR (o + 2 + y.toNat), vI f, vI m2, vI a, vI k], [vR o, vR (o + 2 + x.toNat), vR o], aq_h m s F c_3)) rfl rfl ?_
        refine am_E.go (t2 := (66, [vR o, vR (o + 2 + x.toNat), vR (o + 2 + y.toNat), vI f, vI m2, vI a, vI k], [vI a, vR o, vR (o + 2 + x.toNat), vR o], aq_h m s F c_3)) rfl rfl ?_
        refine aq_callv (y := 2) (as2 := [vI a]) (rest := [vR (o + 2 + x.toNat), vR o]) rfl rfl (by decide) (Nat.le_of_ble_eq_true rfl) rfl rfl (Nat.le_of_ble_eq_true rfl) (by omega) hFo rfl (Nat.le_of_ble_eq_true rfl) (qn_X0_across ⟨hm, hn1, hn4, hK, hFo, hFd, hFs⟩ (by omega) (by omega)) ?_
        rintro r5 h5 ⟨rfl, v_4, rfl, hv_4⟩
        show am_E _ (69, [vR o, vR (o + 2 + x.toNat), vR (o + 2 + y.toNat), vI f, vI m2, vI a, vI k], [vI v_4, vR (o + 2 + x.toNat), vR o], aq_h m s F c_3) _
        refine aq_alt (ok := fun k => k == 0) rfl rfl (by omega) (hPr _ (by omega)) rfl (by omega) (by omega) ?_
        show am_E _ (70, [vR o, vR (o + 2 + x.toNat), vR (o + 2 + y.toNat), vI f, vI m2, vI a, vI k], [vI (tP ((x.toNat : Nat) : Int) v_4), vR o], aq_h m s F c_3) _
        have f_5 := hPt ((x.toNat : Nat) : Int) v_4 (by omega) (by omega) (by omega) (by omega)
        refine aq_callv (y := 2) (as2 := [vI (tP ((x.toNat : Nat) : Int) v_4)]) (rest := []) rfl rfl (by decide) (Nat.le_of_ble_eq_true rfl) rfl rfl (Nat.le_of_ble_eq_true rfl) (by omega) hFo rfl (Nat.le_of_ble_eq_true rfl) (qn_X0_across ⟨hm, hn1, hn4, hK, hFo, hFd, hFs⟩ (by omega) (by omega)) ?_
        rintro r5 h5 ⟨rfl, v_6, rfl, hv_6⟩
        show am_E _ (73, [vR o, vR (o + 2 + x.toNat), vR (o + 2 + y.toNat), vI f, vI m2, vI a, vI k], [vI v_6], aq_h m s F c_3) _
        refine am_E.go (t2 := (75, [vR o, vR (o + 2 + x.toNat), vR (o + 2 + y.toNat), vI f, vI m2, vI v_6, vI k], [], aq_h m s F c_3)) rfl rfl ?_
        refine am_E.go (t2 := (76, [vR o, vR (o + 2 + x.toNat), vR (o + 2 + y.toNat), vI f, vI m2, vI v_6, vI k], [vR o], aq_h m s F c_3)) rfl rfl ?_
        refine aq_gf (v := vR (o + 7 + 3 * K)) rfl (by omega) hFo (by decide) rfl ?_
        show am_E _ (79, [vR o, vR (o + 2 + x.toNat), vR (o + 2 + y.toNat), vI f, vI m2, vI v_6, vI k], [vR (o + 7 + 3 * K)], aq_h m s F c_3) _
        refine am_E.go (t2 := (81, [vR o, vR (o + 2 + x.toNat), vR (o + 2 + y.toNat), vI f, vI m2, vI v_6, vI k], [vI v_6, vR (o + 7 + 3 * K)], aq_h m s F c_3)) rfl rfl ?_
        refine am_E.go (t2 := (82, [vR o, vR (o + 2 + x.toNat), vR (o + 2 + y.toNat), vI f, vI m2, vI v_6, vI k], [vI 1, vI v_6, vR (o + 7 + 3 * K)], aq_h m s F c_3)) rfl rfl ?_
        refine aq_as (kd := 1) rfl rfl (by omega) hFs (by omega) (by omega) rfl rfl ?_
        show am_E _ (83, [vR o, vR (o + 2 + x.toNat), vR (o + 2 + y.toNat), vI f, vI m2, vI v_6, vI k], [], aq_h m s F (aq_u c_3 (o + 7 + 3 * K) v_6 1)) _
        generalize hdc_7 : aq_u c_3 (o + 7 + 3 * K) v_6 1 = c_7
        have sc_7 := aq_smu sc_3 hdc_7 hSs
        refine am_E.go (t2 := (84, [vR o, vR (o + 2 + x.toNat), vR (o + 2 + y.toNat), vI f, vI m2, vI v_6, vI k], [vR (o + 2 + y.toNat)], aq_h m s F c_7)) rfl rfl ?_
        refine am_E.go (t2 := (86, [vR o, vR (o + 2 + x.toNat), vR (o + 2 + y.toNat), vI f, vI m2, vI v_6, vI k], [vI v_6, vR (o + 2 + y.toNat)], aq_h m s F c_7)) rfl rfl ?_
        refine aq_alt (ok := fun k => k == 0) rfl rfl (by omega) (hPr _ (by omega)) rfl (by omega) (by omega) ?_
        show am_E _ (87, [vR o, vR (o + 2 + x.toNat), vR (o + 2 + y.toNat), vI f, vI m2, vI v_6, vI k], [vI (tP ((y.toNat : Nat) : Int) v_6)], aq_h m s F c_7) _
        have f_8 := hPt ((y.toNat : Nat) : Int) v_6 (by omega) (by omega) (by omega) (by omega)
        refine am_E.go (t2 := (89, [vR o, vR (o + 2 + x.toNat), vR (o + 2 + y.toNat), vI f, vI m2, vI (tP ((y.toNat : Nat) : Int) v_6), vI k], [], aq_h m s F c_7)) rfl rfl ?_
        refine ae_iinc rfl rfl (am_ri (by omega) (by omega)) ?_
        show am_E _ (92, [vR o, vR (o + 2 + x.toNat), vR (o + 2 + y.toNat), vI f, vI m2, vI (tP ((y.toNat : Nat) : Int) v_6), vI (k + 1)], [], aq_h m s F c_7) _
        refine am_E.go (t2 := (34, [vR o, vR (o + 2 + x.toNat), vR (o + 2 + y.toNat), vI f, vI m2, vI (tP ((y.toNat : Nat) : Int) v_6), vI (k + 1)], [], aq_h m s F c_7)) rfl rfl ?_
        exact qb_inner_i ⟨hm, hn1, hn4, hK, hFo, hFd, hFs⟩ hSs ⟨hPg, hPr, hPt⟩ hx0 hxK hy0 hyK d f m2 (tP ((y.toNat : Nat) : Int) v_6) (k + 1) c_7 sc_7 (by omega) (by omega) (by omega) (by omega) (by omega) K0

theorem qb_inner_o {m s : Nat} {F : aq_F} {c0 : aq_C} {S : Nat → Prop} {o n K : Nat} (hB : bx_0 m F o n K) (hSs : S (o + 7 + 3 * K)) {tP : Int → Int → Int} (hP : bx_p F o n K tP) {x : Int} (hx0 : 0 ≤ x) (hxK : x < (K : Int)) {y : Int} (hy0 : 0 ≤ y) (hyK : y < (K : Int)) : ∀ (d : Nat) (f : Int) (p : Int) (v5 : am_V) (v6 : am_V) (c : aq_C) (hs : aq_sm S c0 c) (h0 : 0 ≤ p) (h1 : p ≤ (n : Int)) (h2 : 0 ≤ f) (h3 : f ≤ p) (hd : (n : Int) - p < (d : Int)), am_E ac_X0_countInnerRings (5, [vR o, vR (o + 2 + x.toNat), vR (o + 2 + y.toNat), vI f, vI p, v5, v6], [], aq_h m s F c) (aq_Z m s F S c0 (fun r _ => ∃ v, r = some (vI v) ∧ 0 ≤ v ∧ v ≤ (n : Int)))
  | 0, f, p, v5, v6, c, hs, h0, h1, h2, h3, hd => by exfalso; omega
  | d + 1, f, p, v5, v6, c, hs, h0, h1, h2, h3, hd => by
    obtain ⟨hm, hn1, hn4, hK, hFo, hFd, hFs⟩ := hB
    obtain ⟨hPg, hPr, hPt⟩ := hP
    refine am_E.go (t2 := (7, [vR o, vR (o + 2 + x.toNat), vR (o + 2 + y.toNat), vI f, vI p, v5, v6], [vI p], aq_h m s F c)) rfl rfl ?_
    refine am_E.go (t2 := (8, [vR o, vR (o + 2 + x.toNat), vR (o + 2 + y.toNat), vI f, vI p, v5, v6], [vR o, vI p], aq_h m s F c)) rfl rfl ?_
    refine aq_gf (v := vI (n : Int)) rfl (by omega) hFo (by decide) rfl ?_
    show am_E _ (11, [vR o, vR (o + 2 + x.toNat), vR (o + 2 + y.toNat), vI f, vI p, v5, v6], [vI (n : Int), vI p], aq_h m s F c) _
    refine ae_icmp rfl (fun (q_1 : (n : Int) ≤ p) => ?_) (fun (q_1 : p < (n : Int)) => ?_)
    · refine am_E.go (t2 := (102, [vR o, vR (o + 2 + x.toNat), vR (o + 2 + y.toNat), vI f, vI p, v5, v6], [vI f], aq_h m s F c)) rfl rfl ?_
      refine am_E.ret rfl rfl ?_
      exact ⟨_, rfl, hs, _, rfl, by omega, by omega⟩
    · refine am_E.go (t2 := (15, [vR o, vR (o + 2 + x.toNat), vR (o + 2 + y.toNat), vI f, vI p, v5, v6], [vR o], aq_h m s F c)) rfl rfl ?_
      refine aq_gf (v := vR (o + 7 + 3 * K)) rfl (by omega) hFo (by decide) rfl ?_
      show am_E _ (18, [vR o, vR (o + 2 + x.toNat), vR (o + 2 + y.toNat), vI f, vI p, v5, v6], [vR (o + 7 + 3 * K)], aq_h m s F c) _
      refine am_E.go (t2 := (20, [vR o, vR (o + 2 + x.toNat), vR (o + 2 + y.toNat), vI f, vI p, v5, v6], [vI p, vR (o + 7 + 3 * K)], aq_h m s F c)) rfl rfl ?_
      refine aq_al (ok := fun k => k == 1) (v := vI (c (o + 7 + 3 * K) p)) rfl rfl (by omega) hFs rfl (by omega) (by omega) rfl ?_
      show am_E _ (21, [vR o, vR (o + 2 + x.toNat), vR (o + 2 + y.toNat), vI f, vI p, v5, v6], [vI (c (o + 7 + 3 * K) p)], aq_h m s F c) _
      refine ae_if0 rfl (fun (q_2 : (c (o + 7 + 3 * K) p) ≠ 0) => ?_) (fun (q_2 : (c (o + 7 + 3 * K) p) = 0) => ?_)
      · refine ae_iinc rfl rfl (am_ri (by omega) (by omega)) ?_
        show am_E _ (98, [vR o, vR (o + 2 + x.toNat), vR (o + 2 + y.toNat), vI f, vI (p + 1), v5, v6], [], aq_h m s F c) _
        refine am_E.go (t2 := (5, [vR o, vR (o + 2 + x.toNat), vR (o + 2 + y.toNat), vI f, vI (p + 1), v5, v6], [], aq_h m s F c)) rfl rfl ?_
        exact qb_inner_o ⟨hm, hn1, hn4, hK, hFo, hFd, hFs⟩ hSs ⟨hPg, hPr, hPt⟩ hx0 hxK hy0 hyK d f (p + 1) (v5) (v6) c hs (by omega) (by omega) (by omega) (by omega) (by omega)
      · refine ae_iinc rfl rfl (am_ri (by omega) (by omega)) ?_
        show am_E _ (27, [vR o, vR (o + 2 + x.toNat), vR (o + 2 + y.toNat), vI (f + 1), vI p, v5, v6], [], aq_h m s F c) _
        refine am_E.go (t2 := (29, [vR o, vR (o + 2 + x.toNat), vR (o + 2 + y.toNat), vI (f + 1), vI p, v5, v6], [vI p], aq_h m s F c)) rfl rfl ?_
        refine am_E.go (t2 := (31, [vR o, vR (o + 2 + x.toNat), vR (o + 2 + y.toNat), vI (f + 1), vI p, vI p, v6], [], aq_h m s F c)) rfl rfl ?_
        refine am_E.go (t2 := (32, [vR o, vR (o + 2 + x.toNat), vR (o + 2 + y.toNat), vI (f + 1), vI p, vI p, v6], [vI 0], aq_h m s F c)) rfl rfl ?_
        refine am_E.go (t2 := (34, [vR o, vR (o + 2 + x.toNat), vR (o + 2 + y.toNat), vI (f + 1), vI p, vI p, vI 0], [], aq_h m s F c)) rfl rfl ?_
        refine qb_inner_i ⟨hm, hn1, hn4, hK, hFo, hFd, hFs⟩ hSs ⟨hPg, hPr, hPt⟩ hx0 hxK hy0 hyK 9 (f + 1) p p 0 c hs (by omega) (by omega) (by omega) (by omega) (by omega) ?_
        · intro a2_34 k2_34 c_3 sc_3
          refine ae_iinc rfl rfl (am_ri (by omega) (by omega)) ?_
          show am_E _ (98, [vR o, vR (o + 2 + x.toNat), vR (o + 2 + y.toNat), vI (f + 1), vI (p + 1), vI a2_34, vI k2_34], [], aq_h m s F c_3) _
          refine am_E.go (t2 := (5, [vR o, vR (o + 2 + x.toNat), vR (o + 2 + y.toNat), vI (f + 1), vI (p + 1), vI a2_34, vI k2_34], [], aq_h m s F c_3)) rfl rfl ?_
          exact qb_inner_o ⟨hm, hn1, hn4, hK, hFo, hFd, hFs⟩ hSs ⟨hPg, hPr, hPt⟩ hx0 hxK hy0 hyK d (f + 1) (p + 1) (vI a2_34) (vI k2_34) c_3 sc_3 (by omega) (by omega) (by omega) (by omega) (by omega)

theorem qb_countInnerRings {m s : Nat} {F : aq_F} {c : aq_C} {S : Nat → Prop} {o n K : Nat} (hB : bx_0 m F o n K) (hSs : S (o + 7 + 3 * K)) {tP : Int → Int → Int} (hP : bx_p F o n K tP) {x : Int} (hx0 : 0 ≤ x) (hxK : x < (K : Int)) {y : Int} (hy0 : 0 ≤ y) (hyK : y < (K : Int)) : am_E ac_X0_countInnerRings (0, [vR o, vR (o + 2 + x.toNat), vR (o + 2 + y.toNat), vU, vU, vU, vU], [], aq_h m s F c) (aq_Z m s F S c (fun r _ => ∃ v, r = some (vI v) ∧ 0 ≤ v ∧ v ≤ (n : Int))) := by
  obtain ⟨hm, hn1, hn4, hK, hFo, hFd, hFs⟩ := hB
  obtain ⟨hPg, hPr, hPt⟩ := hP
  refine am_E.go (t2 := (1, [vR o, vR (o + 2 + x.toNat), vR (o + 2 + y.toNat), vU, vU, vU, vU], [vI 0], aq_h m s F c)) rfl rfl ?_
  refine am_E.go (t2 := (2, [vR o, vR (o + 2 + x.toNat), vR (o + 2 + y.toNat), vI 0, vU, vU, vU], [], aq_h m s F c)) rfl rfl ?_
  refine am_E.go (t2 := (3, [vR o, vR (o + 2 + x.toNat), vR (o + 2 + y.toNat), vI 0, vU, vU, vU], [vI 0], aq_h m s F c)) rfl rfl ?_
  refine am_E.go (t2 := (5, [vR o, vR (o + 2 + x.toNat), vR (o + 2 + y.toNat), vI 0, vI 0, vU, vU], [], aq_h m s F c)) rfl rfl ?_
  exact qb_inner_o ⟨hm, hn1, hn4, hK, hFo, hFd, hFs⟩ hSs ⟨hPg, hPr, hPt⟩ hx0 hxK hy0 hyK 9 0 0 (vU) (vU) c aq_sm0 (by omega) (by omega) (by omega) (by omega) (by omega)
