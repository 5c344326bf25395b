/-! The reference's constructor, whole. Printed by wip/p20/sx/gINI2.py. -/

/-- a new object of the reference: no array is there yet -/
def mo_t0 : Nat → aq_T := fun k => match k with
  | 0 => .inr vN
  | 1 => .inr vN
  | 2 => .inr vN
  | 3 => .inr vN
  | 4 => .inr vN
  | 5 => .inr vN
  | 6 => .inr vN
  | 7 => .inr vN
  | 8 => .inr vN
  | 11 => .inr vN
  | 12 => .inr vN
  | 13 => .inr vN
  | 14 => .inr vN
  | 16 => .inr vN
  | 18 => .inr vN
  | 19 => .inr vN
  | 20 => .inr vN
  | 21 => .inr vN
  | 22 => .inr vN
  | 23 => .inr vN
  | 24 => .inr vN
  | 25 => .inr vN
  | 26 => .inr vN
  | _ => .inl 0

theorem qm_init {s : Nat} {F : aq_F} {c : aq_C} {y : Nat} (hy : F y = (15, 27, mo_t0)) (h10 : c y 10 = 0) : am_E ac_X5_init (0, [vR y, vU, vU], [], aq_h (y + 1) s F c) (mo_Z y (s + 3246) F c) := by
  refine am_E.go (t2 := (1, [vR y, vU, vU], [vR y], aq_h (y + 1) s F c)) rfl rfl ?_
  refine am_E.go (t2 := (4, [vR y, vU, vU], [], aq_h (y + 1) s F c)) rfl rfl ?_
  have f0_0 : ∀ a, a < y → F a = F a := fun _ _ => rfl
  have s_0 : aq_sm (fun a => y ≤ a) c c := aq_sm0
  have t_0 := h10
  refine am_E.go (t2 := (5, [vR y, vU, vU], [vR y], aq_h (y + 1) s F c)) rfl rfl ?_
  refine am_E.go (t2 := (8, [vR y, vU, vU], [vI 992, vR y], aq_h (y + 1) s F c)) rfl rfl ?_
  refine aq_step (o := y) (n := 992) rfl rfl hy (by omega) (by decide) rfl (by decide) rfl (by decide) (fun F_1 c_1 hy_1 a_1 o_1 z_1 u_1 => ?_)
  show am_E _ (13, [vR y, vU, vU], [], aq_h (y + 2) (s + 992) F_1 c_1) _
  have g1_1 : F_1 (y + 1) = (0, 992, fun _ => .inl 0) := a_1
  have f0_1 : ∀ a, a < y → F_1 a = F a := fun a ha => (o_1 a (by omega) (by omega)).trans (f0_0 a ha)
  have t_1 : c_1 y 10 = 0 := by rw [u_1 y (by omega)]; exact t_0
  have s_1 : aq_sm (fun a => y ≤ a) c c_1 := fun a ha i => (u_1 a (by omega) i).trans (s_0 a ha i)
  refine am_E.go (t2 := (14, [vR y, vU, vU], [vR y], aq_h (y + 2) (s + 992) F_1 c_1)) rfl rfl ?_
  refine am_E.go (t2 := (16, [vR y, vU, vU], [vI 124, vR y], aq_h (y + 2) (s + 992) F_1 c_1)) rfl rfl ?_
  refine aq_step (o := y) (n := 124) rfl rfl hy_1 (by omega) (by decide) rfl (by decide) rfl (by decide) (fun F_2 c_2 hy_2 a_2 o_2 z_2 u_2 => ?_)
  show am_E _ (21, [vR y, vU, vU], [], aq_h (y + 3) (s + 1116) F_2 c_2) _
  have g1_2 : F_2 (y + 1) = (0, 992, fun _ => .inl 0) := by rw [o_2 (y + 1) (by omega) (by omega)]; exact g1_1
  have g2_2 : F_2 (y + 2) = (0, 124, fun _ => .inl 0) := a_2
  have f0_2 : ∀ a, a < y → F_2 a = F a := fun a ha => (o_2 a (by omega) (by omega)).trans (f0_1 a ha)
  have t_2 : c_2 y 10 = 0 := by rw [u_2 y (by omega)]; exact t_1
  have s_2 : aq_sm (fun a => y ≤ a) c c_2 := fun a ha i => (u_2 a (by omega) i).trans (s_1 a ha i)
  refine am_E.go (t2 := (22, [vR y, vU, vU], [vR y], aq_h (y + 3) (s + 1116) F_2 c_2)) rfl rfl ?_
  refine am_E.go (t2 := (24, [vR y, vU, vU], [vI 124, vR y], aq_h (y + 3) (s + 1116) F_2 c_2)) rfl rfl ?_
  refine aq_step (o := y) (n := 124) rfl rfl hy_2 (by omega) (by decide) rfl (by decide) rfl (by decide) (fun F_3 c_3 hy_3 a_3 o_3 z_3 u_3 => ?_)
  show am_E _ (29, [vR y, vU, vU], [], aq_h (y + 4) (s + 1240) F_3 c_3) _
  have g1_3 : F_3 (y + 1) = (0, 992, fun _ => .inl 0) := by rw [o_3 (y + 1) (by omega) (by omega)]; exact g1_2
  have g2_3 : F_3 (y + 2) = (0, 124, fun _ => .inl 0) := by rw [o_3 (y + 2) (by omega) (by omega)]; exact g2_2
  have g3_3 : F_3 (y + 3) = (0, 124, fun _ => .inl 0) := a_3
  have f0_3 : ∀ a, a < y → F_3 a = F a := fun a ha => (o_3 a (by omega) (by omega)).trans (f0_2 a ha)
  have t_3 : c_3 y 10 = 0 := by rw [u_3 y (by omega)]; exact t_2
  have s_3 : aq_sm (fun a => y ≤ a) c c_3 := fun a ha i => (u_3 a (by omega) i).trans (s_2 a ha i)
  have z3_3 : ∀ j, c_3 (y + 3) j = 0 := z_3
  refine am_E.go (t2 := (30, [vR y, vU, vU], [vR y], aq_h (y + 4) (s + 1240) F_3 c_3)) rfl rfl ?_
  refine am_E.go (t2 := (32, [vR y, vU, vU], [vI 124, vR y], aq_h (y + 4) (s + 1240) F_3 c_3)) rfl rfl ?_
  refine aq_step (o := y) (n := 124) rfl rfl hy_3 (by omega) (by decide) rfl (by decide) rfl (by decide) (fun F_4 c_4 hy_4 a_4 o_4 z_4 u_4 => ?_)
  show am_E _ (37, [vR y, vU, vU], [], aq_h (y + 5) (s + 1364) F_4 c_4) _
  have g1_4 : F_4 (y + 1) = (0, 992, fun _ => .inl 0) := by rw [o_4 (y + 1) (by omega) (by omega)]; exact g1_3
  have g2_4 : F_4 (y + 2) = (0, 124, fun _ => .inl 0) := by rw [o_4 (y + 2) (by omega) (by omega)]; exact g2_3
  have g3_4 : F_4 (y + 3) = (0, 124, fun _ => .inl 0) := by rw [o_4 (y + 3) (by omega) (by omega)]; exact g3_3
  have g4_4 : F_4 (y + 4) = (0, 124, fun _ => .inl 0) := a_4
  have f0_4 : ∀ a, a < y → F_4 a = F a := fun a ha => (o_4 a (by omega) (by omega)).trans (f0_3 a ha)
  have t_4 : c_4 y 10 = 0 := by rw [u_4 y (by omega)]; exact t_3
  have s_4 : aq_sm (fun a => y ≤ a) c c_4 := fun a ha i => (u_4 a (by omega) i).trans (s_3 a ha i)
  have z3_4 : ∀ j, c_4 (y + 3) j = 0 := fun j => by rw [u_4 (y + 3) (by omega)]; exact z3_3 j
  refine am_E.go (t2 := (38, [vR y, vU, vU], [vR y], aq_h (y + 5) (s + 1364) F_4 c_4)) rfl rfl ?_
  refine am_E.go (t2 := (40, [vR y, vU, vU], [vI 8, vR y], aq_h (y + 5) (s + 1364) F_4 c_4)) rfl rfl ?_
  refine aq_step (o := y) (n := 8) rfl rfl hy_4 (by omega) (by decide) rfl (by decide) rfl (by decide) (fun F_5 c_5 hy_5 a_5 o_5 z_5 u_5 => ?_)
  show am_E _ (45, [vR y, vU, vU], [], aq_h (y + 6) (s + 1372) F_5 c_5) _
  have g1_5 : F_5 (y + 1) = (0, 992, fun _ => .inl 0) := by rw [o_5 (y + 1) (by omega) (by omega)]; exact g1_4
  have g2_5 : F_5 (y + 2) = (0, 124, fun _ => .inl 0) := by rw [o_5 (y + 2) (by omega) (by omega)]; exact g2_4
  have g3_5 : F_5 (y + 3) = (0, 124, fun _ => .inl 0) := by rw [o_5 (y + 3) (by omega) (by omega)]; exact g3_4
  have g4_5 : F_5 (y + 4) = (0, 124, fun _ => .inl 0) := by rw [o_5 (y + 4) (by omega) (by omega)]; exact g4_4
  have g5_5 : F_5 (y + 5) = (0, 8, fun _ => .inl 0) := a_5
  have f0_5 : ∀ a, a < y → F_5 a = F a := fun a ha => (o_5 a (by omega) (by omega)).trans (f0_4 a ha)
  have t_5 : c_5 y 10 = 0 := by rw [u_5 y (by omega)]; exact t_4
  have s_5 : aq_sm (fun a => y ≤ a) c c_5 := fun a ha i => (u_5 a (by omega) i).trans (s_4 a ha i)
  have z3_5 : ∀ j, c_5 (y + 3) j = 0 := fun j => by rw [u_5 (y + 3) (by omega)]; exact z3_4 j
  refine am_E.go (t2 := (46, [vR y, vU, vU], [vR y], aq_h (y + 6) (s + 1372) F_5 c_5)) rfl rfl ?_
  refine am_E.go (t2 := (48, [vR y, vU, vU], [vI 8, vR y], aq_h (y + 6) (s + 1372) F_5 c_5)) rfl rfl ?_
  refine aq_step (o := y) (n := 8) rfl rfl hy_5 (by omega) (by decide) rfl (by decide) rfl (by decide) (fun F_6 c_6 hy_6 a_6 o_6 z_6 u_6 => ?_)
  show am_E _ (53, [vR y, vU, vU], [], aq_h (y + 7) (s + 1380) F_6 c_6) _
  have g1_6 : F_6 (y + 1) = (0, 992, fun _ => .inl 0) := by rw [o_6 (y + 1) (by omega) (by omega)]; exact g1_5
  have g2_6 : F_6 (y + 2) = (0, 124, fun _ => .inl 0) := by rw [o_6 (y + 2) (by omega) (by omega)]; exact g2_5
  have g3_6 : F_6 (y + 3) = (0, 124, fun _ => .inl 0) := by rw [o_6 (y + 3) (by omega) (by omega)]; exact g3_5
  have g4_6 : F_6 (y + 4) = (0, 124, fun _ => .inl 0) := by rw [o_6 (y + 4) (by omega) (by omega)]; exact g4_5
  have g5_6 : F_6 (y + 5) = (0, 8, fun _ => .inl 0) := by rw [o_6 (y + 5) (by omega) (by omega)]; exact g5_5
  have g6_6 : F_6 (y + 6) = (0, 8, fun _ => .inl 0) := a_6
  have f0_6 : ∀ a, a < y → F_6 a = F a := fun a ha => (o_6 a (by omega) (by omega)).trans (f0_5 a ha)
  have t_6 : c_6 y 10 = 0 := by rw [u_6 y (by omega)]; exact t_5
  have s_6 : aq_sm (fun a => y ≤ a) c c_6 := fun a ha i => (u_6 a (by omega) i).trans (s_5 a ha i)
  have z3_6 : ∀ j, c_6 (y + 3) j = 0 := fun j => by rw [u_6 (y + 3) (by omega)]; exact z3_5 j
  have z6_6 : ∀ j, c_6 (y + 6) j = 0 := z_6
  refine am_E.go (t2 := (54, [vR y, vU, vU], [vR y], aq_h (y + 7) (s + 1380) F_6 c_6)) rfl rfl ?_
  refine am_E.go (t2 := (57, [vR y, vU, vU], [vI 320, vR y], aq_h (y + 7) (s + 1380) F_6 c_6)) rfl rfl ?_
  refine aq_step (o := y) (n := 320) rfl rfl hy_6 (by omega) (by decide) rfl (by decide) rfl (by decide) (fun F_7 c_7 hy_7 a_7 o_7 z_7 u_7 => ?_)
  show am_E _ (62, [vR y, vU, vU], [], aq_h (y + 8) (s + 1700) F_7 c_7) _
  have g1_7 : F_7 (y + 1) = (0, 992, fun _ => .inl 0) := by rw [o_7 (y + 1) (by omega) (by omega)]; exact g1_6
  have g2_7 : F_7 (y + 2) = (0, 124, fun _ => .inl 0) := by rw [o_7 (y + 2) (by omega) (by omega)]; exact g2_6
  have g3_7 : F_7 (y + 3) = (0, 124, fun _ => .inl 0) := by rw [o_7 (y + 3) (by omega) (by omega)]; exact g3_6
  have g4_7 : F_7 (y + 4) = (0, 124, fun _ => .inl 0) := by rw [o_7 (y + 4) (by omega) (by omega)]; exact g4_6
  have g5_7 : F_7 (y + 5) = (0, 8, fun _ => .inl 0) := by rw [o_7 (y + 5) (by omega) (by omega)]; exact g5_6
  have g6_7 : F_7 (y + 6) = (0, 8, fun _ => .inl 0) := by rw [o_7 (y + 6) (by omega) (by omega)]; exact g6_6
  have g7_7 : F_7 (y + 7) = (0, 320, fun _ => .inl 0) := a_7
  have f0_7 : ∀ a, a < y → F_7 a = F a := fun a ha => (o_7 a (by omega) (by omega)).trans (f0_6 a ha)
  have t_7 : c_7 y 10 = 0 := by rw [u_7 y (by omega)]; exact t_6
  have s_7 : aq_sm (fun a => y ≤ a) c c_7 := fun a ha i => (u_7 a (by omega) i).trans (s_6 a ha i)
  have z3_7 : ∀ j, c_7 (y + 3) j = 0 := fun j => by rw [u_7 (y + 3) (by omega)]; exact z3_6 j
  have z6_7 : ∀ j, c_7 (y + 6) j = 0 := fun j => by rw [u_7 (y + 6) (by omega)]; exact z6_6 j
  refine am_E.go (t2 := (63, [vR y, vU, vU], [vR y], aq_h (y + 8) (s + 1700) F_7 c_7)) rfl rfl ?_
  refine am_E.go (t2 := (66, [vR y, vU, vU], [vI 320, vR y], aq_h (y + 8) (s + 1700) F_7 c_7)) rfl rfl ?_
  refine aq_step (o := y) (n := 320) rfl rfl hy_7 (by omega) (by decide) rfl (by decide) rfl (by decide) (fun F_8 c_8 hy_8 a_8 o_8 z_8 u_8 => ?_)
  show am_E _ (71, [vR y, vU, vU], [], aq_h (y + 9) (s + 2020) F_8 c_8) _
  have g1_8 : F_8 (y + 1) = (0, 992, fun _ => .inl 0) := by rw [o_8 (y + 1) (by omega) (by omega)]; exact g1_7
  have g2_8 : F_8 (y + 2) = (0, 124, fun _ => .inl 0) := by rw [o_8 (y + 2) (by omega) (by omega)]; exact g2_7
  have g3_8 : F_8 (y + 3) = (0, 124, fun _ => .inl 0) := by rw [o_8 (y + 3) (by omega) (by omega)]; exact g3_7
  have g4_8 : F_8 (y + 4) = (0, 124, fun _ => .inl 0) := by rw [o_8 (y + 4) (by omega) (by omega)]; exact g4_7
  have g5_8 : F_8 (y + 5) = (0, 8, fun _ => .inl 0) := by rw [o_8 (y + 5) (by omega) (by omega)]; exact g5_7
  have g6_8 : F_8 (y + 6) = (0, 8, fun _ => .inl 0) := by rw [o_8 (y + 6) (by omega) (by omega)]; exact g6_7
  have g7_8 : F_8 (y + 7) = (0, 320, fun _ => .inl 0) := by rw [o_8 (y + 7) (by omega) (by omega)]; exact g7_7
  have g8_8 : F_8 (y + 8) = (0, 320, fun _ => .inl 0) := a_8
  have f0_8 : ∀ a, a < y → F_8 a = F a := fun a ha => (o_8 a (by omega) (by omega)).trans (f0_7 a ha)
  have t_8 : c_8 y 10 = 0 := by rw [u_8 y (by omega)]; exact t_7
  have s_8 : aq_sm (fun a => y ≤ a) c c_8 := fun a ha i => (u_8 a (by omega) i).trans (s_7 a ha i)
  have z3_8 : ∀ j, c_8 (y + 3) j = 0 := fun j => by rw [u_8 (y + 3) (by omega)]; exact z3_7 j
  have z6_8 : ∀ j, c_8 (y + 6) j = 0 := fun j => by rw [u_8 (y + 6) (by omega)]; exact z6_7 j
  refine am_E.go (t2 := (72, [vR y, vU, vU], [vR y], aq_h (y + 9) (s + 2020) F_8 c_8)) rfl rfl ?_
  refine am_E.go (t2 := (75, [vR y, vU, vU], [vI 320, vR y], aq_h (y + 9) (s + 2020) F_8 c_8)) rfl rfl ?_
  refine aq_step (o := y) (n := 320) rfl rfl hy_8 (by omega) (by decide) rfl (by decide) rfl (by decide) (fun F_9 c_9 hy_9 a_9 o_9 z_9 u_9 => ?_)
  show am_E _ (80, [vR y, vU, vU], [], aq_h (y + 10) (s + 2340) F_9 c_9) _
  have g1_9 : F_9 (y + 1) = (0, 992, fun _ => .inl 0) := by rw [o_9 (y + 1) (by omega) (by omega)]; exact g1_8
  have g2_9 : F_9 (y + 2) = (0, 124, fun _ => .inl 0) := by rw [o_9 (y + 2) (by omega) (by omega)]; exact g2_8
  have g3_9 : F_9 (y + 3) = (0, 124, fun _ => .inl 0) := by rw [o_9 (y + 3) (by omega) (by omega)]; exact g3_8
  have g4_9 : F_9 (y + 4) = (0, 124, fun _ => .inl 0) := by rw [o_9 (y + 4) (by omega) (by omega)]; exact g4_8
  have g5_9 : F_9 (y + 5) = (0, 8, fun _ => .inl 0) := by rw [o_9 (y + 5) (by omega) (by omega)]; exact g5_8
  have g6_9 : F_9 (y + 6) = (0, 8, fun _ => .inl 0) := by rw [o_9 (y + 6) (by omega) (by omega)]; exact g6_8
  have g7_9 : F_9 (y + 7) = (0, 320, fun _ => .inl 0) := by rw [o_9 (y + 7) (by omega) (by omega)]; exact g7_8
  have g8_9 : F_9 (y + 8) = (0, 320, fun _ => .inl 0) := by rw [o_9 (y + 8) (by omega) (by omega)]; exact g8_8
  have g9_9 : F_9 (y + 9) = (2, 320, fun _ => .inl 2) := a_9
  have f0_9 : ∀ a, a < y → F_9 a = F a := fun a ha => (o_9 a (by omega) (by omega)).trans (f0_8 a ha)
  have t_9 : c_9 y 10 = 0 := by rw [u_9 y (by omega)]; exact t_8
  have s_9 : aq_sm (fun a => y ≤ a) c c_9 := fun a ha i => (u_9 a (by omega) i).trans (s_8 a ha i)
  have z3_9 : ∀ j, c_9 (y + 3) j = 0 := fun j => by rw [u_9 (y + 3) (by omega)]; exact z3_8 j
  have z6_9 : ∀ j, c_9 (y + 6) j = 0 := fun j => by rw [u_9 (y + 6) (by omega)]; exact z6_8 j
  refine am_E.go (t2 := (81, [vR y, vU, vU], [vR y], aq_h (y + 10) (s + 2340) F_9 c_9)) rfl rfl ?_
  refine am_E.go (t2 := (82, [vR y, vU, vU], [vI 2, vR y], aq_h (y + 10) (s + 2340) F_9 c_9)) rfl rfl ?_
  refine aq_pf rfl (by omega) hy_9 (by decide) rfl rfl ?_
  show am_E _ (85, [vR y, vU, vU], [], aq_h (y + 10) (s + 2340) F_9 (aq_u c_9 y 9 2)) _
  generalize hd9 : aq_u c_9 y 9 2 = d_9
  have r_9 : d_9 y 9 = 2 := by rw [← hd9, aq_us]
  have t_9b : d_9 y 10 = 0 := by rw [← hd9, aq_un (Or.inr (by decide))]; exact t_9
  have s_9b : aq_sm (fun a => y ≤ a) c d_9 := aq_smu s_9 hd9 (Nat.le_refl y)
  have z3_9b : ∀ j, d_9 (y + 3) j = 0 := fun j => by rw [← hd9, aq_un (Or.inl (by omega))]; exact z3_9 j
  have z6_9b : ∀ j, d_9 (y + 6) j = 0 := fun j => by rw [← hd9, aq_un (Or.inl (by omega))]; exact z6_9 j
  have t_9 := t_9b
  have s_9 := s_9b
  have z3_9 := z3_9b
  have z6_9 := z6_9b
  refine am_E.go (t2 := (86, [vR y, vU, vU], [vR y], aq_h (y + 10) (s + 2340) F_9 d_9)) rfl rfl ?_
  refine am_E.go (t2 := (88, [vR y, vU, vU], [vI 8, vR y], aq_h (y + 10) (s + 2340) F_9 d_9)) rfl rfl ?_
  refine aq_step (o := y) (n := 8) rfl rfl hy_9 (by omega) (by decide) rfl (by decide) rfl (by decide) (fun F_10 c_10 hy_10 a_10 o_10 z_10 u_10 => ?_)
  show am_E _ (93, [vR y, vU, vU], [], aq_h (y + 11) (s + 2348) F_10 c_10) _
  have g1_10 : F_10 (y + 1) = (0, 992, fun _ => .inl 0) := by rw [o_10 (y + 1) (by omega) (by omega)]; exact g1_9
  have g2_10 : F_10 (y + 2) = (0, 124, fun _ => .inl 0) := by rw [o_10 (y + 2) (by omega) (by omega)]; exact g2_9
  have g3_10 : F_10 (y + 3) = (0, 124, fun _ => .inl 0) := by rw [o_10 (y + 3) (by omega) (by omega)]; exact g3_9
  have g4_10 : F_10 (y + 4) = (0, 124, fun _ => .inl 0) := by rw [o_10 (y + 4) (by omega) (by omega)]; exact g4_9
  have g5_10 : F_10 (y + 5) = (0, 8, fun _ => .inl 0) := by rw [o_10 (y + 5) (by omega) (by omega)]; exact g5_9
  have g6_10 : F_10 (y + 6) = (0, 8, fun _ => .inl 0) := by rw [o_10 (y + 6) (by omega) (by omega)]; exact g6_9
  have g7_10 : F_10 (y + 7) = (0, 320, fun _ => .inl 0) := by rw [o_10 (y + 7) (by omega) (by omega)]; exact g7_9
  have g8_10 : F_10 (y + 8) = (0, 320, fun _ => .inl 0) := by rw [o_10 (y + 8) (by omega) (by omega)]; exact g8_9
  have g9_10 : F_10 (y + 9) = (2, 320, fun _ => .inl 2) := by rw [o_10 (y + 9) (by omega) (by omega)]; exact g9_9
  have g10_10 : F_10 (y + 10) = (0, 8, fun _ => .inl 0) := a_10
  have f0_10 : ∀ a, a < y → F_10 a = F a := fun a ha => (o_10 a (by omega) (by omega)).trans (f0_9 a ha)
  have t_10 : c_10 y 10 = 0 := by rw [u_10 y (by omega)]; exact t_9
  have s_10 : aq_sm (fun a => y ≤ a) c c_10 := fun a ha i => (u_10 a (by omega) i).trans (s_9 a ha i)
  have r_10 : c_10 y 9 = 2 := by rw [u_10 y (by omega)]; exact r_9
  have z3_10 : ∀ j, c_10 (y + 3) j = 0 := fun j => by rw [u_10 (y + 3) (by omega)]; exact z3_9 j
  have z6_10 : ∀ j, c_10 (y + 6) j = 0 := fun j => by rw [u_10 (y + 6) (by omega)]; exact z6_9 j
  refine am_E.go (t2 := (94, [vR y, vU, vU], [vR y], aq_h (y + 11) (s + 2348) F_10 c_10)) rfl rfl ?_
  refine am_E.go (t2 := (96, [vR y, vU, vU], [vI 8, vR y], aq_h (y + 11) (s + 2348) F_10 c_10)) rfl rfl ?_
  refine aq_step (o := y) (n := 8) rfl rfl hy_10 (by omega) (by decide) rfl (by decide) rfl (by decide) (fun F_11 c_11 hy_11 a_11 o_11 z_11 u_11 => ?_)
  show am_E _ (101, [vR y, vU, vU], [], aq_h (y + 12) (s + 2356) F_11 c_11) _
  have g1_11 : F_11 (y + 1) = (0, 992, fun _ => .inl 0) := by rw [o_11 (y + 1) (by omega) (by omega)]; exact g1_10
  have g2_11 : F_11 (y + 2) = (0, 124, fun _ => .inl 0) := by rw [o_11 (y + 2) (by omega) (by omega)]; exact g2_10
  have g3_11 : F_11 (y + 3) = (0, 124, fun _ => .inl 0) := by rw [o_11 (y + 3) (by omega) (by omega)]; exact g3_10
  have g4_11 : F_11 (y + 4) = (0, 124, fun _ => .inl 0) := by rw [o_11 (y + 4) (by omega) (by omega)]; exact g4_10
  have g5_11 : F_11 (y + 5) = (0, 8, fun _ => .inl 0) := by rw [o_11 (y + 5) (by omega) (by omega)]; exact g5_10
  have g6_11 : F_11 (y + 6) = (0, 8, fun _ => .inl 0) := by rw [o_11 (y + 6) (by omega) (by omega)]; exact g6_10
  have g7_11 : F_11 (y + 7) = (0, 320, fun _ => .inl 0) := by rw [o_11 (y + 7) (by omega) (by omega)]; exact g7_10
  have g8_11 : F_11 (y + 8) = (0, 320, fun _ => .inl 0) := by rw [o_11 (y + 8) (by omega) (by omega)]; exact g8_10
  have g9_11 : F_11 (y + 9) = (2, 320, fun _ => .inl 2) := by rw [o_11 (y + 9) (by omega) (by omega)]; exact g9_10
  have g10_11 : F_11 (y + 10) = (0, 8, fun _ => .inl 0) := by rw [o_11 (y + 10) (by omega) (by omega)]; exact g10_10
  have g11_11 : F_11 (y + 11) = (1, 8, fun _ => .inl 0) := a_11
  have f0_11 : ∀ a, a < y → F_11 a = F a := fun a ha => (o_11 a (by omega) (by omega)).trans (f0_10 a ha)
  have t_11 : c_11 y 10 = 0 := by rw [u_11 y (by omega)]; exact t_10
  have s_11 : aq_sm (fun a => y ≤ a) c c_11 := fun a ha i => (u_11 a (by omega) i).trans (s_10 a ha i)
  have r_11 : c_11 y 9 = 2 := by rw [u_11 y (by omega)]; exact r_10
  have z3_11 : ∀ j, c_11 (y + 3) j = 0 := fun j => by rw [u_11 (y + 3) (by omega)]; exact z3_10 j
  have z6_11 : ∀ j, c_11 (y + 6) j = 0 := fun j => by rw [u_11 (y + 6) (by omega)]; exact z6_10 j
  refine am_E.go (t2 := (102, [vR y, vU, vU], [vR y], aq_h (y + 12) (s + 2356) F_11 c_11)) rfl rfl ?_
  refine am_E.go (t2 := (104, [vR y, vU, vU], [vI 8, vR y], aq_h (y + 12) (s + 2356) F_11 c_11)) rfl rfl ?_
  refine aq_step (o := y) (n := 8) rfl rfl hy_11 (by omega) (by decide) rfl (by decide) rfl (by decide) (fun F_12 c_12 hy_12 a_12 o_12 z_12 u_12 => ?_)
  show am_E _ (109, [vR y, vU, vU], [], aq_h (y + 13) (s + 2364) F_12 c_12) _
  have g1_12 : F_12 (y + 1) = (0, 992, fun _ => .inl 0) := by rw [o_12 (y + 1) (by omega) (by omega)]; exact g1_11
  have g2_12 : F_12 (y + 2) = (0, 124, fun _ => .inl 0) := by rw [o_12 (y + 2) (by omega) (by omega)]; exact g2_11
  have g3_12 : F_12 (y + 3) = (0, 124, fun _ => .inl 0) := by rw [o_12 (y + 3) (by omega) (by omega)]; exact g3_11
  have g4_12 : F_12 (y + 4) = (0, 124, fun _ => .inl 0) := by rw [o_12 (y + 4) (by omega) (by omega)]; exact g4_11
  have g5_12 : F_12 (y + 5) = (0, 8, fun _ => .inl 0) := by rw [o_12 (y + 5) (by omega) (by omega)]; exact g5_11
  have g6_12 : F_12 (y + 6) = (0, 8, fun _ => .inl 0) := by rw [o_12 (y + 6) (by omega) (by omega)]; exact g6_11
  have g7_12 : F_12 (y + 7) = (0, 320, fun _ => .inl 0) := by rw [o_12 (y + 7) (by omega) (by omega)]; exact g7_11
  have g8_12 : F_12 (y + 8) = (0, 320, fun _ => .inl 0) := by rw [o_12 (y + 8) (by omega) (by omega)]; exact g8_11
  have g9_12 : F_12 (y + 9) = (2, 320, fun _ => .inl 2) := by rw [o_12 (y + 9) (by omega) (by omega)]; exact g9_11
  have g10_12 : F_12 (y + 10) = (0, 8, fun _ => .inl 0) := by rw [o_12 (y + 10) (by omega) (by omega)]; exact g10_11
  have g11_12 : F_12 (y + 11) = (1, 8, fun _ => .inl 0) := by rw [o_12 (y + 11) (by omega) (by omega)]; exact g11_11
  have g12_12 : F_12 (y + 12) = (0, 8, fun _ => .inl 0) := a_12
  have f0_12 : ∀ a, a < y → F_12 a = F a := fun a ha => (o_12 a (by omega) (by omega)).trans (f0_11 a ha)
  have t_12 : c_12 y 10 = 0 := by rw [u_12 y (by omega)]; exact t_11
  have s_12 : aq_sm (fun a => y ≤ a) c c_12 := fun a ha i => (u_12 a (by omega) i).trans (s_11 a ha i)
  have r_12 : c_12 y 9 = 2 := by rw [u_12 y (by omega)]; exact r_11
  have z3_12 : ∀ j, c_12 (y + 3) j = 0 := fun j => by rw [u_12 (y + 3) (by omega)]; exact z3_11 j
  have z6_12 : ∀ j, c_12 (y + 6) j = 0 := fun j => by rw [u_12 (y + 6) (by omega)]; exact z6_11 j
  refine am_E.go (t2 := (110, [vR y, vU, vU], [vR y], aq_h (y + 13) (s + 2364) F_12 c_12)) rfl rfl ?_
  refine am_E.go (t2 := (111, [vR y, vU, vU], [vI 4, vR y], aq_h (y + 13) (s + 2364) F_12 c_12)) rfl rfl ?_
  refine aq_step (o := y) (n := 4) rfl rfl hy_12 (by omega) (by decide) rfl (by decide) rfl (by decide) (fun F_13 c_13 hy_13 a_13 o_13 z_13 u_13 => ?_)
  show am_E _ (116, [vR y, vU, vU], [], aq_h (y + 14) (s + 2368) F_13 c_13) _
  have g1_13 : F_13 (y + 1) = (0, 992, fun _ => .inl 0) := by rw [o_13 (y + 1) (by omega) (by omega)]; exact g1_12
  have g2_13 : F_13 (y + 2) = (0, 124, fun _ => .inl 0) := by rw [o_13 (y + 2) (by omega) (by omega)]; exact g2_12
  have g3_13 : F_13 (y + 3) = (0, 124, fun _ => .inl 0) := by rw [o_13 (y + 3) (by omega) (by omega)]; exact g3_12
  have g4_13 : F_13 (y + 4) = (0, 124, fun _ => .inl 0) := by rw [o_13 (y + 4) (by omega) (by omega)]; exact g4_12
  have g5_13 : F_13 (y + 5) = (0, 8, fun _ => .inl 0) := by rw [o_13 (y + 5) (by omega) (by omega)]; exact g5_12
  have g6_13 : F_13 (y + 6) = (0, 8, fun _ => .inl 0) := by rw [o_13 (y + 6) (by omega) (by omega)]; exact g6_12
  have g7_13 : F_13 (y + 7) = (0, 320, fun _ => .inl 0) := by rw [o_13 (y + 7) (by omega) (by omega)]; exact g7_12
  have g8_13 : F_13 (y + 8) = (0, 320, fun _ => .inl 0) := by rw [o_13 (y + 8) (by omega) (by omega)]; exact g8_12
  have g9_13 : F_13 (y + 9) = (2, 320, fun _ => .inl 2) := by rw [o_13 (y + 9) (by omega) (by omega)]; exact g9_12
  have g10_13 : F_13 (y + 10) = (0, 8, fun _ => .inl 0) := by rw [o_13 (y + 10) (by omega) (by omega)]; exact g10_12
  have g11_13 : F_13 (y + 11) = (1, 8, fun _ => .inl 0) := by rw [o_13 (y + 11) (by omega) (by omega)]; exact g11_12
  have g12_13 : F_13 (y + 12) = (0, 8, fun _ => .inl 0) := by rw [o_13 (y + 12) (by omega) (by omega)]; exact g12_12
  have g13_13 : F_13 (y + 13) = (1, 4, fun _ => .inl 0) := a_13
  have f0_13 : ∀ a, a < y → F_13 a = F a := fun a ha => (o_13 a (by omega) (by omega)).trans (f0_12 a ha)
  have t_13 : c_13 y 10 = 0 := by rw [u_13 y (by omega)]; exact t_12
  have s_13 : aq_sm (fun a => y ≤ a) c c_13 := fun a ha i => (u_13 a (by omega) i).trans (s_12 a ha i)
  have r_13 : c_13 y 9 = 2 := by rw [u_13 y (by omega)]; exact r_12
  have z3_13 : ∀ j, c_13 (y + 3) j = 0 := fun j => by rw [u_13 (y + 3) (by omega)]; exact z3_12 j
  have z6_13 : ∀ j, c_13 (y + 6) j = 0 := fun j => by rw [u_13 (y + 6) (by omega)]; exact z6_12 j
  refine am_E.go (t2 := (117, [vR y, vU, vU], [vR y], aq_h (y + 14) (s + 2368) F_13 c_13)) rfl rfl ?_
  refine am_E.go (t2 := (119, [vR y, vU, vU], [vI 105, vR y], aq_h (y + 14) (s + 2368) F_13 c_13)) rfl rfl ?_
  refine aq_step (o := y) (n := 105) rfl rfl hy_13 (by omega) (by decide) rfl (by decide) rfl (by decide) (fun F_14 c_14 hy_14 a_14 o_14 z_14 u_14 => ?_)
  show am_E _ (124, [vR y, vU, vU], [], aq_h (y + 15) (s + 2473) F_14 c_14) _
  have g1_14 : F_14 (y + 1) = (0, 992, fun _ => .inl 0) := by rw [o_14 (y + 1) (by omega) (by omega)]; exact g1_13
  have g2_14 : F_14 (y + 2) = (0, 124, fun _ => .inl 0) := by rw [o_14 (y + 2) (by omega) (by omega)]; exact g2_13
  have g3_14 : F_14 (y + 3) = (0, 124, fun _ => .inl 0) := by rw [o_14 (y + 3) (by omega) (by omega)]; exact g3_13
  have g4_14 : F_14 (y + 4) = (0, 124, fun _ => .inl 0) := by rw [o_14 (y + 4) (by omega) (by omega)]; exact g4_13
  have g5_14 : F_14 (y + 5) = (0, 8, fun _ => .inl 0) := by rw [o_14 (y + 5) (by omega) (by omega)]; exact g5_13
  have g6_14 : F_14 (y + 6) = (0, 8, fun _ => .inl 0) := by rw [o_14 (y + 6) (by omega) (by omega)]; exact g6_13
  have g7_14 : F_14 (y + 7) = (0, 320, fun _ => .inl 0) := by rw [o_14 (y + 7) (by omega) (by omega)]; exact g7_13
  have g8_14 : F_14 (y + 8) = (0, 320, fun _ => .inl 0) := by rw [o_14 (y + 8) (by omega) (by omega)]; exact g8_13
  have g9_14 : F_14 (y + 9) = (2, 320, fun _ => .inl 2) := by rw [o_14 (y + 9) (by omega) (by omega)]; exact g9_13
  have g10_14 : F_14 (y + 10) = (0, 8, fun _ => .inl 0) := by rw [o_14 (y + 10) (by omega) (by omega)]; exact g10_13
  have g11_14 : F_14 (y + 11) = (1, 8, fun _ => .inl 0) := by rw [o_14 (y + 11) (by omega) (by omega)]; exact g11_13
  have g12_14 : F_14 (y + 12) = (0, 8, fun _ => .inl 0) := by rw [o_14 (y + 12) (by omega) (by omega)]; exact g12_13
  have g13_14 : F_14 (y + 13) = (1, 4, fun _ => .inl 0) := by rw [o_14 (y + 13) (by omega) (by omega)]; exact g13_13
  have g14_14 : F_14 (y + 14) = (0, 105, fun _ => .inl 0) := a_14
  have f0_14 : ∀ a, a < y → F_14 a = F a := fun a ha => (o_14 a (by omega) (by omega)).trans (f0_13 a ha)
  have t_14 : c_14 y 10 = 0 := by rw [u_14 y (by omega)]; exact t_13
  have s_14 : aq_sm (fun a => y ≤ a) c c_14 := fun a ha i => (u_14 a (by omega) i).trans (s_13 a ha i)
  have r_14 : c_14 y 9 = 2 := by rw [u_14 y (by omega)]; exact r_13
  have z3_14 : ∀ j, c_14 (y + 3) j = 0 := fun j => by rw [u_14 (y + 3) (by omega)]; exact z3_13 j
  have z6_14 : ∀ j, c_14 (y + 6) j = 0 := fun j => by rw [u_14 (y + 6) (by omega)]; exact z6_13 j
  refine am_E.go (t2 := (125, [vR y, vU, vU], [vR y], aq_h (y + 15) (s + 2473) F_14 c_14)) rfl rfl ?_
  refine am_E.go (t2 := (127, [vR y, vU, vU], [vI 42, vR y], aq_h (y + 15) (s + 2473) F_14 c_14)) rfl rfl ?_
  refine aq_step (o := y) (n := 42) rfl rfl hy_14 (by omega) (by decide) rfl (by decide) rfl (by decide) (fun F_15 c_15 hy_15 a_15 o_15 z_15 u_15 => ?_)
  show am_E _ (132, [vR y, vU, vU], [], aq_h (y + 16) (s + 2515) F_15 c_15) _
  have g1_15 : F_15 (y + 1) = (0, 992, fun _ => .inl 0) := by rw [o_15 (y + 1) (by omega) (by omega)]; exact g1_14
  have g2_15 : F_15 (y + 2) = (0, 124, fun _ => .inl 0) := by rw [o_15 (y + 2) (by omega) (by omega)]; exact g2_14
  have g3_15 : F_15 (y + 3) = (0, 124, fun _ => .inl 0) := by rw [o_15 (y + 3) (by omega) (by omega)]; exact g3_14
  have g4_15 : F_15 (y + 4) = (0, 124, fun _ => .inl 0) := by rw [o_15 (y + 4) (by omega) (by omega)]; exact g4_14
  have g5_15 : F_15 (y + 5) = (0, 8, fun _ => .inl 0) := by rw [o_15 (y + 5) (by omega) (by omega)]; exact g5_14
  have g6_15 : F_15 (y + 6) = (0, 8, fun _ => .inl 0) := by rw [o_15 (y + 6) (by omega) (by omega)]; exact g6_14
  have g7_15 : F_15 (y + 7) = (0, 320, fun _ => .inl 0) := by rw [o_15 (y + 7) (by omega) (by omega)]; exact g7_14
  have g8_15 : F_15 (y + 8) = (0, 320, fun _ => .inl 0) := by rw [o_15 (y + 8) (by omega) (by omega)]; exact g8_14
  have g9_15 : F_15 (y + 9) = (2, 320, fun _ => .inl 2) := by rw [o_15 (y + 9) (by omega) (by omega)]; exact g9_14
  have g10_15 : F_15 (y + 10) = (0, 8, fun _ => .inl 0) := by rw [o_15 (y + 10) (by omega) (by omega)]; exact g10_14
  have g11_15 : F_15 (y + 11) = (1, 8, fun _ => .inl 0) := by rw [o_15 (y + 11) (by omega) (by omega)]; exact g11_14
  have g12_15 : F_15 (y + 12) = (0, 8, fun _ => .inl 0) := by rw [o_15 (y + 12) (by omega) (by omega)]; exact g12_14
  have g13_15 : F_15 (y + 13) = (1, 4, fun _ => .inl 0) := by rw [o_15 (y + 13) (by omega) (by omega)]; exact g13_14
  have g14_15 : F_15 (y + 14) = (0, 105, fun _ => .inl 0) := by rw [o_15 (y + 14) (by omega) (by omega)]; exact g14_14
  have g15_15 : F_15 (y + 15) = (0, 42, fun _ => .inl 0) := a_15
  have f0_15 : ∀ a, a < y → F_15 a = F a := fun a ha => (o_15 a (by omega) (by omega)).trans (f0_14 a ha)
  have t_15 : c_15 y 10 = 0 := by rw [u_15 y (by omega)]; exact t_14
  have s_15 : aq_sm (fun a => y ≤ a) c c_15 := fun a ha i => (u_15 a (by omega) i).trans (s_14 a ha i)
  have r_15 : c_15 y 9 = 2 := by rw [u_15 y (by omega)]; exact r_14
  have z3_15 : ∀ j, c_15 (y + 3) j = 0 := fun j => by rw [u_15 (y + 3) (by omega)]; exact z3_14 j
  have z6_15 : ∀ j, c_15 (y + 6) j = 0 := fun j => by rw [u_15 (y + 6) (by omega)]; exact z6_14 j
  refine am_E.go (t2 := (133, [vR y, vU, vU], [vR y], aq_h (y + 16) (s + 2515) F_15 c_15)) rfl rfl ?_
  refine am_E.go (t2 := (135, [vR y, vU, vU], [vI 42, vR y], aq_h (y + 16) (s + 2515) F_15 c_15)) rfl rfl ?_
  refine aq_step (o := y) (n := 42) rfl rfl hy_15 (by omega) (by decide) rfl (by decide) rfl (by decide) (fun F_16 c_16 hy_16 a_16 o_16 z_16 u_16 => ?_)
  show am_E _ (140, [vR y, vU, vU], [], aq_h (y + 17) (s + 2557) F_16 c_16) _
  have g1_16 : F_16 (y + 1) = (0, 992, fun _ => .inl 0) := by rw [o_16 (y + 1) (by omega) (by omega)]; exact g1_15
  have g2_16 : F_16 (y + 2) = (0, 124, fun _ => .inl 0) := by rw [o_16 (y + 2) (by omega) (by omega)]; exact g2_15
  have g3_16 : F_16 (y + 3) = (0, 124, fun _ => .inl 0) := by rw [o_16 (y + 3) (by omega) (by omega)]; exact g3_15
  have g4_16 : F_16 (y + 4) = (0, 124, fun _ => .inl 0) := by rw [o_16 (y + 4) (by omega) (by omega)]; exact g4_15
  have g5_16 : F_16 (y + 5) = (0, 8, fun _ => .inl 0) := by rw [o_16 (y + 5) (by omega) (by omega)]; exact g5_15
  have g6_16 : F_16 (y + 6) = (0, 8, fun _ => .inl 0) := by rw [o_16 (y + 6) (by omega) (by omega)]; exact g6_15
  have g7_16 : F_16 (y + 7) = (0, 320, fun _ => .inl 0) := by rw [o_16 (y + 7) (by omega) (by omega)]; exact g7_15
  have g8_16 : F_16 (y + 8) = (0, 320, fun _ => .inl 0) := by rw [o_16 (y + 8) (by omega) (by omega)]; exact g8_15
  have g9_16 : F_16 (y + 9) = (2, 320, fun _ => .inl 2) := by rw [o_16 (y + 9) (by omega) (by omega)]; exact g9_15
  have g10_16 : F_16 (y + 10) = (0, 8, fun _ => .inl 0) := by rw [o_16 (y + 10) (by omega) (by omega)]; exact g10_15
  have g11_16 : F_16 (y + 11) = (1, 8, fun _ => .inl 0) := by rw [o_16 (y + 11) (by omega) (by omega)]; exact g11_15
  have g12_16 : F_16 (y + 12) = (0, 8, fun _ => .inl 0) := by rw [o_16 (y + 12) (by omega) (by omega)]; exact g12_15
  have g13_16 : F_16 (y + 13) = (1, 4, fun _ => .inl 0) := by rw [o_16 (y + 13) (by omega) (by omega)]; exact g13_15
  have g14_16 : F_16 (y + 14) = (0, 105, fun _ => .inl 0) := by rw [o_16 (y + 14) (by omega) (by omega)]; exact g14_15
  have g15_16 : F_16 (y + 15) = (0, 42, fun _ => .inl 0) := by rw [o_16 (y + 15) (by omega) (by omega)]; exact g15_15
  have g16_16 : F_16 (y + 16) = (0, 42, fun _ => .inl 0) := a_16
  have f0_16 : ∀ a, a < y → F_16 a = F a := fun a ha => (o_16 a (by omega) (by omega)).trans (f0_15 a ha)
  have t_16 : c_16 y 10 = 0 := by rw [u_16 y (by omega)]; exact t_15
  have s_16 : aq_sm (fun a => y ≤ a) c c_16 := fun a ha i => (u_16 a (by omega) i).trans (s_15 a ha i)
  have r_16 : c_16 y 9 = 2 := by rw [u_16 y (by omega)]; exact r_15
  have z3_16 : ∀ j, c_16 (y + 3) j = 0 := fun j => by rw [u_16 (y + 3) (by omega)]; exact z3_15 j
  have z6_16 : ∀ j, c_16 (y + 6) j = 0 := fun j => by rw [u_16 (y + 6) (by omega)]; exact z6_15 j
  refine am_E.go (t2 := (141, [vR y, vU, vU], [vR y], aq_h (y + 17) (s + 2557) F_16 c_16)) rfl rfl ?_
  refine am_E.go (t2 := (143, [vR y, vU, vU], [vI 42, vR y], aq_h (y + 17) (s + 2557) F_16 c_16)) rfl rfl ?_
  refine aq_step (o := y) (n := 42) rfl rfl hy_16 (by omega) (by decide) rfl (by decide) rfl (by decide) (fun F_17 c_17 hy_17 a_17 o_17 z_17 u_17 => ?_)
  show am_E _ (148, [vR y, vU, vU], [], aq_h (y + 18) (s + 2599) F_17 c_17) _
  have g1_17 : F_17 (y + 1) = (0, 992, fun _ => .inl 0) := by rw [o_17 (y + 1) (by omega) (by omega)]; exact g1_16
  have g2_17 : F_17 (y + 2) = (0, 124, fun _ => .inl 0) := by rw [o_17 (y + 2) (by omega) (by omega)]; exact g2_16
  have g3_17 : F_17 (y + 3) = (0, 124, fun _ => .inl 0) := by rw [o_17 (y + 3) (by omega) (by omega)]; exact g3_16
  have g4_17 : F_17 (y + 4) = (0, 124, fun _ => .inl 0) := by rw [o_17 (y + 4) (by omega) (by omega)]; exact g4_16
  have g5_17 : F_17 (y + 5) = (0, 8, fun _ => .inl 0) := by rw [o_17 (y + 5) (by omega) (by omega)]; exact g5_16
  have g6_17 : F_17 (y + 6) = (0, 8, fun _ => .inl 0) := by rw [o_17 (y + 6) (by omega) (by omega)]; exact g6_16
  have g7_17 : F_17 (y + 7) = (0, 320, fun _ => .inl 0) := by rw [o_17 (y + 7) (by omega) (by omega)]; exact g7_16
  have g8_17 : F_17 (y + 8) = (0, 320, fun _ => .inl 0) := by rw [o_17 (y + 8) (by omega) (by omega)]; exact g8_16
  have g9_17 : F_17 (y + 9) = (2, 320, fun _ => .inl 2) := by rw [o_17 (y + 9) (by omega) (by omega)]; exact g9_16
  have g10_17 : F_17 (y + 10) = (0, 8, fun _ => .inl 0) := by rw [o_17 (y + 10) (by omega) (by omega)]; exact g10_16
  have g11_17 : F_17 (y + 11) = (1, 8, fun _ => .inl 0) := by rw [o_17 (y + 11) (by omega) (by omega)]; exact g11_16
  have g12_17 : F_17 (y + 12) = (0, 8, fun _ => .inl 0) := by rw [o_17 (y + 12) (by omega) (by omega)]; exact g12_16
  have g13_17 : F_17 (y + 13) = (1, 4, fun _ => .inl 0) := by rw [o_17 (y + 13) (by omega) (by omega)]; exact g13_16
  have g14_17 : F_17 (y + 14) = (0, 105, fun _ => .inl 0) := by rw [o_17 (y + 14) (by omega) (by omega)]; exact g14_16
  have g15_17 : F_17 (y + 15) = (0, 42, fun _ => .inl 0) := by rw [o_17 (y + 15) (by omega) (by omega)]; exact g15_16
  have g16_17 : F_17 (y + 16) = (0, 42, fun _ => .inl 0) := by rw [o_17 (y + 16) (by omega) (by omega)]; exact g16_16
  have g17_17 : F_17 (y + 17) = (2, 42, fun _ => .inl 2) := a_17
  have f0_17 : ∀ a, a < y → F_17 a = F a := fun a ha => (o_17 a (by omega) (by omega)).trans (f0_16 a ha)
  have t_17 : c_17 y 10 = 0 := by rw [u_17 y (by omega)]; exact t_16
  have s_17 : aq_sm (fun a => y ≤ a) c c_17 := fun a ha i => (u_17 a (by omega) i).trans (s_16 a ha i)
  have r_17 : c_17 y 9 = 2 := by rw [u_17 y (by omega)]; exact r_16
  have z3_17 : ∀ j, c_17 (y + 3) j = 0 := fun j => by rw [u_17 (y + 3) (by omega)]; exact z3_16 j
  have z6_17 : ∀ j, c_17 (y + 6) j = 0 := fun j => by rw [u_17 (y + 6) (by omega)]; exact z6_16 j
  refine am_E.go (t2 := (149, [vR y, vU, vU], [vR y], aq_h (y + 18) (s + 2599) F_17 c_17)) rfl rfl ?_
  refine am_E.go (t2 := (150, [vR y, vU, vU], [vI 4, vR y], aq_h (y + 18) (s + 2599) F_17 c_17)) rfl rfl ?_
  refine aq_step (o := y) (n := 4) rfl rfl hy_17 (by omega) (by decide) rfl (by decide) rfl (by decide) (fun F_18 c_18 hy_18 a_18 o_18 z_18 u_18 => ?_)
  show am_E _ (155, [vR y, vU, vU], [], aq_h (y + 19) (s + 2603) F_18 c_18) _
  have g1_18 : F_18 (y + 1) = (0, 992, fun _ => .inl 0) := by rw [o_18 (y + 1) (by omega) (by omega)]; exact g1_17
  have g2_18 : F_18 (y + 2) = (0, 124, fun _ => .inl 0) := by rw [o_18 (y + 2) (by omega) (by omega)]; exact g2_17
  have g3_18 : F_18 (y + 3) = (0, 124, fun _ => .inl 0) := by rw [o_18 (y + 3) (by omega) (by omega)]; exact g3_17
  have g4_18 : F_18 (y + 4) = (0, 124, fun _ => .inl 0) := by rw [o_18 (y + 4) (by omega) (by omega)]; exact g4_17
  have g5_18 : F_18 (y + 5) = (0, 8, fun _ => .inl 0) := by rw [o_18 (y + 5) (by omega) (by omega)]; exact g5_17
  have g6_18 : F_18 (y + 6) = (0, 8, fun _ => .inl 0) := by rw [o_18 (y + 6) (by omega) (by omega)]; exact g6_17
  have g7_18 : F_18 (y + 7) = (0, 320, fun _ => .inl 0) := by rw [o_18 (y + 7) (by omega) (by omega)]; exact g7_17
  have g8_18 : F_18 (y + 8) = (0, 320, fun _ => .inl 0) := by rw [o_18 (y + 8) (by omega) (by omega)]; exact g8_17
  have g9_18 : F_18 (y + 9) = (2, 320, fun _ => .inl 2) := by rw [o_18 (y + 9) (by omega) (by omega)]; exact g9_17
  have g10_18 : F_18 (y + 10) = (0, 8, fun _ => .inl 0) := by rw [o_18 (y + 10) (by omega) (by omega)]; exact g10_17
  have g11_18 : F_18 (y + 11) = (1, 8, fun _ => .inl 0) := by rw [o_18 (y + 11) (by omega) (by omega)]; exact g11_17
  have g12_18 : F_18 (y + 12) = (0, 8, fun _ => .inl 0) := by rw [o_18 (y + 12) (by omega) (by omega)]; exact g12_17
  have g13_18 : F_18 (y + 13) = (1, 4, fun _ => .inl 0) := by rw [o_18 (y + 13) (by omega) (by omega)]; exact g13_17
  have g14_18 : F_18 (y + 14) = (0, 105, fun _ => .inl 0) := by rw [o_18 (y + 14) (by omega) (by omega)]; exact g14_17
  have g15_18 : F_18 (y + 15) = (0, 42, fun _ => .inl 0) := by rw [o_18 (y + 15) (by omega) (by omega)]; exact g15_17
  have g16_18 : F_18 (y + 16) = (0, 42, fun _ => .inl 0) := by rw [o_18 (y + 16) (by omega) (by omega)]; exact g16_17
  have g17_18 : F_18 (y + 17) = (2, 42, fun _ => .inl 2) := by rw [o_18 (y + 17) (by omega) (by omega)]; exact g17_17
  have g18_18 : F_18 (y + 18) = (0, 4, fun _ => .inl 0) := a_18
  have f0_18 : ∀ a, a < y → F_18 a = F a := fun a ha => (o_18 a (by omega) (by omega)).trans (f0_17 a ha)
  have t_18 : c_18 y 10 = 0 := by rw [u_18 y (by omega)]; exact t_17
  have s_18 : aq_sm (fun a => y ≤ a) c c_18 := fun a ha i => (u_18 a (by omega) i).trans (s_17 a ha i)
  have r_18 : c_18 y 9 = 2 := by rw [u_18 y (by omega)]; exact r_17
  have z3_18 : ∀ j, c_18 (y + 3) j = 0 := fun j => by rw [u_18 (y + 3) (by omega)]; exact z3_17 j
  have z6_18 : ∀ j, c_18 (y + 6) j = 0 := fun j => by rw [u_18 (y + 6) (by omega)]; exact z6_17 j
  refine am_E.go (t2 := (156, [vR y, vU, vU], [vR y], aq_h (y + 19) (s + 2603) F_18 c_18)) rfl rfl ?_
  refine am_E.go (t2 := (157, [vR y, vU, vU], [vI 4, vR y], aq_h (y + 19) (s + 2603) F_18 c_18)) rfl rfl ?_
  refine aq_step (o := y) (n := 4) rfl rfl hy_18 (by omega) (by decide) rfl (by decide) rfl (by decide) (fun F_19 c_19 hy_19 a_19 o_19 z_19 u_19 => ?_)
  show am_E _ (162, [vR y, vU, vU], [], aq_h (y + 20) (s + 2607) F_19 c_19) _
  have g1_19 : F_19 (y + 1) = (0, 992, fun _ => .inl 0) := by rw [o_19 (y + 1) (by omega) (by omega)]; exact g1_18
  have g2_19 : F_19 (y + 2) = (0, 124, fun _ => .inl 0) := by rw [o_19 (y + 2) (by omega) (by omega)]; exact g2_18
  have g3_19 : F_19 (y + 3) = (0, 124, fun _ => .inl 0) := by rw [o_19 (y + 3) (by omega) (by omega)]; exact g3_18
  have g4_19 : F_19 (y + 4) = (0, 124, fun _ => .inl 0) := by rw [o_19 (y + 4) (by omega) (by omega)]; exact g4_18
  have g5_19 : F_19 (y + 5) = (0, 8, fun _ => .inl 0) := by rw [o_19 (y + 5) (by omega) (by omega)]; exact g5_18
  have g6_19 : F_19 (y + 6) = (0, 8, fun _ => .inl 0) := by rw [o_19 (y + 6) (by omega) (by omega)]; exact g6_18
  have g7_19 : F_19 (y + 7) = (0, 320, fun _ => .inl 0) := by rw [o_19 (y + 7) (by omega) (by omega)]; exact g7_18
  have g8_19 : F_19 (y + 8) = (0, 320, fun _ => .inl 0) := by rw [o_19 (y + 8) (by omega) (by omega)]; exact g8_18
  have g9_19 : F_19 (y + 9) = (2, 320, fun _ => .inl 2) := by rw [o_19 (y + 9) (by omega) (by omega)]; exact g9_18
  have g10_19 : F_19 (y + 10) = (0, 8, fun _ => .inl 0) := by rw [o_19 (y + 10) (by omega) (by omega)]; exact g10_18
  have g11_19 : F_19 (y + 11) = (1, 8, fun _ => .inl 0) := by rw [o_19 (y + 11) (by omega) (by omega)]; exact g11_18
  have g12_19 : F_19 (y + 12) = (0, 8, fun _ => .inl 0) := by rw [o_19 (y + 12) (by omega) (by omega)]; exact g12_18
  have g13_19 : F_19 (y + 13) = (1, 4, fun _ => .inl 0) := by rw [o_19 (y + 13) (by omega) (by omega)]; exact g13_18
  have g14_19 : F_19 (y + 14) = (0, 105, fun _ => .inl 0) := by rw [o_19 (y + 14) (by omega) (by omega)]; exact g14_18
  have g15_19 : F_19 (y + 15) = (0, 42, fun _ => .inl 0) := by rw [o_19 (y + 15) (by omega) (by omega)]; exact g15_18
  have g16_19 : F_19 (y + 16) = (0, 42, fun _ => .inl 0) := by rw [o_19 (y + 16) (by omega) (by omega)]; exact g16_18
  have g17_19 : F_19 (y + 17) = (2, 42, fun _ => .inl 2) := by rw [o_19 (y + 17) (by omega) (by omega)]; exact g17_18
  have g18_19 : F_19 (y + 18) = (0, 4, fun _ => .inl 0) := by rw [o_19 (y + 18) (by omega) (by omega)]; exact g18_18
  have g19_19 : F_19 (y + 19) = (0, 4, fun _ => .inl 0) := a_19
  have f0_19 : ∀ a, a < y → F_19 a = F a := fun a ha => (o_19 a (by omega) (by omega)).trans (f0_18 a ha)
  have t_19 : c_19 y 10 = 0 := by rw [u_19 y (by omega)]; exact t_18
  have s_19 : aq_sm (fun a => y ≤ a) c c_19 := fun a ha i => (u_19 a (by omega) i).trans (s_18 a ha i)
  have r_19 : c_19 y 9 = 2 := by rw [u_19 y (by omega)]; exact r_18
  have z3_19 : ∀ j, c_19 (y + 3) j = 0 := fun j => by rw [u_19 (y + 3) (by omega)]; exact z3_18 j
  have z6_19 : ∀ j, c_19 (y + 6) j = 0 := fun j => by rw [u_19 (y + 6) (by omega)]; exact z6_18 j
  refine am_E.go (t2 := (163, [vR y, vU, vU], [vR y], aq_h (y + 20) (s + 2607) F_19 c_19)) rfl rfl ?_
  refine am_E.go (t2 := (165, [vR y, vU, vU], [vI 36, vR y], aq_h (y + 20) (s + 2607) F_19 c_19)) rfl rfl ?_
  refine aq_step (o := y) (n := 36) rfl rfl hy_19 (by omega) (by decide) rfl (by decide) rfl (by decide) (fun F_20 c_20 hy_20 a_20 o_20 z_20 u_20 => ?_)
  show am_E _ (170, [vR y, vU, vU], [], aq_h (y + 21) (s + 2643) F_20 c_20) _
  have g1_20 : F_20 (y + 1) = (0, 992, fun _ => .inl 0) := by rw [o_20 (y + 1) (by omega) (by omega)]; exact g1_19
  have g2_20 : F_20 (y + 2) = (0, 124, fun _ => .inl 0) := by rw [o_20 (y + 2) (by omega) (by omega)]; exact g2_19
  have g3_20 : F_20 (y + 3) = (0, 124, fun _ => .inl 0) := by rw [o_20 (y + 3) (by omega) (by omega)]; exact g3_19
  have g4_20 : F_20 (y + 4) = (0, 124, fun _ => .inl 0) := by rw [o_20 (y + 4) (by omega) (by omega)]; exact g4_19
  have g5_20 : F_20 (y + 5) = (0, 8, fun _ => .inl 0) := by rw [o_20 (y + 5) (by omega) (by omega)]; exact g5_19
  have g6_20 : F_20 (y + 6) = (0, 8, fun _ => .inl 0) := by rw [o_20 (y + 6) (by omega) (by omega)]; exact g6_19
  have g7_20 : F_20 (y + 7) = (0, 320, fun _ => .inl 0) := by rw [o_20 (y + 7) (by omega) (by omega)]; exact g7_19
  have g8_20 : F_20 (y + 8) = (0, 320, fun _ => .inl 0) := by rw [o_20 (y + 8) (by omega) (by omega)]; exact g8_19
  have g9_20 : F_20 (y + 9) = (2, 320, fun _ => .inl 2) := by rw [o_20 (y + 9) (by omega) (by omega)]; exact g9_19
  have g10_20 : F_20 (y + 10) = (0, 8, fun _ => .inl 0) := by rw [o_20 (y + 10) (by omega) (by omega)]; exact g10_19
  have g11_20 : F_20 (y + 11) = (1, 8, fun _ => .inl 0) := by rw [o_20 (y + 11) (by omega) (by omega)]; exact g11_19
  have g12_20 : F_20 (y + 12) = (0, 8, fun _ => .inl 0) := by rw [o_20 (y + 12) (by omega) (by omega)]; exact g12_19
  have g13_20 : F_20 (y + 13) = (1, 4, fun _ => .inl 0) := by rw [o_20 (y + 13) (by omega) (by omega)]; exact g13_19
  have g14_20 : F_20 (y + 14) = (0, 105, fun _ => .inl 0) := by rw [o_20 (y + 14) (by omega) (by omega)]; exact g14_19
  have g15_20 : F_20 (y + 15) = (0, 42, fun _ => .inl 0) := by rw [o_20 (y + 15) (by omega) (by omega)]; exact g15_19
  have g16_20 : F_20 (y + 16) = (0, 42, fun _ => .inl 0) := by rw [o_20 (y + 16) (by omega) (by omega)]; exact g16_19
  have g17_20 : F_20 (y + 17) = (2, 42, fun _ => .inl 2) := by rw [o_20 (y + 17) (by omega) (by omega)]; exact g17_19
  have g18_20 : F_20 (y + 18) = (0, 4, fun _ => .inl 0) := by rw [o_20 (y + 18) (by omega) (by omega)]; exact g18_19
  have g19_20 : F_20 (y + 19) = (0, 4, fun _ => .inl 0) := by rw [o_20 (y + 19) (by omega) (by omega)]; exact g19_19
  have g20_20 : F_20 (y + 20) = (0, 36, fun _ => .inl 0) := a_20
  have f0_20 : ∀ a, a < y → F_20 a = F a := fun a ha => (o_20 a (by omega) (by omega)).trans (f0_19 a ha)
  have t_20 : c_20 y 10 = 0 := by rw [u_20 y (by omega)]; exact t_19
  have s_20 : aq_sm (fun a => y ≤ a) c c_20 := fun a ha i => (u_20 a (by omega) i).trans (s_19 a ha i)
  have r_20 : c_20 y 9 = 2 := by rw [u_20 y (by omega)]; exact r_19
  have z3_20 : ∀ j, c_20 (y + 3) j = 0 := fun j => by rw [u_20 (y + 3) (by omega)]; exact z3_19 j
  have z6_20 : ∀ j, c_20 (y + 6) j = 0 := fun j => by rw [u_20 (y + 6) (by omega)]; exact z6_19 j
  refine am_E.go (t2 := (171, [vR y, vU, vU], [vR y], aq_h (y + 21) (s + 2643) F_20 c_20)) rfl rfl ?_
  refine am_E.go (t2 := (174, [vR y, vU, vU], [vI 201, vR y], aq_h (y + 21) (s + 2643) F_20 c_20)) rfl rfl ?_
  refine aq_step (o := y) (n := 201) rfl rfl hy_20 (by omega) (by decide) rfl (by decide) rfl (by decide) (fun F_21 c_21 hy_21 a_21 o_21 z_21 u_21 => ?_)
  show am_E _ (179, [vR y, vU, vU], [], aq_h (y + 22) (s + 2844) F_21 c_21) _
  have g1_21 : F_21 (y + 1) = (0, 992, fun _ => .inl 0) := by rw [o_21 (y + 1) (by omega) (by omega)]; exact g1_20
  have g2_21 : F_21 (y + 2) = (0, 124, fun _ => .inl 0) := by rw [o_21 (y + 2) (by omega) (by omega)]; exact g2_20
  have g3_21 : F_21 (y + 3) = (0, 124, fun _ => .inl 0) := by rw [o_21 (y + 3) (by omega) (by omega)]; exact g3_20
  have g4_21 : F_21 (y + 4) = (0, 124, fun _ => .inl 0) := by rw [o_21 (y + 4) (by omega) (by omega)]; exact g4_20
  have g5_21 : F_21 (y + 5) = (0, 8, fun _ => .inl 0) := by rw [o_21 (y + 5) (by omega) (by omega)]; exact g5_20
  have g6_21 : F_21 (y + 6) = (0, 8, fun _ => .inl 0) := by rw [o_21 (y + 6) (by omega) (by omega)]; exact g6_20
  have g7_21 : F_21 (y + 7) = (0, 320, fun _ => .inl 0) := by rw [o_21 (y + 7) (by omega) (by omega)]; exact g7_20
  have g8_21 : F_21 (y + 8) = (0, 320, fun _ => .inl 0) := by rw [o_21 (y + 8) (by omega) (by omega)]; exact g8_20
  have g9_21 : F_21 (y + 9) = (2, 320, fun _ => .inl 2) := by rw [o_21 (y + 9) (by omega) (by omega)]; exact g9_20
  have g10_21 : F_21 (y + 10) = (0, 8, fun _ => .inl 0) := by rw [o_21 (y + 10) (by omega) (by omega)]; exact g10_20
  have g11_21 : F_21 (y + 11) = (1, 8, fun _ => .inl 0) := by rw [o_21 (y + 11) (by omega) (by omega)]; exact g11_20
  have g12_21 : F_21 (y + 12) = (0, 8, fun _ => .inl 0) := by rw [o_21 (y + 12) (by omega) (by omega)]; exact g12_20
  have g13_21 : F_21 (y + 13) = (1, 4, fun _ => .inl 0) := by rw [o_21 (y + 13) (by omega) (by omega)]; exact g13_20
  have g14_21 : F_21 (y + 14) = (0, 105, fun _ => .inl 0) := by rw [o_21 (y + 14) (by omega) (by omega)]; exact g14_20
  have g15_21 : F_21 (y + 15) = (0, 42, fun _ => .inl 0) := by rw [o_21 (y + 15) (by omega) (by omega)]; exact g15_20
  have g16_21 : F_21 (y + 16) = (0, 42, fun _ => .inl 0) := by rw [o_21 (y + 16) (by omega) (by omega)]; exact g16_20
  have g17_21 : F_21 (y + 17) = (2, 42, fun _ => .inl 2) := by rw [o_21 (y + 17) (by omega) (by omega)]; exact g17_20
  have g18_21 : F_21 (y + 18) = (0, 4, fun _ => .inl 0) := by rw [o_21 (y + 18) (by omega) (by omega)]; exact g18_20
  have g19_21 : F_21 (y + 19) = (0, 4, fun _ => .inl 0) := by rw [o_21 (y + 19) (by omega) (by omega)]; exact g19_20
  have g20_21 : F_21 (y + 20) = (0, 36, fun _ => .inl 0) := by rw [o_21 (y + 20) (by omega) (by omega)]; exact g20_20
  have g21_21 : F_21 (y + 21) = (0, 201, fun _ => .inl 0) := a_21
  have f0_21 : ∀ a, a < y → F_21 a = F a := fun a ha => (o_21 a (by omega) (by omega)).trans (f0_20 a ha)
  have t_21 : c_21 y 10 = 0 := by rw [u_21 y (by omega)]; exact t_20
  have s_21 : aq_sm (fun a => y ≤ a) c c_21 := fun a ha i => (u_21 a (by omega) i).trans (s_20 a ha i)
  have r_21 : c_21 y 9 = 2 := by rw [u_21 y (by omega)]; exact r_20
  have z3_21 : ∀ j, c_21 (y + 3) j = 0 := fun j => by rw [u_21 (y + 3) (by omega)]; exact z3_20 j
  have z6_21 : ∀ j, c_21 (y + 6) j = 0 := fun j => by rw [u_21 (y + 6) (by omega)]; exact z6_20 j
  refine am_E.go (t2 := (180, [vR y, vU, vU], [vR y], aq_h (y + 22) (s + 2844) F_21 c_21)) rfl rfl ?_
  refine am_E.go (t2 := (183, [vR y, vU, vU], [vI 201, vR y], aq_h (y + 22) (s + 2844) F_21 c_21)) rfl rfl ?_
  refine aq_step (o := y) (n := 201) rfl rfl hy_21 (by omega) (by decide) rfl (by decide) rfl (by decide) (fun F_22 c_22 hy_22 a_22 o_22 z_22 u_22 => ?_)
  show am_E _ (188, [vR y, vU, vU], [], aq_h (y + 23) (s + 3045) F_22 c_22) _
  have g1_22 : F_22 (y + 1) = (0, 992, fun _ => .inl 0) := by rw [o_22 (y + 1) (by omega) (by omega)]; exact g1_21
  have g2_22 : F_22 (y + 2) = (0, 124, fun _ => .inl 0) := by rw [o_22 (y + 2) (by omega) (by omega)]; exact g2_21
  have g3_22 : F_22 (y + 3) = (0, 124, fun _ => .inl 0) := by rw [o_22 (y + 3) (by omega) (by omega)]; exact g3_21
  have g4_22 : F_22 (y + 4) = (0, 124, fun _ => .inl 0) := by rw [o_22 (y + 4) (by omega) (by omega)]; exact g4_21
  have g5_22 : F_22 (y + 5) = (0, 8, fun _ => .inl 0) := by rw [o_22 (y + 5) (by omega) (by omega)]; exact g5_21
  have g6_22 : F_22 (y + 6) = (0, 8, fun _ => .inl 0) := by rw [o_22 (y + 6) (by omega) (by omega)]; exact g6_21
  have g7_22 : F_22 (y + 7) = (0, 320, fun _ => .inl 0) := by rw [o_22 (y + 7) (by omega) (by omega)]; exact g7_21
  have g8_22 : F_22 (y + 8) = (0, 320, fun _ => .inl 0) := by rw [o_22 (y + 8) (by omega) (by omega)]; exact g8_21
  have g9_22 : F_22 (y + 9) = (2, 320, fun _ => .inl 2) := by rw [o_22 (y + 9) (by omega) (by omega)]; exact g9_21
  have g10_22 : F_22 (y + 10) = (0, 8, fun _ => .inl 0) := by rw [o_22 (y + 10) (by omega) (by omega)]; exact g10_21
  have g11_22 : F_22 (y + 11) = (1, 8, fun _ => .inl 0) := by rw [o_22 (y + 11) (by omega) (by omega)]; exact g11_21
  have g12_22 : F_22 (y + 12) = (0, 8, fun _ => .inl 0) := by rw [o_22 (y + 12) (by omega) (by omega)]; exact g12_21
  have g13_22 : F_22 (y + 13) = (1, 4, fun _ => .inl 0) := by rw [o_22 (y + 13) (by omega) (by omega)]; exact g13_21
  have g14_22 : F_22 (y + 14) = (0, 105, fun _ => .inl 0) := by rw [o_22 (y + 14) (by omega) (by omega)]; exact g14_21
  have g15_22 : F_22 (y + 15) = (0, 42, fun _ => .inl 0) := by rw [o_22 (y + 15) (by omega) (by omega)]; exact g15_21
  have g16_22 : F_22 (y + 16) = (0, 42, fun _ => .inl 0) := by rw [o_22 (y + 16) (by omega) (by omega)]; exact g16_21
  have g17_22 : F_22 (y + 17) = (2, 42, fun _ => .inl 2) := by rw [o_22 (y + 17) (by omega) (by omega)]; exact g17_21
  have g18_22 : F_22 (y + 18) = (0, 4, fun _ => .inl 0) := by rw [o_22 (y + 18) (by omega) (by omega)]; exact g18_21
  have g19_22 : F_22 (y + 19) = (0, 4, fun _ => .inl 0) := by rw [o_22 (y + 19) (by omega) (by omega)]; exact g19_21
  have g20_22 : F_22 (y + 20) = (0, 36, fun _ => .inl 0) := by rw [o_22 (y + 20) (by omega) (by omega)]; exact g20_21
  have g21_22 : F_22 (y + 21) = (0, 201, fun _ => .inl 0) := by rw [o_22 (y + 21) (by omega) (by omega)]; exact g21_21
  have g22_22 : F_22 (y + 22) = (0, 201, fun _ => .inl 0) := a_22
  have f0_22 : ∀ a, a < y → F_22 a = F a := fun a ha => (o_22 a (by omega) (by omega)).trans (f0_21 a ha)
  have t_22 : c_22 y 10 = 0 := by rw [u_22 y (by omega)]; exact t_21
  have s_22 : aq_sm (fun a => y ≤ a) c c_22 := fun a ha i => (u_22 a (by omega) i).trans (s_21 a ha i)
  have r_22 : c_22 y 9 = 2 := by rw [u_22 y (by omega)]; exact r_21
  have z3_22 : ∀ j, c_22 (y + 3) j = 0 := fun j => by rw [u_22 (y + 3) (by omega)]; exact z3_21 j
  have z6_22 : ∀ j, c_22 (y + 6) j = 0 := fun j => by rw [u_22 (y + 6) (by omega)]; exact z6_21 j
  refine am_E.go (t2 := (189, [vR y, vU, vU], [vR y], aq_h (y + 23) (s + 3045) F_22 c_22)) rfl rfl ?_
  refine am_E.go (t2 := (192, [vR y, vU, vU], [vI 201, vR y], aq_h (y + 23) (s + 3045) F_22 c_22)) rfl rfl ?_
  refine aq_step (o := y) (n := 201) rfl rfl hy_22 (by omega) (by decide) rfl (by decide) rfl (by decide) (fun F_23 c_23 hy_23 a_23 o_23 z_23 u_23 => ?_)
  show am_E _ (197, [vR y, vU, vU], [], aq_h (y + 24) (s + 3246) F_23 c_23) _
  have g1_23 : F_23 (y + 1) = (0, 992, fun _ => .inl 0) := by rw [o_23 (y + 1) (by omega) (by omega)]; exact g1_22
  have g2_23 : F_23 (y + 2) = (0, 124, fun _ => .inl 0) := by rw [o_23 (y + 2) (by omega) (by omega)]; exact g2_22
  have g3_23 : F_23 (y + 3) = (0, 124, fun _ => .inl 0) := by rw [o_23 (y + 3) (by omega) (by omega)]; exact g3_22
  have g4_23 : F_23 (y + 4) = (0, 124, fun _ => .inl 0) := by rw [o_23 (y + 4) (by omega) (by omega)]; exact g4_22
  have g5_23 : F_23 (y + 5) = (0, 8, fun _ => .inl 0) := by rw [o_23 (y + 5) (by omega) (by omega)]; exact g5_22
  have g6_23 : F_23 (y + 6) = (0, 8, fun _ => .inl 0) := by rw [o_23 (y + 6) (by omega) (by omega)]; exact g6_22
  have g7_23 : F_23 (y + 7) = (0, 320, fun _ => .inl 0) := by rw [o_23 (y + 7) (by omega) (by omega)]; exact g7_22
  have g8_23 : F_23 (y + 8) = (0, 320, fun _ => .inl 0) := by rw [o_23 (y + 8) (by omega) (by omega)]; exact g8_22
  have g9_23 : F_23 (y + 9) = (2, 320, fun _ => .inl 2) := by rw [o_23 (y + 9) (by omega) (by omega)]; exact g9_22
  have g10_23 : F_23 (y + 10) = (0, 8, fun _ => .inl 0) := by rw [o_23 (y + 10) (by omega) (by omega)]; exact g10_22
  have g11_23 : F_23 (y + 11) = (1, 8, fun _ => .inl 0) := by rw [o_23 (y + 11) (by omega) (by omega)]; exact g11_22
  have g12_23 : F_23 (y + 12) = (0, 8, fun _ => .inl 0) := by rw [o_23 (y + 12) (by omega) (by omega)]; exact g12_22
  have g13_23 : F_23 (y + 13) = (1, 4, fun _ => .inl 0) := by rw [o_23 (y + 13) (by omega) (by omega)]; exact g13_22
  have g14_23 : F_23 (y + 14) = (0, 105, fun _ => .inl 0) := by rw [o_23 (y + 14) (by omega) (by omega)]; exact g14_22
  have g15_23 : F_23 (y + 15) = (0, 42, fun _ => .inl 0) := by rw [o_23 (y + 15) (by omega) (by omega)]; exact g15_22
  have g16_23 : F_23 (y + 16) = (0, 42, fun _ => .inl 0) := by rw [o_23 (y + 16) (by omega) (by omega)]; exact g16_22
  have g17_23 : F_23 (y + 17) = (2, 42, fun _ => .inl 2) := by rw [o_23 (y + 17) (by omega) (by omega)]; exact g17_22
  have g18_23 : F_23 (y + 18) = (0, 4, fun _ => .inl 0) := by rw [o_23 (y + 18) (by omega) (by omega)]; exact g18_22
  have g19_23 : F_23 (y + 19) = (0, 4, fun _ => .inl 0) := by rw [o_23 (y + 19) (by omega) (by omega)]; exact g19_22
  have g20_23 : F_23 (y + 20) = (0, 36, fun _ => .inl 0) := by rw [o_23 (y + 20) (by omega) (by omega)]; exact g20_22
  have g21_23 : F_23 (y + 21) = (0, 201, fun _ => .inl 0) := by rw [o_23 (y + 21) (by omega) (by omega)]; exact g21_22
  have g22_23 : F_23 (y + 22) = (0, 201, fun _ => .inl 0) := by rw [o_23 (y + 22) (by omega) (by omega)]; exact g22_22
  have g23_23 : F_23 (y + 23) = (0, 201, fun _ => .inl 0) := a_23
  have f0_23 : ∀ a, a < y → F_23 a = F a := fun a ha => (o_23 a (by omega) (by omega)).trans (f0_22 a ha)
  have t_23 : c_23 y 10 = 0 := by rw [u_23 y (by omega)]; exact t_22
  have s_23 : aq_sm (fun a => y ≤ a) c c_23 := fun a ha i => (u_23 a (by omega) i).trans (s_22 a ha i)
  have r_23 : c_23 y 9 = 2 := by rw [u_23 y (by omega)]; exact r_22
  have z3_23 : ∀ j, c_23 (y + 3) j = 0 := fun j => by rw [u_23 (y + 3) (by omega)]; exact z3_22 j
  have z6_23 : ∀ j, c_23 (y + 6) j = 0 := fun j => by rw [u_23 (y + 6) (by omega)]; exact z6_22 j
  have et : am_up (am_up (am_up (am_up (am_up (am_up (am_up (am_up (am_up (am_up (am_up (am_up (am_up (am_up (am_up (am_up (am_up (am_up (am_up (am_up (am_up (am_up (am_up (mo_t0) 0 (.inr (vR (y + 1)))) 1 (.inr (vR (y + 2)))) 2 (.inr (vR (y + 3)))) 3 (.inr (vR (y + 4)))) 4 (.inr (vR (y + 5)))) 5 (.inr (vR (y + 6)))) 6 (.inr (vR (y + 7)))) 7 (.inr (vR (y + 8)))) 8 (.inr (vR (y + 9)))) 11 (.inr (vR (y + 10)))) 12 (.inr (vR (y + 11)))) 13 (.inr (vR (y + 12)))) 14 (.inr (vR (y + 13)))) 16 (.inr (vR (y + 14)))) 18 (.inr (vR (y + 15)))) 19 (.inr (vR (y + 16)))) 20 (.inr (vR (y + 17)))) 21 (.inr (vR (y + 18)))) 22 (.inr (vR (y + 19)))) 23 (.inr (vR (y + 20)))) 24 (.inr (vR (y + 21)))) 25 (.inr (vR (y + 22)))) 26 (.inr (vR (y + 23))) = mo_t y := by
    funext k
    have hk : k = 0 ∨ k = 1 ∨ k = 2 ∨ k = 3 ∨ k = 4 ∨ k = 5 ∨ k = 6 ∨ k = 7 ∨ k = 8 ∨ k = 9 ∨ k = 10 ∨ k = 11 ∨ k = 12 ∨ k = 13 ∨ k = 14 ∨ k = 15 ∨ k = 16 ∨ k = 17 ∨ k = 18 ∨ k = 19 ∨ k = 20 ∨ k = 21 ∨ k = 22 ∨ k = 23 ∨ k = 24 ∨ k = 25 ∨ k = 26 ∨ 27 ≤ k := by omega
    rcases hk with hk | hk | hk | hk | hk | hk | hk | hk | hk | hk | hk | hk | hk | hk | hk | hk | hk | hk | hk | hk | hk | hk | hk | hk | hk | hk | hk | hk
    · subst hk; rfl
    · subst hk; rfl
    · subst hk; rfl
    · subst hk; rfl
    · subst hk; rfl
    · subst hk; rfl
    · subst hk; rfl
    · subst hk; rfl
    · subst hk; rfl
    · subst hk; rfl
    · subst hk; rfl
    · subst hk; rfl
    · subst hk; rfl
    · subst hk; rfl
    · subst hk; rfl
    · subst hk; rfl
    · subst hk; rfl
    · subst hk; rfl
    · subst hk; rfl
    · subst hk; rfl
    · subst hk; rfl
    · subst hk; rfl
    · subst hk; rfl
    · subst hk; rfl
    · subst hk; rfl
    · subst hk; rfl
    · subst hk; rfl
    · obtain ⟨j, rfl⟩ : ∃ j, k = j + 27 := ⟨k - 27, by omega⟩
      repeat rw [am_up_n (by omega)]
      rfl
  have hyy : F_23 y = (15, 27, mo_t y) := by rw [← et]; exact hy_23
  refine am_E.go (t2 := (198, [vR y, vU, vU], [vI 0], aq_h (y + 24) (s + 3246) F_23 c_23)) rfl rfl ?_
  refine am_E.go (t2 := (199, [vR y, vI 0, vU], [], aq_h (y + 24) (s + 3246) F_23 c_23)) rfl rfl ?_
  exact qm_ini_s ⟨Nat.le_refl _, hyy, g5_23, g6_23, g7_23, g8_23, g9_23, g10_23, g11_23, g12_23, g13_23, g14_23, g15_23, g16_23, g17_23, g18_23, g19_23, g20_23, g21_23, g22_23, g23_23⟩ f0_23 g1_23 g2_23 g3_23 g4_23 10 0 _ c_23 s_23 (by omega) (by omega) ⟨r_23, t_23⟩ (fun s5 k0 k1 => absurd k1 (by omega)) z6_23 z3_23 (by omega)
