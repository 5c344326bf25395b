/-! Sum and Crossings: constructors. Printed by wip/p20/sx/gCI.py. -/

def su_t0 : Nat → aq_T := fun y => match y with
  | 2 => .inr vN
  | 3 => .inr vN
  | 4 => .inr vN
  | _ => .inl 0
def cr_t0 : Nat → aq_T := fun y => match y with
  | 2 => .inr vN
  | 3 => .inr vN
  | _ => .inl 0

theorem qn_X3_init {s : Nat} {F : aq_F} {c : aq_C} {a : Nat} (hy : F a = (13, 5, su_t0)) : am_E ac_X3_init (0, [vR a], [], aq_h (a + 1) s F c) (fun r h2 => ∃ F2 c2, r = none ∧ h2 = aq_h (a + 4) (s + 120) F2 c2 ∧ su_0 (a + 4) F2 a ∧ (∀ b, b < a → F2 b = F b) ∧ (∀ b, b < a → ∀ i, c2 b i = c b i) ∧ c2 a 0 = 2 ∧ ∀ i, i ≠ 0 → c2 a i = c a i) := by
  refine am_E.go (t2 := (1, [vR a], [vR a], aq_h (a + 1) s F c)) rfl rfl ?_
  refine am_E.go (t2 := (4, [vR a], [], aq_h (a + 1) s F c)) rfl rfl ?_
  refine am_E.go (t2 := (5, [vR a], [vR a], aq_h (a + 1) s F c)) rfl rfl ?_
  refine am_E.go (t2 := (6, [vR a], [vI 2, vR a], aq_h (a + 1) s F c)) rfl rfl ?_
  refine aq_pf rfl (by omega) hy (by decide) rfl rfl ?_
  show am_E _ (9, [vR a], [], aq_h (a + 1) s F (aq_u c a 0 2)) _
  refine am_E.go (t2 := (10, [vR a], [vR a], aq_h (a + 1) s F (aq_u c a 0 2))) rfl rfl ?_
  refine am_E.go (t2 := (12, [vR a], [vI 40, vR a], aq_h (a + 1) s F (aq_u c a 0 2))) rfl rfl ?_
  refine aq_step (o := a) (n := 40) rfl rfl hy (by omega) (by decide) rfl (by decide) rfl (by decide) (fun F_1 c_1 hy_1 a_1 o_1 z_1 u_1 => ?_)
  show am_E _ (17, [vR a], [], aq_h (a + 2) (s + 40) F_1 c_1) _
  refine am_E.go (t2 := (18, [vR a], [vR a], aq_h (a + 2) (s + 40) F_1 c_1)) rfl rfl ?_
  refine am_E.go (t2 := (20, [vR a], [vI 40, vR a], aq_h (a + 2) (s + 40) F_1 c_1)) rfl rfl ?_
  refine aq_step (o := a) (n := 40) rfl rfl hy_1 (by omega) (by decide) rfl (by decide) rfl (by decide) (fun F_2 c_2 hy_2 a_2 o_2 z_2 u_2 => ?_)
  show am_E _ (25, [vR a], [], aq_h (a + 3) (s + 80) F_2 c_2) _
  refine am_E.go (t2 := (26, [vR a], [vR a], aq_h (a + 3) (s + 80) F_2 c_2)) rfl rfl ?_
  refine am_E.go (t2 := (28, [vR a], [vI 40, vR a], aq_h (a + 3) (s + 80) F_2 c_2)) rfl rfl ?_
  refine aq_step (o := a) (n := 40) rfl rfl hy_2 (by omega) (by decide) rfl (by decide) rfl (by decide) (fun F_3 c_3 hy_3 a_3 o_3 z_3 u_3 => ?_)
  show am_E _ (33, [vR a], [], aq_h (a + 4) (s + 120) F_3 c_3) _
  have et : am_up (am_up (am_up (su_t0) 2 (.inr (vR (a + 1)))) 3 (.inr (vR (a + 2)))) 4 (.inr (vR (a + 3))) = su_t a := by
    funext k
    have hk : k = 0 ∨ k = 1 ∨ k = 2 ∨ k = 3 ∨ k = 4 ∨ 5 ≤ k := by omega
    rcases hk with hk | hk | hk | hk | hk | hk
    · subst hk; rfl
    · subst hk; rfl
    · subst hk; rfl
    · subst hk; rfl
    · subst hk; rfl
    · obtain ⟨j, rfl⟩ : ∃ j, k = j + 5 := ⟨k - 5, by omega⟩
      repeat rw [am_up_n (by omega)]
      rfl
  refine am_E.ret rfl rfl ⟨_, _, rfl, rfl, ⟨Nat.le_refl _, by rw [← et]; exact hy_3, by rw [o_3 _ (by omega) (by omega), o_2 _ (by omega) (by omega)]; exact a_1, by rw [o_3 _ (by omega) (by omega)]; exact a_2, by exact a_3⟩, fun b hb => by rw [o_3 _ (by omega) (by omega), o_2 _ (by omega) (by omega), o_1 _ (by omega) (by omega)], fun b hb i => by rw [u_3 _ (by omega), u_2 _ (by omega), u_1 _ (by omega), aq_un (Or.inl (by omega))], by rw [u_3 _ (by omega), u_2 _ (by omega), u_1 _ (by omega), aq_us], fun i hi => by rw [u_3 _ (by omega), u_2 _ (by omega), u_1 _ (by omega), aq_un (Or.inr hi)]⟩

theorem qn_X1_init {s : Nat} {F : aq_F} {c : aq_C} {a : Nat} (hy : F a = (11, 5, cr_t0)) : am_E ac_X1_init (0, [vR a], [], aq_h (a + 1) s F c) (fun r h2 => ∃ F2 c2, r = none ∧ h2 = aq_h (a + 3) (s + 89) F2 c2 ∧ cr_0 (a + 3) F2 a ∧ (∀ b, b < a → F2 b = F b) ∧ (∀ b, b < a → ∀ i, c2 b i = c b i) ∧ c2 a 0 = 2 ∧ ∀ i, i ≠ 0 → c2 a i = c a i) := by
  refine am_E.go (t2 := (1, [vR a], [vR a], aq_h (a + 1) s F c)) rfl rfl ?_
  refine am_E.go (t2 := (4, [vR a], [], aq_h (a + 1) s F c)) rfl rfl ?_
  refine am_E.go (t2 := (5, [vR a], [vR a], aq_h (a + 1) s F c)) rfl rfl ?_
  refine am_E.go (t2 := (6, [vR a], [vI 2, vR a], aq_h (a + 1) s F c)) rfl rfl ?_
  refine aq_pf rfl (by omega) hy (by decide) rfl rfl ?_
  show am_E _ (9, [vR a], [], aq_h (a + 1) s F (aq_u c a 0 2)) _
  refine am_E.go (t2 := (10, [vR a], [vR a], aq_h (a + 1) s F (aq_u c a 0 2))) rfl rfl ?_
  refine am_E.go (t2 := (12, [vR a], [vI 8, vR a], aq_h (a + 1) s F (aq_u c a 0 2))) rfl rfl ?_
  refine aq_step (o := a) (n := 8) rfl rfl hy (by omega) (by decide) rfl (by decide) rfl (by decide) (fun F_1 c_1 hy_1 a_1 o_1 z_1 u_1 => ?_)
  show am_E _ (17, [vR a], [], aq_h (a + 2) (s + 8) F_1 c_1) _
  refine am_E.go (t2 := (18, [vR a], [vR a], aq_h (a + 2) (s + 8) F_1 c_1)) rfl rfl ?_
  refine am_E.go (t2 := (20, [vR a], [vI 81, vR a], aq_h (a + 2) (s + 8) F_1 c_1)) rfl rfl ?_
  refine aq_step (o := a) (n := 81) rfl rfl hy_1 (by omega) (by decide) rfl (by decide) rfl (by decide) (fun F_2 c_2 hy_2 a_2 o_2 z_2 u_2 => ?_)
  show am_E _ (25, [vR a], [], aq_h (a + 3) (s + 89) F_2 c_2) _
  have et : am_up (am_up (cr_t0) 2 (.inr (vR (a + 1)))) 3 (.inr (vR (a + 2))) = cr_t a := by
    funext k
    have hk : k = 0 ∨ k = 1 ∨ k = 2 ∨ k = 3 ∨ k = 4 ∨ 5 ≤ k := by omega
    rcases hk with hk | hk | hk | hk | hk | hk
    · subst hk; rfl
    · subst hk; rfl
    · subst hk; rfl
    · subst hk; rfl
    · subst hk; rfl
    · obtain ⟨j, rfl⟩ : ∃ j, k = j + 5 := ⟨k - 5, by omega⟩
      repeat rw [am_up_n (by omega)]
      rfl
  refine am_E.ret rfl rfl ⟨_, _, rfl, rfl, ⟨Nat.le_refl _, by rw [← et]; exact hy_2, by rw [o_2 _ (by omega) (by omega)]; exact a_1, by exact a_2⟩, fun b hb => by rw [o_2 _ (by omega) (by omega), o_1 _ (by omega) (by omega)], fun b hb i => by rw [u_2 _ (by omega), u_1 _ (by omega), aq_un (Or.inl (by omega))], by rw [u_2 _ (by omega), u_1 _ (by omega), aq_us], fun i hi => by rw [u_2 _ (by omega), u_1 _ (by omega), aq_un (Or.inr hi)]⟩
