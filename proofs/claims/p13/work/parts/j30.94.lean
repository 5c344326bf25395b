/-! Boxes: the constructor, up to its methods. Printed by wip/p20/sx/gBI.py. -/

def bx_t0 : Nat → aq_T := fun j => aq_ot (ac_ft 0 j)
/-- the numbers are set, no array is there -/
def bx_t1 (n K : Nat) : Nat → aq_T := fun y => match y with
  | 0 => .inr (vI (n : Int))
  | 1 => .inr (vI (2 * (n : Int)))
  | 2 => .inr (vI (2 * (n : Int) - 2))
  | 3 => .inr (vI (K : Int))
  | y + 4 => bx_t0 (y + 4)
theorem bx_cnt {n K : Nat} (h1 : 1 ≤ n) (h4 : n ≤ 4) (hK : (K : Int) = bx_K (n : Int)) (h : am_H) : am_E ac_X0_countPairings (0, [vI (2 * (n : Int)), vU, vU], [], h) (fun r h2 => r = some (vI (K : Int)) ∧ h2 = h) := by
  have hn : n = 1 ∨ n = 2 ∨ n = 3 ∨ n = 4 := by omega
  rcases hn with hn | hn | hn | hn <;> subst hn <;> rw [hK]
  · exact rn_X0_count2 h
  · exact rn_X0_count4 h
  · exact rn_X0_count6 h
  · exact rn_X0_count8 h
theorem bx_K105 {n K : Nat} (h1 : 1 ≤ n) (h4 : n ≤ 4) (hK : (K : Int) = bx_K (n : Int)) : 1 ≤ K ∧ K ≤ 105 := by
  have hn : n = 1 ∨ n = 2 ∨ n = 3 ∨ n = 4 := by omega
  rcases hn with hn | hn | hn | hn <;> subst hn
  · have : (K : Int) = 1 := hK
    omega
  · have : (K : Int) = 3 := hK
    omega
  · have : (K : Int) = 15 := hK
    omega
  · have : (K : Int) = 105 := hK
    omega
/-- all arrays are there: the object and draft and seen are as they stay, the tables hold noughts -/
def bx_i (F : aq_F) (o n K : Nat) : Prop := F o = (10, 11, bx_t o n K) ∧ F (o + 6 + 3 * K) = (0, 2 * n, fun _ => .inl 0) ∧ F (o + 7 + 3 * K) = (1, 2 * n, fun _ => .inl 0) ∧
  F (o + 1) = (3, K, fun j => aq_g K j (o + 2 + j)) ∧ (∀ b, b < K → F (o + 2 + b) = (0, 2 * n, fun _ => .inl 0)) ∧ F (o + 2 + K) = (0, K, fun _ => .inl 0) ∧ F (o + 3 + K) = (0, K, fun _ => .inl 0) ∧
  F (o + 4 + K) = (3, K, fun j => aq_g K j (o + 5 + K + j)) ∧ (∀ b, b < K → F (o + 5 + K + b) = (0, 6, fun _ => .inl 0)) ∧ F (o + 5 + 2 * K) = (3, K, fun j => aq_g K j (o + 6 + 2 * K + j)) ∧ (∀ b, b < K → F (o + 6 + 2 * K + b) = (0, 2 * n - 2, fun _ => .inl 0))

theorem qb_ini0 {s : Nat} {F : aq_F} {c : aq_C} {o n K : Nat} {Z : Option am_V → am_H → Prop} (h1 : 1 ≤ n) (h4 : n ≤ 4) (hK : (K : Int) = bx_K (n : Int)) (hF : F o = (10, 11, bx_t0)) (hc : ∀ j, c o j = 0) (k : ∀ (s2 : Nat) (F2 : aq_F) (c2 : aq_C), s2 ≤ s + 2700 → bx_i F2 o n K → (∀ b, b < o → F2 b = F b) → (∀ b, b < o → ∀ j, c2 b j = c b j) → (∀ b, o < b → b < o + 8 + 3 * K → ∀ j, c2 b j = 0) → am_E ac_X0_init (122, [vR o, vI (n : Int), vU], [], aq_h (o + 8 + 3 * K) s2 F2 c2) Z) : am_E ac_X0_init (0, [vR o, vI (n : Int), vU], [], aq_h (o + 1) s F c) Z := by
  have hKb := bx_K105 h1 h4 hK
  refine am_E.go (t2 := (1, [vR o, vI (n : Int), vU], [vR o], aq_h (o + 1) s F c)) rfl rfl ?_
  refine am_E.go (t2 := (4, [vR o, vI (n : Int), vU], [], aq_h (o + 1) s F c)) rfl rfl ?_
  refine am_E.go (t2 := (5, [vR o, vI (n : Int), vU], [vR o], aq_h (o + 1) s F c)) rfl rfl ?_
  refine am_E.go (t2 := (6, [vR o, vI (n : Int), vU], [vI (n : Int), vR o], aq_h (o + 1) s F c)) rfl rfl ?_
  refine aq_pf rfl (by omega) hF (by decide) rfl rfl ?_
  show am_E _ (9, [vR o, vI (n : Int), vU], [], aq_h (o + 1) s F (aq_u c o 0 (n : Int))) _
  generalize hd0 : aq_u c o 0 (n : Int) = c_0
  refine am_E.go (t2 := (10, [vR o, vI (n : Int), vU], [vR o], aq_h (o + 1) s F c_0)) rfl rfl ?_
  refine am_E.go (t2 := (11, [vR o, vI (n : Int), vU], [vI 2, vR o], aq_h (o + 1) s F c_0)) rfl rfl ?_
  refine am_E.go (t2 := (12, [vR o, vI (n : Int), vU], [vI (n : Int), vI 2, vR o], aq_h (o + 1) s F c_0)) rfl rfl ?_
  refine ae_mul rfl (am_ri (by omega) (by omega)) ?_
  show am_E _ (13, [vR o, vI (n : Int), vU], [vI (2 * (n : Int)), vR o], aq_h (o + 1) s F c_0) _
  refine aq_pf rfl (by omega) hF (by decide) rfl rfl ?_
  show am_E _ (16, [vR o, vI (n : Int), vU], [], aq_h (o + 1) s F (aq_u c_0 o 1 (2 * (n : Int)))) _
  generalize hd1 : aq_u c_0 o 1 (2 * (n : Int)) = c_1
  refine am_E.go (t2 := (17, [vR o, vI (n : Int), vU], [vR o], aq_h (o + 1) s F c_1)) rfl rfl ?_
  refine am_E.go (t2 := (18, [vR o, vI (n : Int), vU], [vI 2, vR o], aq_h (o + 1) s F c_1)) rfl rfl ?_
  refine am_E.go (t2 := (19, [vR o, vI (n : Int), vU], [vI (n : Int), vI 2, vR o], aq_h (o + 1) s F c_1)) rfl rfl ?_
  refine am_E.go (t2 := (20, [vR o, vI (n : Int), vU], [vI 1, vI (n : Int), vI 2, vR o], aq_h (o + 1) s F c_1)) rfl rfl ?_
  refine ae_sub rfl (am_ri (by omega) (by omega)) ?_
  show am_E _ (21, [vR o, vI (n : Int), vU], [vI ((n : Int) - 1), vI 2, vR o], aq_h (o + 1) s F c_1) _
  refine ae_mul rfl (am_ri (by omega) (by omega)) ?_
  show am_E _ (22, [vR o, vI (n : Int), vU], [vI (2 * ((n : Int) - 1)), vR o], aq_h (o + 1) s F c_1) _
  refine aq_pf rfl (by omega) hF (by decide) rfl rfl ?_
  show am_E _ (25, [vR o, vI (n : Int), vU], [], aq_h (o + 1) s F (aq_u c_1 o 2 (2 * ((n : Int) - 1)))) _
  generalize hd2 : aq_u c_1 o 2 (2 * ((n : Int) - 1)) = c_2
  refine am_E.go (t2 := (26, [vR o, vI (n : Int), vU], [vR o], aq_h (o + 1) s F c_2)) rfl rfl ?_
  refine am_E.go (t2 := (27, [vR o, vI (n : Int), vU], [vR o, vR o], aq_h (o + 1) s F c_2)) rfl rfl ?_
  have e1 : c_2 o 1 = 2 * (n : Int) := by rw [← hd2, aq_un (Or.inr (by decide)), ← hd1, aq_us]
  refine aq_gf (v := vI (2 * (n : Int))) rfl (by omega) hF (by decide) (by rw [← e1]; rfl) ?_
  show am_E _ (30, [vR o, vI (n : Int), vU], [vI (2 * (n : Int)), vR o], aq_h (o + 1) s F c_2) _
  refine am_E.call rfl rfl rfl (Nat.le_of_ble_eq_true rfl) (bx_cnt h1 h4 hK _) ?_
  rintro r5 h5 ⟨rfl, rfl⟩
  show am_E _ (33, [vR o, vI (n : Int), vU], [vI (K : Int), vR o], aq_h (o + 1) s F c_2) _
  refine aq_pf rfl (by omega) hF (by decide) rfl rfl ?_
  show am_E _ (36, [vR o, vI (n : Int), vU], [], aq_h (o + 1) s F (aq_u c_2 o 3 (K : Int))) _
  generalize hd3 : aq_u c_2 o 3 (K : Int) = c_3
  have z0 : c_3 o 0 = (n : Int) := by rw [← hd3, aq_un (Or.inr (by decide)), ← hd2, aq_un (Or.inr (by decide)), ← hd1, aq_un (Or.inr (by decide)), ← hd0, aq_us]
  have z1 : c_3 o 1 = 2 * (n : Int) := by rw [← hd3, aq_un (Or.inr (by decide)), e1]
  have z2 : c_3 o 2 = 2 * (n : Int) - 2 := by rw [← hd3, aq_un (Or.inr (by decide)), ← hd2, aq_us]; omega
  have z3 : c_3 o 3 = (K : Int) := by rw [← hd3, aq_us]
  have zb : ∀ b, b ≠ o → ∀ j, c_3 b j = c b j := fun b hb j => by rw [← hd3, aq_un (Or.inl hb), ← hd2, aq_un (Or.inl hb), ← hd1, aq_un (Or.inl hb), ← hd0, aq_un (Or.inl hb)]
  have ef : aq_h (o + 1) s F c_3 = aq_h (o + 1) s (am_up F o (10, 11, bx_t1 n K)) c_3 := by
    refine aq_eq fun a => ?_
    by_cases e : a = o
    · subst e
      rw [am_up_s, hF]
      refine ⟨rfl, rfl, fun i => ?_⟩
      match i with
      | 0 => exact congrArg vI z0.symm
      | 1 => exact congrArg vI z1.symm
      | 2 => exact congrArg vI z2.symm
      | 3 => exact congrArg vI z3.symm
      | i + 4 => rfl
    · rw [am_up_n e]
      exact ⟨rfl, rfl, fun i => rfl⟩
  rw [ef]
  have y_0 : am_up F o (10, 11, bx_t1 n K) o = (10, 11, bx_t1 n K) := am_up_s
  have f_0 : ∀ b, b < o → am_up F o (10, 11, bx_t1 n K) b = F b := fun b hb => am_up_n (by omega)
  generalize am_up F o (10, 11, bx_t1 n K) = F_0 at y_0 f_0 ⊢
  have u_0 : ∀ b, b < o → ∀ j, c_3 b j = c b j := fun b hb j => zb b (by omega) j
  have zz_0 : ∀ b, o < b → b < o + 1 → ∀ j, c_3 b j = 0 := fun b hb1 hb2 j => absurd hb1 (by omega)
  refine am_E.go (t2 := (37, [vR o, vI (n : Int), vU], [vR o], aq_h (o + 1) s F_0 c_3)) rfl rfl ?_
  refine am_E.go (t2 := (38, [vR o, vI (n : Int), vU], [vR o, vR o], aq_h (o + 1) s F_0 c_3)) rfl rfl ?_
  refine aq_gf (v := vI ((K : Int))) rfl (by omega) y_0 (by decide) rfl ?_
  show am_E _ (41, [vR o, vI (n : Int), vU], [vI (K : Int), vR o], aq_h (o + 1) s F_0 c_3) _
  refine am_E.go (t2 := (42, [vR o, vI (n : Int), vU], [vR o, vI (K : Int), vR o], aq_h (o + 1) s F_0 c_3)) rfl rfl ?_
  refine aq_gf (v := vI (2 * (n : Int))) rfl (by omega) y_0 (by decide) rfl ?_
  show am_E _ (45, [vR o, vI (n : Int), vU], [vI (2 * (n : Int)), vI (K : Int), vR o], aq_h (o + 1) s F_0 c_3) _
  refine aq_gst (o := o) (n := K) (w := 2 * n) (a := o + 1) (m2 := o + 2 + K) rfl rfl y_0 (by omega) rfl (by omega) (by omega) (by omega) rfl (by decide) (by omega) (by omega) ?_
  intro s_1 F_1 c_1 es_1 y_1 a_1 r_1 o_1 z_1 u_1
  show am_E _ (52, [vR o, vI (n : Int), vU], [], aq_h (o + 2 + K) s_1 F_1 c_1) _
  have ga1_1 : F_1 (o + 1) = (3, K, fun j => aq_g K j (o + 1 + 1 + j)) := a_1
  have gr1_1 : ∀ b, b < K → F_1 (o + 1 + 1 + b) = (0, 2 * n, fun _ => .inl 0) := r_1
  have f_1 : ∀ b, b < o → F_1 b = F b := fun b hb => (o_1 b (by omega) (by omega)).trans (f_0 b hb)
  have v_1 : ∀ b, b < o → ∀ j, c_1 b j = c b j := fun b hb j => (u_1 b (by omega) j).trans (u_0 b hb j)
  have zz_1 : ∀ b, o < b → b < o + 2 + K → ∀ j, c_1 b j = 0 := fun b hb1 hb2 j => by
    by_cases e : b < o + 1
    · rw [u_1 b (by omega) j]; exact zz_0 b hb1 e j
    · exact z_1 b (by omega) (by omega) j
  refine am_E.go (t2 := (53, [vR o, vI (n : Int), vU], [vR o], aq_h (o + 2 + K) s_1 F_1 c_1)) rfl rfl ?_
  refine am_E.go (t2 := (54, [vR o, vI (n : Int), vU], [vR o, vR o], aq_h (o + 2 + K) s_1 F_1 c_1)) rfl rfl ?_
  refine aq_gf (v := vI ((K : Int))) rfl (by omega) y_1 (by decide) rfl ?_
  show am_E _ (57, [vR o, vI (n : Int), vU], [vI ((K : Int)), vR o], aq_h (o + 2 + K) s_1 F_1 c_1) _
  refine aq_stp (o := o) (n := K) (a := o + 2 + K) (m2 := o + 3 + K) rfl rfl y_1 (by omega) (by decide) (by omega) (by omega) rfl (by decide) (by omega) (by omega) ?_
  intro s_2 F_2 c_2 es_2 y_2 a_2 o_2 z_2 u_2
  show am_E _ (62, [vR o, vI (n : Int), vU], [], aq_h (o + 3 + K) s_2 F_2 c_2) _
  have ga1_2 : F_2 (o + 1) = (3, K, fun j => aq_g K j (o + 1 + 1 + j)) := by rw [o_2 _ (by omega) (by omega)]; exact ga1_1
  have gr1_2 : ∀ b, b < K → F_2 (o + 1 + 1 + b) = (0, 2 * n, fun _ => .inl 0) := fun b hb => by rw [o_2 _ (by omega) (by omega)]; exact gr1_1 b hb
  have ga2_2 : F_2 (o + 2 + K) = (0, K, fun _ => .inl 0) := a_2
  have f_2 : ∀ b, b < o → F_2 b = F b := fun b hb => (o_2 b (by omega) (by omega)).trans (f_1 b hb)
  have v_2 : ∀ b, b < o → ∀ j, c_2 b j = c b j := fun b hb j => (u_2 b (by omega) j).trans (v_1 b hb j)
  have zz_2 : ∀ b, o < b → b < o + 3 + K → ∀ j, c_2 b j = 0 := fun b hb1 hb2 j => by
    by_cases e : b < o + 2 + K
    · rw [u_2 b (by omega) j]; exact zz_1 b hb1 e j
    · obtain rfl : b = o + 2 + K := by omega
      exact z_2 j
  refine am_E.go (t2 := (63, [vR o, vI (n : Int), vU], [vR o], aq_h (o + 3 + K) s_2 F_2 c_2)) rfl rfl ?_
  refine am_E.go (t2 := (64, [vR o, vI (n : Int), vU], [vR o, vR o], aq_h (o + 3 + K) s_2 F_2 c_2)) rfl rfl ?_
  refine aq_gf (v := vI ((K : Int))) rfl (by omega) y_2 (by decide) rfl ?_
  show am_E _ (67, [vR o, vI (n : Int), vU], [vI ((K : Int)), vR o], aq_h (o + 3 + K) s_2 F_2 c_2) _
  refine aq_stp (o := o) (n := K) (a := o + 3 + K) (m2 := o + 4 + K) rfl rfl y_2 (by omega) (by decide) (by omega) (by omega) rfl (by decide) (by omega) (by omega) ?_
  intro s_3 F_3 c_3 es_3 y_3 a_3 o_3 z_3 u_3
  show am_E _ (72, [vR o, vI (n : Int), vU], [], aq_h (o + 4 + K) s_3 F_3 c_3) _
  have ga1_3 : F_3 (o + 1) = (3, K, fun j => aq_g K j (o + 1 + 1 + j)) := by rw [o_3 _ (by omega) (by omega)]; exact ga1_2
  have gr1_3 : ∀ b, b < K → F_3 (o + 1 + 1 + b) = (0, 2 * n, fun _ => .inl 0) := fun b hb => by rw [o_3 _ (by omega) (by omega)]; exact gr1_2 b hb
  have ga2_3 : F_3 (o + 2 + K) = (0, K, fun _ => .inl 0) := by rw [o_3 _ (by omega) (by omega)]; exact ga2_2
  have ga3_3 : F_3 (o + 3 + K) = (0, K, fun _ => .inl 0) := a_3
  have f_3 : ∀ b, b < o → F_3 b = F b := fun b hb => (o_3 b (by omega) (by omega)).trans (f_2 b hb)
  have v_3 : ∀ b, b < o → ∀ j, c_3 b j = c b j := fun b hb j => (u_3 b (by omega) j).trans (v_2 b hb j)
  have zz_3 : ∀ b, o < b → b < o + 4 + K → ∀ j, c_3 b j = 0 := fun b hb1 hb2 j => by
    by_cases e : b < o + 3 + K
    · rw [u_3 b (by omega) j]; exact zz_2 b hb1 e j
    · obtain rfl : b = o + 3 + K := by omega
      exact z_3 j
  refine am_E.go (t2 := (73, [vR o, vI (n : Int), vU], [vR o], aq_h (o + 4 + K) s_3 F_3 c_3)) rfl rfl ?_
  refine am_E.go (t2 := (74, [vR o, vI (n : Int), vU], [vR o, vR o], aq_h (o + 4 + K) s_3 F_3 c_3)) rfl rfl ?_
  refine aq_gf (v := vI ((K : Int))) rfl (by omega) y_3 (by decide) rfl ?_
  show am_E _ (77, [vR o, vI (n : Int), vU], [vI (K : Int), vR o], aq_h (o + 4 + K) s_3 F_3 c_3) _
  refine am_E.go (t2 := (79, [vR o, vI (n : Int), vU], [vI 6, vI (K : Int), vR o], aq_h (o + 4 + K) s_3 F_3 c_3)) rfl rfl ?_
  refine aq_gst (o := o) (n := K) (w := 6) (a := o + 4 + K) (m2 := o + 5 + 2 * K) rfl rfl y_3 (by omega) rfl (by omega) (by omega) (by omega) rfl (by decide) (by omega) (by omega) ?_
  intro s_4 F_4 c_4 es_4 y_4 a_4 r_4 o_4 z_4 u_4
  show am_E _ (86, [vR o, vI (n : Int), vU], [], aq_h (o + 5 + 2 * K) s_4 F_4 c_4) _
  have ga1_4 : F_4 (o + 1) = (3, K, fun j => aq_g K j (o + 1 + 1 + j)) := by rw [o_4 _ (by omega) (by omega)]; exact ga1_3
  have gr1_4 : ∀ b, b < K → F_4 (o + 1 + 1 + b) = (0, 2 * n, fun _ => .inl 0) := fun b hb => by rw [o_4 _ (by omega) (by omega)]; exact gr1_3 b hb
  have ga2_4 : F_4 (o + 2 + K) = (0, K, fun _ => .inl 0) := by rw [o_4 _ (by omega) (by omega)]; exact ga2_3
  have ga3_4 : F_4 (o + 3 + K) = (0, K, fun _ => .inl 0) := by rw [o_4 _ (by omega) (by omega)]; exact ga3_3
  have ga4_4 : F_4 (o + 4 + K) = (3, K, fun j => aq_g K j (o + 4 + K + 1 + j)) := a_4
  have gr4_4 : ∀ b, b < K → F_4 (o + 4 + K + 1 + b) = (0, 6, fun _ => .inl 0) := r_4
  have f_4 : ∀ b, b < o → F_4 b = F b := fun b hb => (o_4 b (by omega) (by omega)).trans (f_3 b hb)
  have v_4 : ∀ b, b < o → ∀ j, c_4 b j = c b j := fun b hb j => (u_4 b (by omega) j).trans (v_3 b hb j)
  have zz_4 : ∀ b, o < b → b < o + 5 + 2 * K → ∀ j, c_4 b j = 0 := fun b hb1 hb2 j => by
    by_cases e : b < o + 4 + K
    · rw [u_4 b (by omega) j]; exact zz_3 b hb1 e j
    · exact z_4 b (by omega) (by omega) j
  refine am_E.go (t2 := (87, [vR o, vI (n : Int), vU], [vR o], aq_h (o + 5 + 2 * K) s_4 F_4 c_4)) rfl rfl ?_
  refine am_E.go (t2 := (88, [vR o, vI (n : Int), vU], [vR o, vR o], aq_h (o + 5 + 2 * K) s_4 F_4 c_4)) rfl rfl ?_
  refine aq_gf (v := vI ((K : Int))) rfl (by omega) y_4 (by decide) rfl ?_
  show am_E _ (91, [vR o, vI (n : Int), vU], [vI (K : Int), vR o], aq_h (o + 5 + 2 * K) s_4 F_4 c_4) _
  refine am_E.go (t2 := (92, [vR o, vI (n : Int), vU], [vR o, vI (K : Int), vR o], aq_h (o + 5 + 2 * K) s_4 F_4 c_4)) rfl rfl ?_
  refine aq_gf (v := vI (2 * (n : Int) - 2)) rfl (by omega) y_4 (by decide) rfl ?_
  show am_E _ (95, [vR o, vI (n : Int), vU], [vI (2 * (n : Int) - 2), vI (K : Int), vR o], aq_h (o + 5 + 2 * K) s_4 F_4 c_4) _
  refine aq_gst (o := o) (n := K) (w := 2 * n - 2) (a := o + 5 + 2 * K) (m2 := o + 6 + 3 * K) rfl rfl y_4 (by omega) rfl (by omega) (by omega) (by omega) rfl (by decide) (by omega) (by omega) ?_
  intro s_5 F_5 c_5 es_5 y_5 a_5 r_5 o_5 z_5 u_5
  show am_E _ (102, [vR o, vI (n : Int), vU], [], aq_h (o + 6 + 3 * K) s_5 F_5 c_5) _
  have ga1_5 : F_5 (o + 1) = (3, K, fun j => aq_g K j (o + 1 + 1 + j)) := by rw [o_5 _ (by omega) (by omega)]; exact ga1_4
  have gr1_5 : ∀ b, b < K → F_5 (o + 1 + 1 + b) = (0, 2 * n, fun _ => .inl 0) := fun b hb => by rw [o_5 _ (by omega) (by omega)]; exact gr1_4 b hb
  have ga2_5 : F_5 (o + 2 + K) = (0, K, fun _ => .inl 0) := by rw [o_5 _ (by omega) (by omega)]; exact ga2_4
  have ga3_5 : F_5 (o + 3 + K) = (0, K, fun _ => .inl 0) := by rw [o_5 _ (by omega) (by omega)]; exact ga3_4
  have ga4_5 : F_5 (o + 4 + K) = (3, K, fun j => aq_g K j (o + 4 + K + 1 + j)) := by rw [o_5 _ (by omega) (by omega)]; exact ga4_4
  have gr4_5 : ∀ b, b < K → F_5 (o + 4 + K + 1 + b) = (0, 6, fun _ => .inl 0) := fun b hb => by rw [o_5 _ (by omega) (by omega)]; exact gr4_4 b hb
  have ga5_5 : F_5 (o + 5 + 2 * K) = (3, K, fun j => aq_g K j (o + 5 + 2 * K + 1 + j)) := a_5
  have gr5_5 : ∀ b, b < K → F_5 (o + 5 + 2 * K + 1 + b) = (0, 2 * n - 2, fun _ => .inl 0) := r_5
  have f_5 : ∀ b, b < o → F_5 b = F b := fun b hb => (o_5 b (by omega) (by omega)).trans (f_4 b hb)
  have v_5 : ∀ b, b < o → ∀ j, c_5 b j = c b j := fun b hb j => (u_5 b (by omega) j).trans (v_4 b hb j)
  have zz_5 : ∀ b, o < b → b < o + 6 + 3 * K → ∀ j, c_5 b j = 0 := fun b hb1 hb2 j => by
    by_cases e : b < o + 5 + 2 * K
    · rw [u_5 b (by omega) j]; exact zz_4 b hb1 e j
    · exact z_5 b (by omega) (by omega) j
  refine am_E.go (t2 := (103, [vR o, vI (n : Int), vU], [vR o], aq_h (o + 6 + 3 * K) s_5 F_5 c_5)) rfl rfl ?_
  refine am_E.go (t2 := (104, [vR o, vI (n : Int), vU], [vR o, vR o], aq_h (o + 6 + 3 * K) s_5 F_5 c_5)) rfl rfl ?_
  refine aq_gf (v := vI (2 * (n : Int))) rfl (by omega) y_5 (by decide) rfl ?_
  show am_E _ (107, [vR o, vI (n : Int), vU], [vI (2 * (n : Int)), vR o], aq_h (o + 6 + 3 * K) s_5 F_5 c_5) _
  refine aq_stp (o := o) (n := 2 * n) (a := o + 6 + 3 * K) (m2 := o + 7 + 3 * K) rfl rfl y_5 (by omega) (by decide) (by omega) (by omega) rfl (by decide) (by omega) (by omega) ?_
  intro s_6 F_6 c_6 es_6 y_6 a_6 o_6 z_6 u_6
  show am_E _ (112, [vR o, vI (n : Int), vU], [], aq_h (o + 7 + 3 * K) s_6 F_6 c_6) _
  have ga1_6 : F_6 (o + 1) = (3, K, fun j => aq_g K j (o + 1 + 1 + j)) := by rw [o_6 _ (by omega) (by omega)]; exact ga1_5
  have gr1_6 : ∀ b, b < K → F_6 (o + 1 + 1 + b) = (0, 2 * n, fun _ => .inl 0) := fun b hb => by rw [o_6 _ (by omega) (by omega)]; exact gr1_5 b hb
  have ga2_6 : F_6 (o + 2 + K) = (0, K, fun _ => .inl 0) := by rw [o_6 _ (by omega) (by omega)]; exact ga2_5
  have ga3_6 : F_6 (o + 3 + K) = (0, K, fun _ => .inl 0) := by rw [o_6 _ (by omega) (by omega)]; exact ga3_5
  have ga4_6 : F_6 (o + 4 + K) = (3, K, fun j => aq_g K j (o + 4 + K + 1 + j)) := by rw [o_6 _ (by omega) (by omega)]; exact ga4_5
  have gr4_6 : ∀ b, b < K → F_6 (o + 4 + K + 1 + b) = (0, 6, fun _ => .inl 0) := fun b hb => by rw [o_6 _ (by omega) (by omega)]; exact gr4_5 b hb
  have ga5_6 : F_6 (o + 5 + 2 * K) = (3, K, fun j => aq_g K j (o + 5 + 2 * K + 1 + j)) := by rw [o_6 _ (by omega) (by omega)]; exact ga5_5
  have gr5_6 : ∀ b, b < K → F_6 (o + 5 + 2 * K + 1 + b) = (0, 2 * n - 2, fun _ => .inl 0) := fun b hb => by rw [o_6 _ (by omega) (by omega)]; exact gr5_5 b hb
  have ga6_6 : F_6 (o + 6 + 3 * K) = (0, 2 * n, fun _ => .inl 0) := a_6
  have f_6 : ∀ b, b < o → F_6 b = F b := fun b hb => (o_6 b (by omega) (by omega)).trans (f_5 b hb)
  have v_6 : ∀ b, b < o → ∀ j, c_6 b j = c b j := fun b hb j => (u_6 b (by omega) j).trans (v_5 b hb j)
  have zz_6 : ∀ b, o < b → b < o + 7 + 3 * K → ∀ j, c_6 b j = 0 := fun b hb1 hb2 j => by
    by_cases e : b < o + 6 + 3 * K
    · rw [u_6 b (by omega) j]; exact zz_5 b hb1 e j
    · obtain rfl : b = o + 6 + 3 * K := by omega
      exact z_6 j
  refine am_E.go (t2 := (113, [vR o, vI (n : Int), vU], [vR o], aq_h (o + 7 + 3 * K) s_6 F_6 c_6)) rfl rfl ?_
  refine am_E.go (t2 := (114, [vR o, vI (n : Int), vU], [vR o, vR o], aq_h (o + 7 + 3 * K) s_6 F_6 c_6)) rfl rfl ?_
  refine aq_gf (v := vI (2 * (n : Int))) rfl (by omega) y_6 (by decide) rfl ?_
  show am_E _ (117, [vR o, vI (n : Int), vU], [vI (2 * (n : Int)), vR o], aq_h (o + 7 + 3 * K) s_6 F_6 c_6) _
  refine aq_stp (o := o) (n := 2 * n) (a := o + 7 + 3 * K) (m2 := o + 8 + 3 * K) rfl rfl y_6 (by omega) (by decide) (by omega) (by omega) rfl (by decide) (by omega) (by omega) ?_
  intro s_7 F_7 c_7 es_7 y_7 a_7 o_7 z_7 u_7
  show am_E _ (122, [vR o, vI (n : Int), vU], [], aq_h (o + 8 + 3 * K) s_7 F_7 c_7) _
  have ga1_7 : F_7 (o + 1) = (3, K, fun j => aq_g K j (o + 1 + 1 + j)) := by rw [o_7 _ (by omega) (by omega)]; exact ga1_6
  have gr1_7 : ∀ b, b < K → F_7 (o + 1 + 1 + b) = (0, 2 * n, fun _ => .inl 0) := fun b hb => by rw [o_7 _ (by omega) (by omega)]; exact gr1_6 b hb
  have ga2_7 : F_7 (o + 2 + K) = (0, K, fun _ => .inl 0) := by rw [o_7 _ (by omega) (by omega)]; exact ga2_6
  have ga3_7 : F_7 (o + 3 + K) = (0, K, fun _ => .inl 0) := by rw [o_7 _ (by omega) (by omega)]; exact ga3_6
  have ga4_7 : F_7 (o + 4 + K) = (3, K, fun j => aq_g K j (o + 4 + K + 1 + j)) := by rw [o_7 _ (by omega) (by omega)]; exact ga4_6
  have gr4_7 : ∀ b, b < K → F_7 (o + 4 + K + 1 + b) = (0, 6, fun _ => .inl 0) := fun b hb => by rw [o_7 _ (by omega) (by omega)]; exact gr4_6 b hb
  have ga5_7 : F_7 (o + 5 + 2 * K) = (3, K, fun j => aq_g K j (o + 5 + 2 * K + 1 + j)) := by rw [o_7 _ (by omega) (by omega)]; exact ga5_6
  have gr5_7 : ∀ b, b < K → F_7 (o + 5 + 2 * K + 1 + b) = (0, 2 * n - 2, fun _ => .inl 0) := fun b hb => by rw [o_7 _ (by omega) (by omega)]; exact gr5_6 b hb
  have ga6_7 : F_7 (o + 6 + 3 * K) = (0, 2 * n, fun _ => .inl 0) := by rw [o_7 _ (by omega) (by omega)]; exact ga6_6
  have ga7_7 : F_7 (o + 7 + 3 * K) = (1, 2 * n, fun _ => .inl 0) := a_7
  have f_7 : ∀ b, b < o → F_7 b = F b := fun b hb => (o_7 b (by omega) (by omega)).trans (f_6 b hb)
  have v_7 : ∀ b, b < o → ∀ j, c_7 b j = c b j := fun b hb j => (u_7 b (by omega) j).trans (v_6 b hb j)
  have zz_7 : ∀ b, o < b → b < o + 8 + 3 * K → ∀ j, c_7 b j = 0 := fun b hb1 hb2 j => by
    by_cases e : b < o + 7 + 3 * K
    · rw [u_7 b (by omega) j]; exact zz_6 b hb1 e j
    · obtain rfl : b = o + 7 + 3 * K := by omega
      exact z_7 j
  have et : am_up (am_up (am_up (am_up (am_up (am_up (am_up (bx_t1 n K) 4 (.inr (vR (o + 1)))) 5 (.inr (vR (o + 2 + K)))) 6 (.inr (vR (o + 3 + K)))) 7 (.inr (vR (o + 4 + K)))) 8 (.inr (vR (o + 5 + 2 * K)))) 9 (.inr (vR (o + 6 + 3 * K)))) 10 (.inr (vR (o + 7 + 3 * K))) = bx_t o n K := by
    funext k
    match k with
    | 0 => rfl
    | 1 => rfl
    | 2 => rfl
    | 3 => rfl
    | 4 => rfl
    | 5 => rfl
    | 6 => rfl
    | 7 => rfl
    | 8 => rfl
    | 9 => rfl
    | 10 => rfl
    | k + 11 =>
      repeat rw [am_up_n (by omega)]
      rfl
  rw [et] at y_7
  have b1 : K * (2 * n) ≤ 105 * 8 := Nat.mul_le_mul hKb.2 (by omega)
  have b2 : K * (2 * n - 2) ≤ 105 * 6 := Nat.mul_le_mul hKb.2 (by omega)
  refine k s_7 F_7 c_7 (by omega) ⟨y_7, ga6_7, ga7_7, ga1_7, fun b hb => ?_, ga2_7, ga3_7, ?_, fun b hb => ?_, ?_, fun b hb => ?_⟩ f_7 v_7 zz_7
  · rw [show o + 2 + b = o + 1 + 1 + b by omega]; exact gr1_7 b hb
  · rw [ga4_7]; exact congrArg (fun f => (3, K, f)) (funext fun j => by rw [show o + 4 + K + 1 + j = o + 5 + K + j by omega])
  · rw [show o + 5 + K + b = o + 4 + K + 1 + b by omega]; exact gr4_7 b hb
  · rw [ga5_7]; exact congrArg (fun f => (3, K, f)) (funext fun j => by rw [show o + 5 + 2 * K + 1 + j = o + 6 + 2 * K + j by omega])
  · rw [show o + 6 + 2 * K + b = o + 5 + 2 * K + 1 + b by omega]; exact gr5_7 b hb
/-! Boxes: join, with what it marks and the rings it counts. Printed by wip/p20/sx/gBJ.py. -/

/-- what follow marks: the places between, on the way from p -/
def fv_ (n : Int) (f g : Int → Int) : Nat → Bool → Int → (Int → Int) → Int → Int
  | 0, _, _, w => w
  | d + 1, true, p, w => if n ≤ f p then fv_ n f g d false (f p - n) (dc_u w (f p - n)) else w
  | d + 1, false, p, w => if g p < n then fv_ n f g d true (n + g p) (dc_u w (g p)) else w
theorem fv_le {n : Int} {f g : Int → Int} : ∀ (d k : Nat) (u : Bool) (p : Int) (w : Int → Int), exd n f g d u p → fv_ n f g (d + k) u p w = fv_ n f g d u p w
  | 0, k, u, p, w, h => h.elim
  | d + 1, k, true, p, w, h => by
    rw [show d + 1 + k = (d + k) + 1 by omega, fv_, fv_]
    by_cases e : n ≤ f p
    · rw [if_pos e, if_pos e, fv_le d k false _ _ (h e)]
    · rw [if_neg e, if_neg e]
  | d + 1, k, false, p, w, h => by
    rw [show d + 1 + k = (d + k) + 1 by omega, fv_, fv_]
    by_cases e : g p < n
    · rw [if_pos e, if_pos e, fv_le d k true _ _ (h e)]
    · rw [if_neg e, if_neg e]
/-- all of them -/
def mj_ (n : Int) (f g : Int → Int) : Nat → Int → (Int → Int) → Int → Int
  | 0, _, w => w
  | d + 1, p, w => if p < 2 * n then mj_ n f g d (p + 1) (fv_ n f g 5 (decide (p < n)) p w) else w
/-- the same place on the other side -/
def ac_ (n i : Int) : Int := if i < n then i + n else i - n
/-- the rings between -/
def ci_ (n : Int) (f g : Int → Int) : Nat → Int → Int → (Int → Int) → Int → Int
  | 0, _, _, w => w
  | d + 1, k, a, w => if k < n ∧ w a = 0 then ci_ n f g d (k + 1) (g (ac_ n (f (ac_ n a)))) (dc_u (dc_u w a) (ac_ n (f (ac_ n a)))) else w
def co_ (n : Int) (f g : Int → Int) : Nat → Int → Int → (Int → Int) → Int
  | 0, _, x, _ => x
  | d + 1, p, x, w => if p < n then (if w p = 0 then co_ n f g d (p + 1) (x + 1) (ci_ n f g 9 0 p w) else co_ n f g d (p + 1) x w) else x
/-- join's answer -/
def jn_ (n : Int) (f g : Int → Int) : Int := nu_o (fst_ n f g) (2 * n) 9 0 0 (2 * n - 1) + 1000 * co_ n f g 9 0 0 (mj_ n f g 9 0 (fun _ => 0))

theorem qz_follow_l {m s : Nat} {F : aq_F} {c0 : aq_C} {S : Nat → Prop} {o n K : Nat} (hB : bx_0 m F o n K) (hSs : S (o + 7 + 3 * K)) {tP : Int → Int → Int} (hP : bx_p F o n K tP) {x : Int} (hx0 : 0 ≤ x) (hxK : x < (K : Int)) {y : Int} (hy0 : 0 ≤ y) (hyK : y < (K : Int)) {T start : Int} {Wd : Int → Int} (hfi : fi (n : Int) (tP ((x.toNat : Nat) : Int))) (hgi : fi (n : Int) (tP ((y.toNat : Nat) : Int))) : ∀ (d : Nat) (u : Bool) (p k : Int) (w : Int → Int) (c : aq_C) (hs : aq_sm S c0 c) (hw : ∀ q, 0 ≤ q → q < 2 * (n : Int) → c (o + 7 + 3 * K) q = w q) (h0 : 0 ≤ p) (h1 : p < 2 * (n : Int)) (hk0 : 0 ≤ k) (hk : k + (d : Int) ≤ 2 * (n : Int) + 1) (he : exd (n : Int) (tP ((x.toNat : Nat) : Int)) (tP ((y.toNat : Nat) : Int)) d u p) (hT : ldr (n : Int) (tP ((x.toNat : Nat) : Int)) (tP ((y.toNat : Nat) : Int)) d u p = T) (hW : fv_ (n : Int) (tP ((x.toNat : Nat) : Int)) (tP ((y.toNat : Nat) : Int)) d u p w = Wd), am_E ac_X0_follow (21, [vR o, vR (o + 2 + x.toNat), vR (o + 2 + y.toNat), vI start, vI (if u then 1 else 0), vI p, vI k], [], aq_h m s F c) (aq_Z m s F S c0 (fun r d => r = some (vI T) ∧ ∀ q, 0 ≤ q → q < 2 * (n : Int) → d (o + 7 + 3 * K) q = Wd q))
  | 0, u, p, k, w, c, hs, hw, h0, h1, hk0, hk, he, hT, hW => he.elim
  | d + 1, true, p, k, w, c, hs, hw, h0, h1, hk0, hk, he, hT, hW => by
    obtain ⟨hm, hn1, hn4, hK, hFo, hFd, hFs⟩ := hB
    obtain ⟨hPg, hPr, hPt⟩ := hP
    show am_E _ (21, [vR o, vR (o + 2 + x.toNat), vR (o + 2 + y.toNat), vI start, vI 1, vI p, vI k], [], aq_h m s F c) _
    refine am_E.go (t2 := (23, [vR o, vR (o + 2 + x.toNat), vR (o + 2 + y.toNat), vI start, vI 1, vI p, vI k], [vI k], aq_h m s F c)) rfl rfl ?_
    refine am_E.go (t2 := (24, [vR o, vR (o + 2 + x.toNat), vR (o + 2 + y.toNat), vI start, vI 1, vI p, vI k], [vR o, vI k], aq_h m s F c)) rfl rfl ?_
    refine aq_gf (v := vI (2 * (n : Int))) rfl (by omega) hFo (by decide) rfl ?_
    show am_E _ (27, [vR o, vR (o + 2 + x.toNat), vR (o + 2 + y.toNat), vI start, vI 1, vI p, vI k], [vI (2 * (n : Int)), vI k], aq_h m s F c) _
    refine ae_icmp rfl (fun (q_1 : (2 * (n : Int)) < k) => ?_) (fun (q_1 : k ≤ (2 * (n : Int))) => ?_)
    · exfalso; omega
    · refine am_E.go (t2 := (32, [vR o, vR (o + 2 + x.toNat), vR (o + 2 + y.toNat), vI start, vI 1, vI p, vI k], [vI 1], aq_h m s F c)) rfl rfl ?_
      refine am_E.go (t2 := (35, [vR o, vR (o + 2 + x.toNat), vR (o + 2 + y.toNat), vI start, vI 1, vI p, vI k], [], aq_h m s F c)) rfl rfl ?_
      refine am_E.go (t2 := (36, [vR o, vR (o + 2 + x.toNat), vR (o + 2 + y.toNat), vI start, vI 1, vI p, vI k], [vR (o + 2 + x.toNat)], aq_h m s F c)) rfl rfl ?_
      refine am_E.go (t2 := (38, [vR o, vR (o + 2 + x.toNat), vR (o + 2 + y.toNat), vI start, vI 1, vI p, vI k], [vI p, vR (o + 2 + x.toNat)], aq_h m s F c)) rfl rfl ?_
      refine aq_alt (ok := fun k => k == 0) rfl rfl (by omega) (hPr _ (by omega)) rfl (by omega) (by omega) ?_
      show am_E _ (39, [vR o, vR (o + 2 + x.toNat), vR (o + 2 + y.toNat), vI start, vI 1, vI p, vI k], [vI (tP ((x.toNat : Nat) : Int) p)], aq_h m s F c) _
      have f_2 := hPt ((x.toNat : Nat) : Int) p (by omega) (by omega) (by omega) (by omega)
      refine am_E.go (t2 := (46, [vR o, vR (o + 2 + x.toNat), vR (o + 2 + y.toNat), vI start, vI 1, vI p, vI k], [vI (tP ((x.toNat : Nat) : Int) p)], aq_h m s F c)) rfl rfl ?_
      refine am_E.go (t2 := (48, [vR o, vR (o + 2 + x.toNat), vR (o + 2 + y.toNat), vI start, vI 1, vI (tP ((x.toNat : Nat) : Int) p), vI k], [], aq_h m s F c)) rfl rfl ?_
      refine am_E.go (t2 := (50, [vR o, vR (o + 2 + x.toNat), vR (o + 2 + y.toNat), vI start, vI 1, vI (tP ((x.toNat : Nat) : Int) p), vI k], [vI 1], aq_h m s F c)) rfl rfl ?_
      refine am_E.go (t2 := (52, [vR o, vR (o + 2 + x.toNat), vR (o + 2 + y.toNat), vI start, vI 1, vI (tP ((x.toNat : Nat) : Int) p), vI k], [vI (tP ((x.toNat : Nat) : Int) p), vI 1], aq_h m s F c)) rfl rfl ?_
      refine am_E.go (t2 := (53, [vR o, vR (o + 2 + x.toNat), vR (o + 2 + y.toNat), vI start, vI 1, vI (tP ((x.toNat : Nat) : Int) p), vI k], [vR o, vI (tP ((x.toNat : Nat) : Int) p), vI 1], aq_h m s F c)) rfl rfl ?_
      refine aq_gf (v := vI (n : Int)) rfl (by omega) hFo (by decide) rfl ?_
      show am_E _ (56, [vR o, vR (o + 2 + x.toNat), vR (o + 2 + y.toNat), vI start, vI 1, vI (tP ((x.toNat : Nat) : Int) p), vI k], [vI (n : Int), vI (tP ((x.toNat : Nat) : Int) p), vI 1], aq_h m s F c) _
      refine ae_icmp rfl (fun (q_3 : (n : Int) ≤ (tP ((x.toNat : Nat) : Int) p)) => ?_) (fun (q_3 : (tP ((x.toNat : Nat) : Int) p) < (n : Int)) => ?_)
      · refine am_E.go (t2 := (64, [vR o, vR (o + 2 + x.toNat), vR (o + 2 + y.toNat), vI start, vI 1, vI (tP ((x.toNat : Nat) : Int) p), vI k], [vI 0, vI 1], aq_h m s F c)) rfl rfl ?_
        refine am_E.go (t2 := (70, [vR o, vR (o + 2 + x.toNat), vR (o + 2 + y.toNat), vI start, vI 1, vI (tP ((x.toNat : Nat) : Int) p), vI k], [], aq_h m s F c)) rfl rfl ?_
        refine am_E.go (t2 := (71, [vR o, vR (o + 2 + x.toNat), vR (o + 2 + y.toNat), vI start, vI 1, vI (tP ((x.toNat : Nat) : Int) p), vI k], [vR o], aq_h m s F c)) rfl rfl ?_
        refine aq_gf (v := vR (o + 7 + 3 * K)) rfl (by omega) hFo (by decide) rfl ?_
        show am_E _ (74, [vR o, vR (o + 2 + x.toNat), vR (o + 2 + y.toNat), vI start, vI 1, vI (tP ((x.toNat : Nat) : Int) p), vI k], [vR (o + 7 + 3 * K)], aq_h m s F c) _
        refine am_E.go (t2 := (76, [vR o, vR (o + 2 + x.toNat), vR (o + 2 + y.toNat), vI start, vI 1, vI (tP ((x.toNat : Nat) : Int) p), vI k], [vI 1, vR (o + 7 + 3 * K)], aq_h m s F c)) rfl rfl ?_
        refine am_E.go (t2 := (79, [vR o, vR (o + 2 + x.toNat), vR (o + 2 + y.toNat), vI start, vI 1, vI (tP ((x.toNat : Nat) : Int) p), vI k], [vR (o + 7 + 3 * K)], aq_h m s F c)) rfl rfl ?_
        refine am_E.go (t2 := (81, [vR o, vR (o + 2 + x.toNat), vR (o + 2 + y.toNat), vI start, vI 1, vI (tP ((x.toNat : Nat) : Int) p), vI k], [vI (tP ((x.toNat : Nat) : Int) p), vR (o + 7 + 3 * K)], aq_h m s F c)) rfl rfl ?_
        refine am_E.go (t2 := (82, [vR o, vR (o + 2 + x.toNat), vR (o + 2 + y.toNat), vI start, vI 1, vI (tP ((x.toNat : Nat) : Int) p), vI k], [vR o, vI (tP ((x.toNat : Nat) : Int) p), vR (o + 7 + 3 * K)], aq_h m s F c)) rfl rfl ?_
        refine aq_gf (v := vI (n : Int)) rfl (by omega) hFo (by decide) rfl ?_
        show am_E _ (85, [vR o, vR (o + 2 + x.toNat), vR (o + 2 + y.toNat), vI start, vI 1, vI (tP ((x.toNat : Nat) : Int) p), vI k], [vI (n : Int), vI (tP ((x.toNat : Nat) : Int) p), vR (o + 7 + 3 * K)], aq_h m s F c) _
        refine ae_sub rfl (am_ri (by omega) (by omega)) ?_
        show am_E _ (86, [vR o, vR (o + 2 + x.toNat), vR (o + 2 + y.toNat), vI start, vI 1, vI (tP ((x.toNat : Nat) : Int) p), vI k], [vI ((tP ((x.toNat : Nat) : Int) p) - (n : Int)), vR (o + 7 + 3 * K)], aq_h m s F c) _
        refine am_E.go (t2 := (91, [vR o, vR (o + 2 + x.toNat), vR (o + 2 + y.toNat), vI start, vI 1, vI (tP ((x.toNat : Nat) : Int) p), vI k], [vI ((tP ((x.toNat : Nat) : Int) p) - (n : Int)), vR (o + 7 + 3 * K)], aq_h m s F c)) rfl rfl ?_
        refine am_E.go (t2 := (92, [vR o, vR (o + 2 + x.toNat), vR (o + 2 + y.toNat), vI start, vI 1, vI (tP ((x.toNat : Nat) : Int) p), vI k], [vI 1, vI ((tP ((x.toNat : Nat) : Int) p) - (n : Int)), vR (o + 7 + 3 * K)], aq_h m s F c)) rfl rfl ?_
        refine aq_as (kd := 1) rfl rfl (by omega) hFs (by omega) (by omega) rfl rfl ?_
        show am_E _ (93, [vR o, vR (o + 2 + x.toNat), vR (o + 2 + y.toNat), vI start, vI 1, vI (tP ((x.toNat : Nat) : Int) p), vI k], [], aq_h m s F (aq_u c (o + 7 + 3 * K) ((tP ((x.toNat : Nat) : Int) p) - (n : Int)) 1)) _
        generalize hdc_4 : aq_u c (o + 7 + 3 * K) ((tP ((x.toNat : Nat) : Int) p) - (n : Int)) 1 = c_4
        have sc_4 := aq_smu hs hdc_4 hSs
        refine am_E.go (t2 := (94, [vR o, vR (o + 2 + x.toNat), vR (o + 2 + y.toNat), vI start, vI 1, vI (tP ((x.toNat : Nat) : Int) p), vI k], [vR o], aq_h m s F c_4)) rfl rfl ?_
        refine am_E.go (t2 := (96, [vR o, vR (o + 2 + x.toNat), vR (o + 2 + y.toNat), vI start, vI 1, vI (tP ((x.toNat : Nat) : Int) p), vI k], [vI (tP ((x.toNat : Nat) : Int) p), vR o], aq_h m s F c_4)) rfl rfl ?_
        refine aq_callv (y := 2) (as2 := [vI (tP ((x.toNat : Nat) : Int) p)]) (rest := []) rfl rfl (by decide) (Nat.le_of_ble_eq_true rfl) rfl rfl (Nat.le_of_ble_eq_true rfl) (by omega) hFo rfl (Nat.le_of_ble_eq_true rfl) (qn_X0_across ⟨hm, hn1, hn4, hK, hFo, hFd, hFs⟩ (by omega) (by omega)) ?_
        rintro r5 h5 ⟨rfl, v_5, rfl, hv_5⟩
        show am_E _ (99, [vR o, vR (o + 2 + x.toNat), vR (o + 2 + y.toNat), vI start, vI 1, vI (tP ((x.toNat : Nat) : Int) p), vI k], [vI v_5], aq_h m s F c_4) _
        refine am_E.go (t2 := (101, [vR o, vR (o + 2 + x.toNat), vR (o + 2 + y.toNat), vI start, vI 1, vI v_5, vI k], [], aq_h m s F c_4)) rfl rfl ?_
        refine am_E.go (t2 := (103, [vR o, vR (o + 2 + x.toNat), vR (o + 2 + y.toNat), vI start, vI 1, vI v_5, vI k], [vI 1], aq_h m s F c_4)) rfl rfl ?_
        refine am_E.go (t2 := (110, [vR o, vR (o + 2 + x.toNat), vR (o + 2 + y.toNat), vI start, vI 1, vI v_5, vI k], [], aq_h m s F c_4)) rfl rfl ?_
        refine am_E.go (t2 := (111, [vR o, vR (o + 2 + x.toNat), vR (o + 2 + y.toNat), vI start, vI 1, vI v_5, vI k], [vI 0], aq_h m s F c_4)) rfl rfl ?_
        refine am_E.go (t2 := (113, [vR o, vR (o + 2 + x.toNat), vR (o + 2 + y.toNat), vI start, vI 0, vI v_5, vI k], [], aq_h m s F c_4)) rfl rfl ?_
        refine ae_iinc rfl rfl (am_ri (by omega) (by omega)) ?_
        show am_E _ (116, [vR o, vR (o + 2 + x.toNat), vR (o + 2 + y.toNat), vI start, vI 0, vI v_5, vI (k + 1)], [], aq_h m s F c_4) _
        refine am_E.go (t2 := (21, [vR o, vR (o + 2 + x.toNat), vR (o + 2 + y.toNat), vI start, vI 0, vI v_5, vI (k + 1)], [], aq_h m s F c_4)) rfl rfl ?_
        have e_v : v_5 = (tP ((x.toNat : Nat) : Int) p) - (n : Int) := by omega
        refine qz_follow_l ⟨hm, hn1, hn4, hK, hFo, hFd, hFs⟩ hSs ⟨hPg, hPr, hPt⟩ hx0 hxK hy0 hyK hfi hgi d false v_5 (k + 1) (dc_u w ((tP ((x.toNat : Nat) : Int) p) - (n : Int))) c_4 sc_4 (dc_ac2 hw hdc_4) (by omega) (by omega) (by omega) (by omega) (by rw [e_v]; exact he (by omega)) (by rw [← hT, ldr, if_pos (by omega), e_v]) (by rw [← hW, fv_, if_pos (by omega), e_v])
      · refine am_E.go (t2 := (60, [vR o, vR (o + 2 + x.toNat), vR (o + 2 + y.toNat), vI start, vI 1, vI (tP ((x.toNat : Nat) : Int) p), vI k], [vI 1, vI 1], aq_h m s F c)) rfl rfl ?_
        refine am_E.go (t2 := (64, [vR o, vR (o + 2 + x.toNat), vR (o + 2 + y.toNat), vI start, vI 1, vI (tP ((x.toNat : Nat) : Int) p), vI k], [vI 1, vI 1], aq_h m s F c)) rfl rfl ?_
        refine am_E.go (t2 := (67, [vR o, vR (o + 2 + x.toNat), vR (o + 2 + y.toNat), vI start, vI 1, vI (tP ((x.toNat : Nat) : Int) p), vI k], [], aq_h m s F c)) rfl rfl ?_
        refine am_E.go (t2 := (69, [vR o, vR (o + 2 + x.toNat), vR (o + 2 + y.toNat), vI start, vI 1, vI (tP ((x.toNat : Nat) : Int) p), vI k], [vI (tP ((x.toNat : Nat) : Int) p)], aq_h m s F c)) rfl rfl ?_
        refine am_E.ret rfl rfl ?_
        exact ⟨_, rfl, hs, by rw [← hT, ldr, if_neg (by omega)], by rw [← hW, fv_, if_neg (by omega)]; exact hw⟩
  | d + 1, false, p, k, w, c, hs, hw, h0, h1, hk0, hk, he, hT, hW => by
    obtain ⟨hm, hn1, hn4, hK, hFo, hFd, hFs⟩ := hB
    obtain ⟨hPg, hPr, hPt⟩ := hP
    show am_E _ (21, [vR o, vR (o + 2 + x.toNat), vR (o + 2 + y.toNat), vI start, vI 0, vI p, vI k], [], aq_h m s F c) _
    refine am_E.go (t2 := (23, [vR o, vR (o + 2 + x.toNat), vR (o + 2 + y.toNat), vI start, vI 0, vI p, vI k], [vI k], aq_h m s F c)) rfl rfl ?_
    refine am_E.go (t2 := (24, [vR o, vR (o + 2 + x.toNat), vR (o + 2 + y.toNat), vI start, vI 0, vI p, vI k], [vR o, vI k], aq_h m s F c)) rfl rfl ?_
    refine aq_gf (v := vI (2 * (n : Int))) rfl (by omega) hFo (by decide) rfl ?_
    show am_E _ (27, [vR o, vR (o + 2 + x.toNat), vR (o + 2 + y.toNat), vI start, vI 0, vI p, vI k], [vI (2 * (n : Int)), vI k], aq_h m s F c) _
    refine ae_icmp rfl (fun (q_1 : (2 * (n : Int)) < k) => ?_) (fun (q_1 : k ≤ (2 * (n : Int))) => ?_)
    · exfalso; omega
    · refine am_E.go (t2 := (32, [vR o, vR (o + 2 + x.toNat), vR (o + 2 + y.toNat), vI start, vI 0, vI p, vI k], [vI 0], aq_h m s F c)) rfl rfl ?_
      refine am_E.go (t2 := (42, [vR o, vR (o + 2 + x.toNat), vR (o + 2 + y.toNat), vI start, vI 0, vI p, vI k], [], aq_h m s F c)) rfl rfl ?_
      refine am_E.go (t2 := (43, [vR o, vR (o + 2 + x.toNat), vR (o + 2 + y.toNat), vI start, vI 0, vI p, vI k], [vR (o + 2 + y.toNat)], aq_h m s F c)) rfl rfl ?_
      refine am_E.go (t2 := (45, [vR o, vR (o + 2 + x.toNat), vR (o + 2 + y.toNat), vI start, vI 0, vI p, vI k], [vI p, vR (o + 2 + y.toNat)], aq_h m s F c)) rfl rfl ?_
      refine aq_alt (ok := fun k => k == 0) rfl rfl (by omega) (hPr _ (by omega)) rfl (by omega) (by omega) ?_
      show am_E _ (46, [vR o, vR (o + 2 + x.toNat), vR (o + 2 + y.toNat), vI start, vI 0, vI p, vI k], [vI (tP ((y.toNat : Nat) : Int) p)], aq_h m s F c) _
      have f_2 := hPt ((y.toNat : Nat) : Int) p (by omega) (by omega) (by omega) (by omega)
      refine am_E.go (t2 := (48, [vR o, vR (o + 2 + x.toNat), vR (o + 2 + y.toNat), vI start, vI 0, vI (tP ((y.toNat : Nat) : Int) p), vI k], [], aq_h m s F c)) rfl rfl ?_
      refine am_E.go (t2 := (50, [vR o, vR (o + 2 + x.toNat), vR (o + 2 + y.toNat), vI start, vI 0, vI (tP ((y.toNat : Nat) : Int) p), vI k], [vI 0], aq_h m s F c)) rfl rfl ?_
      refine am_E.go (t2 := (52, [vR o, vR (o + 2 + x.toNat), vR (o + 2 + y.toNat), vI start, vI 0, vI (tP ((y.toNat : Nat) : Int) p), vI k], [vI (tP ((y.toNat : Nat) : Int) p), vI 0], aq_h m s F c)) rfl rfl ?_
      refine am_E.go (t2 := (53, [vR o, vR (o + 2 + x.toNat), vR (o + 2 + y.toNat), vI start, vI 0, vI (tP ((y.toNat : Nat) : Int) p), vI k], [vR o, vI (tP ((y.toNat : Nat) : Int) p), vI 0], aq_h m s F c)) rfl rfl ?_
      refine aq_gf (v := vI (n : Int)) rfl (by omega) hFo (by decide) rfl ?_
      show am_E _ (56, [vR o, vR (o + 2 + x.toNat), vR (o + 2 + y.toNat), vI start, vI 0, vI (tP ((y.toNat : Nat) : Int) p), vI k], [vI (n : Int), vI (tP ((y.toNat : Nat) : Int) p), vI 0], aq_h m s F c) _
      refine ae_icmp rfl (fun (q_3 : (n : Int) ≤ (tP ((y.toNat : Nat) : Int) p)) => ?_) (fun (q_3 : (tP ((y.toNat : Nat) : Int) p) < (n : Int)) => ?_)
      · refine am_E.go (t2 := (64, [vR o, vR (o + 2 + x.toNat), vR (o + 2 + y.toNat), vI start, vI 0, vI (tP ((y.toNat : Nat) : Int) p), vI k], [vI 0, vI 0], aq_h m s F c)) rfl rfl ?_
        refine am_E.go (t2 := (67, [vR o, vR (o + 2 + x.toNat), vR (o + 2 + y.toNat), vI start, vI 0, vI (tP ((y.toNat : Nat) : Int) p), vI k], [], aq_h m s F c)) rfl rfl ?_
        refine am_E.go (t2 := (69, [vR o, vR (o + 2 + x.toNat), vR (o + 2 + y.toNat), vI start, vI 0, vI (tP ((y.toNat : Nat) : Int) p), vI k], [vI (tP ((y.toNat : Nat) : Int) p)], aq_h m s F c)) rfl rfl ?_
        refine am_E.ret rfl rfl ?_
        exact ⟨_, rfl, hs, by rw [← hT, ldr, if_neg (by omega)], by rw [← hW, fv_, if_neg (by omega)]; exact hw⟩
      · refine am_E.go (t2 := (60, [vR o, vR (o + 2 + x.toNat), vR (o + 2 + y.toNat), vI start, vI 0, vI (tP ((y.toNat : Nat) : Int) p), vI k], [vI 1, vI 0], aq_h m s F c)) rfl rfl ?_
        refine am_E.go (t2 := (64, [vR o, vR (o + 2 + x.toNat), vR (o + 2 + y.toNat), vI start, vI 0, vI (tP ((y.toNat : Nat) : Int) p), vI k], [vI 1, vI 0], aq_h m s F c)) rfl rfl ?_
        refine am_E.go (t2 := (70, [vR o, vR (o + 2 + x.toNat), vR (o + 2 + y.toNat), vI start, vI 0, vI (tP ((y.toNat : Nat) : Int) p), vI k], [], aq_h m s F c)) rfl rfl ?_
        refine am_E.go (t2 := (71, [vR o, vR (o + 2 + x.toNat), vR (o + 2 + y.toNat), vI start, vI 0, vI (tP ((y.toNat : Nat) : Int) p), vI k], [vR o], aq_h m s F c)) rfl rfl ?_
        refine aq_gf (v := vR (o + 7 + 3 * K)) rfl (by omega) hFo (by decide) rfl ?_
        show am_E _ (74, [vR o, vR (o + 2 + x.toNat), vR (o + 2 + y.toNat), vI start, vI 0, vI (tP ((y.toNat : Nat) : Int) p), vI k], [vR (o + 7 + 3 * K)], aq_h m s F c) _
        refine am_E.go (t2 := (76, [vR o, vR (o + 2 + x.toNat), vR (o + 2 + y.toNat), vI start, vI 0, vI (tP ((y.toNat : Nat) : Int) p), vI k], [vI 0, vR (o + 7 + 3 * K)], aq_h m s F c)) rfl rfl ?_
        refine am_E.go (t2 := (89, [vR o, vR (o + 2 + x.toNat), vR (o + 2 + y.toNat), vI start, vI 0, vI (tP ((y.toNat : Nat) : Int) p), vI k], [vR (o + 7 + 3 * K)], aq_h m s F c)) rfl rfl ?_
        refine am_E.go (t2 := (91, [vR o, vR (o + 2 + x.toNat), vR (o + 2 + y.toNat), vI start, vI 0, vI (tP ((y.toNat : Nat) : Int) p), vI k], [vI (tP ((y.toNat : Nat) : Int) p), vR (o + 7 + 3 * K)], aq_h m s F c)) rfl rfl ?_
        refine am_E.go (t2 := (92, [vR o, vR (o + 2 + x.toNat), vR (o + 2 + y.toNat), vI start, vI 0, vI (tP ((y.toNat : Nat) : Int) p), vI k], [vI 1, vI (tP ((y.toNat : Nat) : Int) p), vR (o + 7 + 3 * K)], aq_h m s F c)) rfl rfl ?_
        refine aq_as (kd := 1) rfl rfl (by omega) hFs (by omega) (by omega) rfl rfl ?_
        show am_E _ (93, [vR o, vR (o + 2 + x.toNat), vR (o + 2 + y.toNat), vI start, vI 0, vI (tP ((y.toNat : Nat) : Int) p), vI k], [], aq_h m s F (aq_u c (o + 7 + 3 * K) (tP ((y.toNat : Nat) : Int) p) 1)) _
        generalize hdc_4 : aq_u c (o + 7 + 3 * K) (tP ((y.toNat : Nat) : Int) p) 1 = c_4
        have sc_4 := aq_smu hs hdc_4 hSs
        refine am_E.go (t2 := (94, [vR o, vR (o + 2 + x.toNat), vR (o + 2 + y.toNat), vI start, vI 0, vI (tP ((y.toNat : Nat) : Int) p), vI k], [vR o], aq_h m s F c_4)) rfl rfl ?_
        refine am_E.go (t2 := (96, [vR o, vR (o + 2 + x.toNat), vR (o + 2 + y.toNat), vI start, vI 0, vI (tP ((y.toNat : Nat) : Int) p), vI k], [vI (tP ((y.toNat : Nat) : Int) p), vR o], aq_h m s F c_4)) rfl rfl ?_
        refine aq_callv (y := 2) (as2 := [vI (tP ((y.toNat : Nat) : Int) p)]) (rest := []) rfl rfl (by decide) (Nat.le_of_ble_eq_true rfl) rfl rfl (Nat.le_of_ble_eq_true rfl) (by omega) hFo rfl (Nat.le_of_ble_eq_true rfl) (qn_X0_across ⟨hm, hn1, hn4, hK, hFo, hFd, hFs⟩ (by omega) (by omega)) ?_
        rintro r5 h5 ⟨rfl, v_5, rfl, hv_5⟩
        show am_E _ (99, [vR o, vR (o + 2 + x.toNat), vR (o + 2 + y.toNat), vI start, vI 0, vI (tP ((y.toNat : Nat) : Int) p), vI k], [vI v_5], aq_h m s F c_4) _
        refine am_E.go (t2 := (101, [vR o, vR (o + 2 + x.toNat), vR (o + 2 + y.toNat), vI start, vI 0, vI v_5, vI k], [], aq_h m s F c_4)) rfl rfl ?_
        refine am_E.go (t2 := (103, [vR o, vR (o + 2 + x.toNat), vR (o + 2 + y.toNat), vI start, vI 0, vI v_5, vI k], [vI 0], aq_h m s F c_4)) rfl rfl ?_
        refine am_E.go (t2 := (106, [vR o, vR (o + 2 + x.toNat), vR (o + 2 + y.toNat), vI start, vI 0, vI v_5, vI k], [], aq_h m s F c_4)) rfl rfl ?_
        refine am_E.go (t2 := (107, [vR o, vR (o + 2 + x.toNat), vR (o + 2 + y.toNat), vI start, vI 0, vI v_5, vI k], [vI 1], aq_h m s F c_4)) rfl rfl ?_
        refine am_E.go (t2 := (111, [vR o, vR (o + 2 + x.toNat), vR (o + 2 + y.toNat), vI start, vI 0, vI v_5, vI k], [vI 1], aq_h m s F c_4)) rfl rfl ?_
        refine am_E.go (t2 := (113, [vR o, vR (o + 2 + x.toNat), vR (o + 2 + y.toNat), vI start, vI 1, vI v_5, vI k], [], aq_h m s F c_4)) rfl rfl ?_
        refine ae_iinc rfl rfl (am_ri (by omega) (by omega)) ?_
        show am_E _ (116, [vR o, vR (o + 2 + x.toNat), vR (o + 2 + y.toNat), vI start, vI 1, vI v_5, vI (k + 1)], [], aq_h m s F c_4) _
        refine am_E.go (t2 := (21, [vR o, vR (o + 2 + x.toNat), vR (o + 2 + y.toNat), vI start, vI 1, vI v_5, vI (k + 1)], [], aq_h m s F c_4)) rfl rfl ?_
        have e_v : v_5 = (n : Int) + tP ((y.toNat : Nat) : Int) p := by omega
        refine qz_follow_l ⟨hm, hn1, hn4, hK, hFo, hFd, hFs⟩ hSs ⟨hPg, hPr, hPt⟩ hx0 hxK hy0 hyK hfi hgi d true v_5 (k + 1) (dc_u w (tP ((y.toNat : Nat) : Int) p)) c_4 sc_4 (dc_ac2 hw hdc_4) (by omega) (by omega) (by omega) (by omega) (by rw [e_v]; exact he (by omega)) (by rw [← hT, ldr, if_pos (by omega), e_v]) (by rw [← hW, fv_, if_pos (by omega), e_v])

theorem qz_follow {m s : Nat} {F : aq_F} {c : aq_C} {S : Nat → Prop} {o n K : Nat} (hB : bx_0 m F o n K) (hSs : S (o + 7 + 3 * K)) {tP : Int → Int → Int} (hP : bx_p F o n K tP) {x : Int} (hx0 : 0 ≤ x) (hxK : x < (K : Int)) {y : Int} (hy0 : 0 ≤ y) (hyK : y < (K : Int)) {start : Int} {w : Int → Int} (hfi : fi (n : Int) (tP ((x.toNat : Nat) : Int))) (hgi : fi (n : Int) (tP ((y.toNat : Nat) : Int))) (hw : ∀ q, 0 ≤ q → q < 2 * (n : Int) → c (o + 7 + 3 * K) q = w q) (h0 : 0 ≤ start) (h1 : start < 2 * (n : Int)) : am_E ac_X0_follow (0, [vR o, vR (o + 2 + x.toNat), vR (o + 2 + y.toNat), vI start, vU, vU, vU], [], aq_h m s F c) (aq_Z m s F S c (fun r d => r = some (vI (fst_ (n : Int) (tP ((x.toNat : Nat) : Int)) (tP ((y.toNat : Nat) : Int)) start)) ∧ ∀ q, 0 ≤ q → q < 2 * (n : Int) → d (o + 7 + 3 * K) q = fv_ (n : Int) (tP ((x.toNat : Nat) : Int)) (tP ((y.toNat : Nat) : Int)) 5 (decide (start < (n : Int))) start w q)) := by
  obtain ⟨hm, hn1, hn4, hK, hFo, hFd, hFs⟩ := hB
  obtain ⟨hPg, hPr, hPt⟩ := hP
  refine am_E.go (t2 := (1, [vR o, vR (o + 2 + x.toNat), vR (o + 2 + y.toNat), vI start, vU, vU, vU], [vI start], aq_h m s F c)) rfl rfl ?_
  refine am_E.go (t2 := (2, [vR o, vR (o + 2 + x.toNat), vR (o + 2 + y.toNat), vI start, vU, vU, vU], [vR o, vI start], aq_h m s F c)) rfl rfl ?_
  refine aq_gf (v := vI (n : Int)) rfl (by omega) hFo (by decide) rfl ?_
  show am_E _ (5, [vR o, vR (o + 2 + x.toNat), vR (o + 2 + y.toNat), vI start, vU, vU, vU], [vI (n : Int), vI start], aq_h m s F c) _
  refine ae_icmp rfl (fun (q_1 : (n : Int) ≤ start) => ?_) (fun (q_1 : start < (n : Int)) => ?_)
  · refine am_E.go (t2 := (13, [vR o, vR (o + 2 + x.toNat), vR (o + 2 + y.toNat), vI start, vU, vU, vU], [vI 0], aq_h m s F c)) rfl rfl ?_
    refine am_E.go (t2 := (15, [vR o, vR (o + 2 + x.toNat), vR (o + 2 + y.toNat), vI start, vI 0, vU, vU], [], aq_h m s F c)) rfl rfl ?_
    refine am_E.go (t2 := (16, [vR o, vR (o + 2 + x.toNat), vR (o + 2 + y.toNat), vI start, vI 0, vU, vU], [vI start], aq_h m s F c)) rfl rfl ?_
    refine am_E.go (t2 := (18, [vR o, vR (o + 2 + x.toNat), vR (o + 2 + y.toNat), vI start, vI 0, vI start, vU], [], aq_h m s F c)) rfl rfl ?_
    refine am_E.go (t2 := (19, [vR o, vR (o + 2 + x.toNat), vR (o + 2 + y.toNat), vI start, vI 0, vI start, vU], [vI 0], aq_h m s F c)) rfl rfl ?_
    refine am_E.go (t2 := (21, [vR o, vR (o + 2 + x.toNat), vR (o + 2 + y.toNat), vI start, vI 0, vI start, vI 0], [], aq_h m s F c)) rfl rfl ?_
    have e4 : decide (start < (n : Int)) = false := decide_eq_false (show ¬ start < (n : Int) by omega)
    have e5 : fst_ (n : Int) (tP ((x.toNat : Nat) : Int)) (tP ((y.toNat : Nat) : Int)) start = ldr (n : Int) (tP ((x.toNat : Nat) : Int)) (tP ((y.toNat : Nat) : Int)) 5 false start := by unfold fst_; rw [e4]
    rw [e4]
    by_cases hn : n = 1
    · subst hn
      have hx := ld_ex1 hfi hgi h0 (by omega)
      rw [decide_eq_false (show ¬ start < 1 by omega)] at hx
      exact qz_follow_l ⟨hm, hn1, hn4, hK, hFo, hFd, hFs⟩ hSs ⟨hPg, hPr, hPt⟩ hx0 hxK hy0 hyK hfi hgi 3 false start 0 w c aq_sm0 hw h0 h1 (by omega) (by omega) hx (by rw [e5]; exact (ldr_le 3 2 false start hx).symm) (fv_le 3 2 false start w hx).symm
    · have hx := ld_ex (n := (n : Int)) (by omega) hfi hgi h0 h1
      rw [e4] at hx
      exact qz_follow_l ⟨hm, hn1, hn4, hK, hFo, hFd, hFs⟩ hSs ⟨hPg, hPr, hPt⟩ hx0 hxK hy0 hyK hfi hgi 5 false start 0 w c aq_sm0 hw h0 h1 (by omega) (by omega) hx e5.symm rfl
  · refine am_E.go (t2 := (9, [vR o, vR (o + 2 + x.toNat), vR (o + 2 + y.toNat), vI start, vU, vU, vU], [vI 1], aq_h m s F c)) rfl rfl ?_
    refine am_E.go (t2 := (13, [vR o, vR (o + 2 + x.toNat), vR (o + 2 + y.toNat), vI start, vU, vU, vU], [vI 1], aq_h m s F c)) rfl rfl ?_
    refine am_E.go (t2 := (15, [vR o, vR (o + 2 + x.toNat), vR (o + 2 + y.toNat), vI start, vI 1, vU, vU], [], aq_h m s F c)) rfl rfl ?_
    refine am_E.go (t2 := (16, [vR o, vR (o + 2 + x.toNat), vR (o + 2 + y.toNat), vI start, vI 1, vU, vU], [vI start], aq_h m s F c)) rfl rfl ?_
    refine am_E.go (t2 := (18, [vR o, vR (o + 2 + x.toNat), vR (o + 2 + y.toNat), vI start, vI 1, vI start, vU], [], aq_h m s F c)) rfl rfl ?_
    refine am_E.go (t2 := (19, [vR o, vR (o + 2 + x.toNat), vR (o + 2 + y.toNat), vI start, vI 1, vI start, vU], [vI 0], aq_h m s F c)) rfl rfl ?_
    refine am_E.go (t2 := (21, [vR o, vR (o + 2 + x.toNat), vR (o + 2 + y.toNat), vI start, vI 1, vI start, vI 0], [], aq_h m s F c)) rfl rfl ?_
    have e4 : decide (start < (n : Int)) = true := decide_eq_true (show start < (n : Int) by omega)
    have e5 : fst_ (n : Int) (tP ((x.toNat : Nat) : Int)) (tP ((y.toNat : Nat) : Int)) start = ldr (n : Int) (tP ((x.toNat : Nat) : Int)) (tP ((y.toNat : Nat) : Int)) 5 true start := by unfold fst_; rw [e4]
    rw [e4]
    by_cases hn : n = 1
    · subst hn
      have hx := ld_ex1 hfi hgi h0 (by omega)
      rw [decide_eq_true (show start < 1 by omega)] at hx
      exact qz_follow_l ⟨hm, hn1, hn4, hK, hFo, hFd, hFs⟩ hSs ⟨hPg, hPr, hPt⟩ hx0 hxK hy0 hyK hfi hgi 3 true start 0 w c aq_sm0 hw h0 h1 (by omega) (by omega) hx (by rw [e5]; exact (ldr_le 3 2 true start hx).symm) (fv_le 3 2 true start w hx).symm
    · have hx := ld_ex (n := (n : Int)) (by omega) hfi hgi h0 h1
      rw [e4] at hx
      exact qz_follow_l ⟨hm, hn1, hn4, hK, hFo, hFd, hFs⟩ hSs ⟨hPg, hPr, hPt⟩ hx0 hxK hy0 hyK hfi hgi 5 true start 0 w c aq_sm0 hw h0 h1 (by omega) (by omega) hx e5.symm rfl

theorem qz_across {m s : Nat} {F : aq_F} {c : aq_C} {o n K : Nat} (hB : bx_0 m F o n K) {p : Int} (h0 : 0 ≤ p) (h1 : p < 2 * (n : Int)) : am_E ac_X0_across (0, [vR o, vI p], [], aq_h m s F c) (aq_P m s F c (fun r => r = some (vI (ac_ (n : Int) p)))) := by
  obtain ⟨hm, hn1, hn4, hK, hFo, hFd, hFs⟩ := hB
  refine am_E.go (t2 := (1, [vR o, vI p], [vI p], aq_h m s F c)) rfl rfl ?_
  refine am_E.go (t2 := (2, [vR o, vI p], [vR o, vI p], aq_h m s F c)) rfl rfl ?_
  refine aq_gf (v := vI (n : Int)) rfl (by omega) hFo (by decide) rfl ?_
  show am_E _ (5, [vR o, vI p], [vI (n : Int), vI p], aq_h m s F c) _
  refine ae_icmp rfl (fun (q_1 : (n : Int) ≤ p) => ?_) (fun (q_1 : p < (n : Int)) => ?_)
  · refine am_E.go (t2 := (18, [vR o, vI p], [vI p], aq_h m s F c)) rfl rfl ?_
    refine am_E.go (t2 := (19, [vR o, vI p], [vR o, vI p], aq_h m s F c)) rfl rfl ?_
    refine aq_gf (v := vI (n : Int)) rfl (by omega) hFo (by decide) rfl ?_
    show am_E _ (22, [vR o, vI p], [vI (n : Int), vI p], aq_h m s F c) _
    refine ae_sub rfl (am_ri (by omega) (by omega)) ?_
    show am_E _ (23, [vR o, vI p], [vI (p - (n : Int))], aq_h m s F c) _
    refine am_E.ret rfl rfl ?_
    refine ⟨rfl, ?_⟩
    have e9 : ac_ (n : Int) p = (p - (n : Int)) := by unfold ac_; first | rw [if_pos (by omega)] | rw [if_neg (by omega)]
    rw [e9]
  · refine am_E.go (t2 := (9, [vR o, vI p], [vI p], aq_h m s F c)) rfl rfl ?_
    refine am_E.go (t2 := (10, [vR o, vI p], [vR o, vI p], aq_h m s F c)) rfl rfl ?_
    refine aq_gf (v := vI (n : Int)) rfl (by omega) hFo (by decide) rfl ?_
    show am_E _ (13, [vR o, vI p], [vI (n : Int), vI p], aq_h m s F c) _
    refine ae_add rfl (am_ri (by omega) (by omega)) ?_
    show am_E _ (14, [vR o, vI p], [vI (p + (n : Int))], aq_h m s F c) _
    refine am_E.go (t2 := (23, [vR o, vI p], [vI (p + (n : Int))], aq_h m s F c)) rfl rfl ?_
    refine am_E.ret rfl rfl ?_
    refine ⟨rfl, ?_⟩
    have e9 : ac_ (n : Int) p = (p + (n : Int)) := by unfold ac_; first | rw [if_pos (by omega)] | rw [if_neg (by omega)]
    rw [e9]

theorem ac_r {n i : Int} (h0 : 0 ≤ i) (h1 : i < 2 * n) : 0 ≤ ac_ n i ∧ ac_ n i < 2 * n := by
  unfold ac_
  split <;> omega

theorem qz_inner_i {m s : Nat} {F : aq_F} {c0 : aq_C} {S : Nat → Prop} {o n K : Nat} (hB : bx_0 m F o n K) (hSs : S (o + 7 + 3 * K)) {tP : Int → Int → Int} (hP : bx_p F o n K tP) {x : Int} (hx0 : 0 ≤ x) (hxK : x < (K : Int)) {y : Int} (hy0 : 0 ≤ y) (hyK : y < (K : Int)) {f m2 T : Int} {Wd : Int → Int} : ∀ (d : Nat) (w : Int → Int) (a : Int) (k : Int) (c : aq_C) (hs : aq_sm S c0 c) (h0 : 0 ≤ a) (h1 : a < 2 * (n : Int)) (h2 : 0 ≤ k) (h3 : k ≤ (n : Int)) (hw : ∀ q, 0 ≤ q → q < 2 * (n : Int) → c (o + 7 + 3 * K) q = w q) (ht : ci_ (n : Int) (tP ((x.toNat : Nat) : Int)) (tP ((y.toNat : Nat) : Int)) d k a w = Wd) (hd : (n : Int) - k < (d : Int)) (K0 : ∀ (a2 : Int) (k2 : Int) (c2 : aq_C) (hs2 : aq_sm S c0 c2) (hw2 : ∀ q, 0 ≤ q → q < 2 * (n : Int) → c2 (o + 7 + 3 * K) q = Wd q), am_E ac_X0_countInnerRings (95, [vR o, vR (o + 2 + x.toNat), vR (o + 2 + y.toNat), vI f, vI m2, vI a2, vI k2], [], aq_h m s F c2) (aq_Z m s F S c0 (fun r _ => r = some (vI T)))), am_E ac_X0_countInnerRings (34, [vR o, vR (o + 2 + x.toNat), vR (o + 2 + y.toNat), vI f, vI m2, vI a, vI k], [], aq_h m s F c) (aq_Z m s F S c0 (fun r _ => r = some (vI T)))
  | 0, w, a, k, c, hs, h0, h1, h2, h3, hw, ht, hd, K0 => by exfalso; omega
  | d + 1, w, a, k, c, hs, h0, h1, h2, h3, hw, ht, hd, K0 => by
    obtain ⟨hm, hn1, hn4, hK, hFo, hFd, hFs⟩ := hB
    obtain ⟨hPg, hPr, hPt⟩ := hP
    refine am_E.go (t2 := (36, [vR o, vR (o + 2 + x.toNat), vR (o + 2 + y.toNat), vI f, vI m2, vI a, vI k], [vI k], aq_h m s F c)) rfl rfl ?_
    refine am_E.go (t2 := (37, [vR o, vR (o + 2 + x.toNat), vR (o + 2 + y.toNat), vI f, vI m2, vI a, vI k], [vR o, vI k], aq_h m s F c)) rfl rfl ?_
    refine aq_gf (v := vI (n : Int)) rfl (by omega) hFo (by decide) rfl ?_
    show am_E _ (40, [vR o, vR (o + 2 + x.toNat), vR (o + 2 + y.toNat), vI f, vI m2, vI a, vI k], [vI (n : Int), vI k], aq_h m s F c) _
    refine ae_icmp rfl (fun (q_1 : (n : Int) ≤ k) => ?_) (fun (q_1 : k < (n : Int)) => ?_)
    · exact K0 a k c hs (by rw [← ht, ci_, if_neg (by omega)]; exact hw)
    · refine am_E.go (t2 := (44, [vR o, vR (o + 2 + x.toNat), vR (o + 2 + y.toNat), vI f, vI m2, vI a, vI k], [vR o], aq_h m s F c)) rfl rfl ?_
      refine aq_gf (v := vR (o + 7 + 3 * K)) rfl (by omega) hFo (by decide) rfl ?_
      show am_E _ (47, [vR o, vR (o + 2 + x.toNat), vR (o + 2 + y.toNat), vI f, vI m2, vI a, vI k], [vR (o + 7 + 3 * K)], aq_h m s F c) _
      refine am_E.go (t2 := (49, [vR o, vR (o + 2 + x.toNat), vR (o + 2 + y.toNat), vI f, vI m2, vI a, vI k], [vI a, vR (o + 7 + 3 * K)], aq_h m s F c)) rfl rfl ?_
      refine aq_al (ok := fun k => k == 1) (v := vI (c (o + 7 + 3 * K) a)) rfl rfl (by omega) hFs rfl (by omega) (by omega) rfl ?_
      show am_E _ (50, [vR o, vR (o + 2 + x.toNat), vR (o + 2 + y.toNat), vI f, vI m2, vI a, vI k], [vI (c (o + 7 + 3 * K) a)], aq_h m s F c) _
      have f_2 := hw a (by omega) (by omega)
      refine ae_if0 rfl (fun (q_3 : (c (o + 7 + 3 * K) a) ≠ 0) => ?_) (fun (q_3 : (c (o + 7 + 3 * K) a) = 0) => ?_)
      · exact K0 a k c hs (by rw [← ht, ci_, if_neg (by omega)]; exact hw)
      · refine am_E.go (t2 := (54, [vR o, vR (o + 2 + x.toNat), vR (o + 2 + y.toNat), vI f, vI m2, vI a, vI k], [vR o], aq_h m s F c)) rfl rfl ?_
        refine aq_gf (v := vR (o + 7 + 3 * K)) rfl (by omega) hFo (by decide) rfl ?_
        show am_E _ (57, [vR o, vR (o + 2 + x.toNat), vR (o + 2 + y.toNat), vI f, vI m2, vI a, vI k], [vR (o + 7 + 3 * K)], aq_h m s F c) _
        refine am_E.go (t2 := (59, [vR o, vR (o + 2 + x.toNat), vR (o + 2 + y.toNat), vI f, vI m2, vI a, vI k], [vI a, vR (o + 7 + 3 * K)], aq_h m s F c)) rfl rfl ?_
        refine am_E.go (t2 := (60, [vR o, vR (o + 2 + x.toNat), vR (o + 2 + y.toNat), vI f, vI m2, vI a, vI k], [vI 1, vI a, vR (o + 7 + 3 * K)], aq_h m s F c)) rfl rfl ?_
        refine aq_as (kd := 1) rfl rfl (by omega) hFs (by omega) (by omega) rfl rfl ?_
        show am_E _ (61, [vR o, vR (o + 2 + x.toNat), vR (o + 2 + y.toNat), vI f, vI m2, vI a, vI k], [], aq_h m s F (aq_u c (o + 7 + 3 * K) a 1)) _
        generalize hdc_4 : aq_u c (o + 7 + 3 * K) a 1 = c_4
        have sc_4 := aq_smu hs hdc_4 hSs
        have wc_4 := dc_ac2 hw hdc_4
        refine am_E.go (t2 := (62, [vR o, vR (o + 2 + x.toNat), vR (o + 2 + y.toNat), vI f, vI m2, vI a, vI k], [vR o], aq_h m s F c_4)) rfl rfl ?_
        refine am_E.go (t2 := (63, [vR o, vR (o + 2 + x.toNat), vR (o + 2 + y.toNat), vI f, vI m2, vI a, vI k], [vR (o + 2 + x.toNat), vR o], aq_h m s F c_4)) rfl rfl ?_
        refine am_E.go (t2 := (64, [vR o, vR (o + 2 + x.toNat), vR (o + 2 + y.toNat), vI f, vI m2, vI a, vI k], [vR o, vR (o + 2 + x.toNat), vR o], aq_h m s F c_4)) rfl rfl ?_
        refine am_E.go (t2 := (66, [vR o, vR (o + 2 + x.toNat), vR (o + 2 + y.toNat), vI f, vI m2, vI a, vI k], [vI a, vR o, vR (o + 2 + x.toNat), vR o], aq_h m s F c_4)) rfl rfl ?_
        refine aq_callv (y := 2) (as2 := [vI a]) (rest := [vR (o + 2 + x.toNat), vR o]) rfl rfl (by decide) (Nat.le_of_ble_eq_true rfl) rfl rfl (Nat.le_of_ble_eq_true rfl) (by omega) hFo rfl (Nat.le_of_ble_eq_true rfl) (qz_across ⟨hm, hn1, hn4, hK, hFo, hFd, hFs⟩ (by omega) (by omega)) ?_
        rintro r5 h5 ⟨rfl, rfl⟩
        show am_E _ (69, [vR o, vR (o + 2 + x.toNat), vR (o + 2 + y.toNat), vI f, vI m2, vI a, vI k], [vI (ac_ (n : Int) a), vR (o + 2 + x.toNat), vR o], aq_h m s F c_4) _
        have ha_5 := ac_r (n := (n : Int)) (i := a) (by omega) (by omega)
        refine aq_alt (ok := fun k => k == 0) rfl rfl (by omega) (hPr _ (by omega)) rfl (by omega) (by omega) ?_
        show am_E _ (70, [vR o, vR (o + 2 + x.toNat), vR (o + 2 + y.toNat), vI f, vI m2, vI a, vI k], [vI (tP ((x.toNat : Nat) : Int) (ac_ (n : Int) a)), vR o], aq_h m s F c_4) _
        have f_6 := hPt ((x.toNat : Nat) : Int) (ac_ (n : Int) a) (by omega) (by omega) (by omega) (by omega)
        refine aq_callv (y := 2) (as2 := [vI (tP ((x.toNat : Nat) : Int) (ac_ (n : Int) a))]) (rest := []) rfl rfl (by decide) (Nat.le_of_ble_eq_true rfl) rfl rfl (Nat.le_of_ble_eq_true rfl) (by omega) hFo rfl (Nat.le_of_ble_eq_true rfl) (qz_across ⟨hm, hn1, hn4, hK, hFo, hFd, hFs⟩ (by omega) (by omega)) ?_
        rintro r5 h5 ⟨rfl, rfl⟩
        show am_E _ (73, [vR o, vR (o + 2 + x.toNat), vR (o + 2 + y.toNat), vI f, vI m2, vI a, vI k], [vI (ac_ (n : Int) (tP ((x.toNat : Nat) : Int) (ac_ (n : Int) a)))], aq_h m s F c_4) _
        have ha_7 := ac_r (n := (n : Int)) (i := (tP ((x.toNat : Nat) : Int) (ac_ (n : Int) a))) (by omega) (by omega)
        refine am_E.go (t2 := (75, [vR o, vR (o + 2 + x.toNat), vR (o + 2 + y.toNat), vI f, vI m2, vI (ac_ (n : Int) (tP ((x.toNat : Nat) : Int) (ac_ (n : Int) a))), vI k], [], aq_h m s F c_4)) rfl rfl ?_
        refine am_E.go (t2 := (76, [vR o, vR (o + 2 + x.toNat), vR (o + 2 + y.toNat), vI f, vI m2, vI (ac_ (n : Int) (tP ((x.toNat : Nat) : Int) (ac_ (n : Int) a))), vI k], [vR o], aq_h m s F c_4)) rfl rfl ?_
        refine aq_gf (v := vR (o + 7 + 3 * K)) rfl (by omega) hFo (by decide) rfl ?_
        show am_E _ (79, [vR o, vR (o + 2 + x.toNat), vR (o + 2 + y.toNat), vI f, vI m2, vI (ac_ (n : Int) (tP ((x.toNat : Nat) : Int) (ac_ (n : Int) a))), vI k], [vR (o + 7 + 3 * K)], aq_h m s F c_4) _
        refine am_E.go (t2 := (81, [vR o, vR (o + 2 + x.toNat), vR (o + 2 + y.toNat), vI f, vI m2, vI (ac_ (n : Int) (tP ((x.toNat : Nat) : Int) (ac_ (n : Int) a))), vI k], [vI (ac_ (n : Int) (tP ((x.toNat : Nat) : Int) (ac_ (n : Int) a))), vR (o + 7 + 3 * K)], aq_h m s F c_4)) rfl rfl ?_
        refine am_E.go (t2 := (82, [vR o, vR (o + 2 + x.toNat), vR (o + 2 + y.toNat), vI f, vI m2, vI (ac_ (n : Int) (tP ((x.toNat : Nat) : Int) (ac_ (n : Int) a))), vI k], [vI 1, vI (ac_ (n : Int) (tP ((x.toNat : Nat) : Int) (ac_ (n : Int) a))), vR (o + 7 + 3 * K)], aq_h m s F c_4)) rfl rfl ?_
        refine aq_as (kd := 1) rfl rfl (by omega) hFs (by omega) (by omega) rfl rfl ?_
        show am_E _ (83, [vR o, vR (o + 2 + x.toNat), vR (o + 2 + y.toNat), vI f, vI m2, vI (ac_ (n : Int) (tP ((x.toNat : Nat) : Int) (ac_ (n : Int) a))), vI k], [], aq_h m s F (aq_u c_4 (o + 7 + 3 * K) (ac_ (n : Int) (tP ((x.toNat : Nat) : Int) (ac_ (n : Int) a))) 1)) _
        generalize hdc_8 : aq_u c_4 (o + 7 + 3 * K) (ac_ (n : Int) (tP ((x.toNat : Nat) : Int) (ac_ (n : Int) a))) 1 = c_8
        have sc_8 := aq_smu sc_4 hdc_8 hSs
        have wc_8 := dc_ac2 wc_4 hdc_8
        refine am_E.go (t2 := (84, [vR o, vR (o + 2 + x.toNat), vR (o + 2 + y.toNat), vI f, vI m2, vI (ac_ (n : Int) (tP ((x.toNat : Nat) : Int) (ac_ (n : Int) a))), vI k], [vR (o + 2 + y.toNat)], aq_h m s F c_8)) rfl rfl ?_
        refine am_E.go (t2 := (86, [vR o, vR (o + 2 + x.toNat), vR (o + 2 + y.toNat), vI f, vI m2, vI (ac_ (n : Int) (tP ((x.toNat : Nat) : Int) (ac_ (n : Int) a))), vI k], [vI (ac_ (n : Int) (tP ((x.toNat : Nat) : Int) (ac_ (n : Int) a))), vR (o + 2 + y.toNat)], aq_h m s F c_8)) rfl rfl ?_
        refine aq_alt (ok := fun k => k == 0) rfl rfl (by omega) (hPr _ (by omega)) rfl (by omega) (by omega) ?_
        show am_E _ (87, [vR o, vR (o + 2 + x.toNat), vR (o + 2 + y.toNat), vI f, vI m2, vI (ac_ (n : Int) (tP ((x.toNat : Nat) : Int) (ac_ (n : Int) a))), vI k], [vI (tP ((y.toNat : Nat) : Int) (ac_ (n : Int) (tP ((x.toNat : Nat) : Int) (ac_ (n : Int) a))))], aq_h m s F c_8) _
        have f_9 := hPt ((y.toNat : Nat) : Int) (ac_ (n : Int) (tP ((x.toNat : Nat) : Int) (ac_ (n : Int) a))) (by omega) (by omega) (by omega) (by omega)
        refine am_E.go (t2 := (89, [vR o, vR (o + 2 + x.toNat), vR (o + 2 + y.toNat), vI f, vI m2, vI (tP ((y.toNat : Nat) : Int) (ac_ (n : Int) (tP ((x.toNat : Nat) : Int) (ac_ (n : Int) a)))), vI k], [], aq_h m s F c_8)) rfl rfl ?_
        refine ae_iinc rfl rfl (am_ri (by omega) (by omega)) ?_
        show am_E _ (92, [vR o, vR (o + 2 + x.toNat), vR (o + 2 + y.toNat), vI f, vI m2, vI (tP ((y.toNat : Nat) : Int) (ac_ (n : Int) (tP ((x.toNat : Nat) : Int) (ac_ (n : Int) a)))), vI (k + 1)], [], aq_h m s F c_8) _
        refine am_E.go (t2 := (34, [vR o, vR (o + 2 + x.toNat), vR (o + 2 + y.toNat), vI f, vI m2, vI (tP ((y.toNat : Nat) : Int) (ac_ (n : Int) (tP ((x.toNat : Nat) : Int) (ac_ (n : Int) a)))), vI (k + 1)], [], aq_h m s F c_8)) rfl rfl ?_
        exact qz_inner_i ⟨hm, hn1, hn4, hK, hFo, hFd, hFs⟩ hSs ⟨hPg, hPr, hPt⟩ hx0 hxK hy0 hyK d (dc_u (dc_u w a) (ac_ (n : Int) (tP ((x.toNat : Nat) : Int) (ac_ (n : Int) a)))) (tP ((y.toNat : Nat) : Int) (ac_ (n : Int) (tP ((x.toNat : Nat) : Int) (ac_ (n : Int) a)))) (k + 1) c_8 sc_8 (by omega) (by omega) (by omega) (by omega) wc_8 (by rw [← ht, ci_, if_pos (by omega)]) (by omega) K0

theorem qz_inner_o {m s : Nat} {F : aq_F} {c0 : aq_C} {S : Nat → Prop} {o n K : Nat} (hB : bx_0 m F o n K) (hSs : S (o + 7 + 3 * K)) {tP : Int → Int → Int} (hP : bx_p F o n K tP) {x : Int} (hx0 : 0 ≤ x) (hxK : x < (K : Int)) {y : Int} (hy0 : 0 ≤ y) (hyK : y < (K : Int)) {T : Int} : ∀ (d : Nat) (w : Int → Int) (f : Int) (p : Int) (v5 : am_V) (v6 : am_V) (c : aq_C) (hs : aq_sm S c0 c) (h0 : 0 ≤ p) (h1 : p ≤ (n : Int)) (h2 : 0 ≤ f) (h3 : f ≤ p) (hw : ∀ q, 0 ≤ q → q < 2 * (n : Int) → c (o + 7 + 3 * K) q = w q) (ht : co_ (n : Int) (tP ((x.toNat : Nat) : Int)) (tP ((y.toNat : Nat) : Int)) d p f w = T) (hd : (n : Int) - p < (d : Int)), am_E ac_X0_countInnerRings (5, [vR o, vR (o + 2 + x.toNat), vR (o + 2 + y.toNat), vI f, vI p, v5, v6], [], aq_h m s F c) (aq_Z m s F S c0 (fun r _ => r = some (vI T)))
  | 0, w, f, p, v5, v6, c, hs, h0, h1, h2, h3, hw, ht, hd => by exfalso; omega
  | d + 1, w, f, p, v5, v6, c, hs, h0, h1, h2, h3, hw, ht, hd => by
    obtain ⟨hm, hn1, hn4, hK, hFo, hFd, hFs⟩ := hB
    obtain ⟨hPg, hPr, hPt⟩ := hP
    refine am_E.go (t2 := (7, [vR o, vR (o + 2 + x.toNat), vR (o + 2 + y.toNat), vI f, vI p, v5, v6], [vI p], aq_h m s F c)) rfl rfl ?_
    refine am_E.go (t2 := (8, [vR o, vR (o + 2 + x.toNat), vR (o + 2 + y.toNat), vI f, vI p, v5, v6], [vR o, vI p], aq_h m s F c)) rfl rfl ?_
    refine aq_gf (v := vI (n : Int)) rfl (by omega) hFo (by decide) rfl ?_
    show am_E _ (11, [vR o, vR (o + 2 + x.toNat), vR (o + 2 + y.toNat), vI f, vI p, v5, v6], [vI (n : Int), vI p], aq_h m s F c) _
    refine ae_icmp rfl (fun (q_1 : (n : Int) ≤ p) => ?_) (fun (q_1 : p < (n : Int)) => ?_)
    · refine am_E.go (t2 := (102, [vR o, vR (o + 2 + x.toNat), vR (o + 2 + y.toNat), vI f, vI p, v5, v6], [vI f], aq_h m s F c)) rfl rfl ?_
      refine am_E.ret rfl rfl ?_
      refine ⟨_, rfl, hs, ?_⟩
      rw [← ht, co_, if_neg (by omega)]
    · refine am_E.go (t2 := (15, [vR o, vR (o + 2 + x.toNat), vR (o + 2 + y.toNat), vI f, vI p, v5, v6], [vR o], aq_h m s F c)) rfl rfl ?_
      refine aq_gf (v := vR (o + 7 + 3 * K)) rfl (by omega) hFo (by decide) rfl ?_
      show am_E _ (18, [vR o, vR (o + 2 + x.toNat), vR (o + 2 + y.toNat), vI f, vI p, v5, v6], [vR (o + 7 + 3 * K)], aq_h m s F c) _
      refine am_E.go (t2 := (20, [vR o, vR (o + 2 + x.toNat), vR (o + 2 + y.toNat), vI f, vI p, v5, v6], [vI p, vR (o + 7 + 3 * K)], aq_h m s F c)) rfl rfl ?_
      refine aq_al (ok := fun k => k == 1) (v := vI (c (o + 7 + 3 * K) p)) rfl rfl (by omega) hFs rfl (by omega) (by omega) rfl ?_
      show am_E _ (21, [vR o, vR (o + 2 + x.toNat), vR (o + 2 + y.toNat), vI f, vI p, v5, v6], [vI (c (o + 7 + 3 * K) p)], aq_h m s F c) _
      have f_2 := hw p (by omega) (by omega)
      refine ae_if0 rfl (fun (q_3 : (c (o + 7 + 3 * K) p) ≠ 0) => ?_) (fun (q_3 : (c (o + 7 + 3 * K) p) = 0) => ?_)
      · refine ae_iinc rfl rfl (am_ri (by omega) (by omega)) ?_
        show am_E _ (98, [vR o, vR (o + 2 + x.toNat), vR (o + 2 + y.toNat), vI f, vI (p + 1), v5, v6], [], aq_h m s F c) _
        refine am_E.go (t2 := (5, [vR o, vR (o + 2 + x.toNat), vR (o + 2 + y.toNat), vI f, vI (p + 1), v5, v6], [], aq_h m s F c)) rfl rfl ?_
        exact qz_inner_o ⟨hm, hn1, hn4, hK, hFo, hFd, hFs⟩ hSs ⟨hPg, hPr, hPt⟩ hx0 hxK hy0 hyK d w f (p + 1) (v5) (v6) c hs (by omega) (by omega) (by omega) (by omega) hw (by rw [← ht, co_, if_pos (by omega)]; first | rw [if_pos (by omega)] | rw [if_neg (by omega)]) (by omega)
      · refine ae_iinc rfl rfl (am_ri (by omega) (by omega)) ?_
        show am_E _ (27, [vR o, vR (o + 2 + x.toNat), vR (o + 2 + y.toNat), vI (f + 1), vI p, v5, v6], [], aq_h m s F c) _
        refine am_E.go (t2 := (29, [vR o, vR (o + 2 + x.toNat), vR (o + 2 + y.toNat), vI (f + 1), vI p, v5, v6], [vI p], aq_h m s F c)) rfl rfl ?_
        refine am_E.go (t2 := (31, [vR o, vR (o + 2 + x.toNat), vR (o + 2 + y.toNat), vI (f + 1), vI p, vI p, v6], [], aq_h m s F c)) rfl rfl ?_
        refine am_E.go (t2 := (32, [vR o, vR (o + 2 + x.toNat), vR (o + 2 + y.toNat), vI (f + 1), vI p, vI p, v6], [vI 0], aq_h m s F c)) rfl rfl ?_
        refine am_E.go (t2 := (34, [vR o, vR (o + 2 + x.toNat), vR (o + 2 + y.toNat), vI (f + 1), vI p, vI p, vI 0], [], aq_h m s F c)) rfl rfl ?_
        refine qz_inner_i ⟨hm, hn1, hn4, hK, hFo, hFd, hFs⟩ hSs ⟨hPg, hPr, hPt⟩ hx0 hxK hy0 hyK 9 w p 0 c hs (by omega) (by omega) (by omega) (by omega) hw rfl (by omega) ?_
        · intro a2_34 k2_34 c_4 sc_4 hw2_34
          refine ae_iinc rfl rfl (am_ri (by omega) (by omega)) ?_
          show am_E _ (98, [vR o, vR (o + 2 + x.toNat), vR (o + 2 + y.toNat), vI (f + 1), vI (p + 1), vI a2_34, vI k2_34], [], aq_h m s F c_4) _
          refine am_E.go (t2 := (5, [vR o, vR (o + 2 + x.toNat), vR (o + 2 + y.toNat), vI (f + 1), vI (p + 1), vI a2_34, vI k2_34], [], aq_h m s F c_4)) rfl rfl ?_
          exact qz_inner_o ⟨hm, hn1, hn4, hK, hFo, hFd, hFs⟩ hSs ⟨hPg, hPr, hPt⟩ hx0 hxK hy0 hyK d (ci_ (n : Int) (tP ((x.toNat : Nat) : Int)) (tP ((y.toNat : Nat) : Int)) 9 0 p w) (f + 1) (p + 1) (vI a2_34) (vI k2_34) c_4 sc_4 (by omega) (by omega) (by omega) (by omega) hw2_34 (by rw [← ht, co_, if_pos (by omega)]; first | rw [if_pos (by omega)] | rw [if_neg (by omega)]) (by omega)

theorem qz_countInnerRings {m s : Nat} {F : aq_F} {c : aq_C} {S : Nat → Prop} {o n K : Nat} (hB : bx_0 m F o n K) (hSs : S (o + 7 + 3 * K)) {tP : Int → Int → Int} (hP : bx_p F o n K tP) {x : Int} (hx0 : 0 ≤ x) (hxK : x < (K : Int)) {y : Int} (hy0 : 0 ≤ y) (hyK : y < (K : Int)) {w : Int → Int} (hw : ∀ q, 0 ≤ q → q < 2 * (n : Int) → c (o + 7 + 3 * K) q = w q) : am_E ac_X0_countInnerRings (0, [vR o, vR (o + 2 + x.toNat), vR (o + 2 + y.toNat), vU, vU, vU, vU], [], aq_h m s F c) (aq_Z m s F S c (fun r _ => r = some (vI (co_ (n : Int) (tP ((x.toNat : Nat) : Int)) (tP ((y.toNat : Nat) : Int)) 9 0 0 w)))) := by
  obtain ⟨hm, hn1, hn4, hK, hFo, hFd, hFs⟩ := hB
  obtain ⟨hPg, hPr, hPt⟩ := hP
  refine am_E.go (t2 := (1, [vR o, vR (o + 2 + x.toNat), vR (o + 2 + y.toNat), vU, vU, vU, vU], [vI 0], aq_h m s F c)) rfl rfl ?_
  refine am_E.go (t2 := (2, [vR o, vR (o + 2 + x.toNat), vR (o + 2 + y.toNat), vI 0, vU, vU, vU], [], aq_h m s F c)) rfl rfl ?_
  refine am_E.go (t2 := (3, [vR o, vR (o + 2 + x.toNat), vR (o + 2 + y.toNat), vI 0, vU, vU, vU], [vI 0], aq_h m s F c)) rfl rfl ?_
  refine am_E.go (t2 := (5, [vR o, vR (o + 2 + x.toNat), vR (o + 2 + y.toNat), vI 0, vI 0, vU, vU], [], aq_h m s F c)) rfl rfl ?_
  exact qz_inner_o ⟨hm, hn1, hn4, hK, hFo, hFd, hFs⟩ hSs ⟨hPg, hPr, hPt⟩ hx0 hxK hy0 hyK 9 w 0 0 (vU) (vU) c aq_sm0 (by omega) (by omega) (by omega) (by omega) hw rfl (by omega)

theorem co_b {n : Int} {f g : Int → Int} : ∀ (d : Nat) (p x : Int) (w : Int → Int), 0 ≤ x → x ≤ p → p ≤ n → 0 ≤ co_ n f g d p x w ∧ co_ n f g d p x w ≤ n
  | 0, p, x, w, h0, h1, h2 => by
    rw [co_]
    omega
  | d + 1, p, x, w, h0, h1, h2 => by
    rw [co_]
    (repeat' split)
    · exact co_b d (p + 1) (x + 1) _ (by omega) (by omega) (by omega)
    · exact co_b d (p + 1) x _ (by omega) (by omega) (by omega)
    · omega

theorem qz_join_l {m s : Nat} {F : aq_F} {c0 : aq_C} {S : Nat → Prop} {o n K : Nat} (hB : bx_0 m F o n K) (hSd : S (o + 6 + 3 * K)) (hSs : S (o + 7 + 3 * K)) {tP : Int → Int → Int} (hP : bx_p F o n K tP) {x : Int} (hx0 : 0 ≤ x) (hxK : x < (K : Int)) {y : Int} (hy0 : 0 ≤ y) (hyK : y < (K : Int)) (hfi : fi (n : Int) (tP ((x.toNat : Nat) : Int))) (hgi : fi (n : Int) (tP ((y.toNat : Nat) : Int))) (hKn : (K : Int) = bx_K (n : Int)) {Wm : Int → Int} : ∀ (d : Nat) (w : Int → Int) (p : Int) (c : aq_C) (hs : aq_sm S c0 c) (h0 : 0 ≤ p) (h1 : p ≤ 2 * (n : Int)) (hr : aq_rg (o + 6 + 3 * K) (2 * (n : Int)) 0 (2 * (n : Int)) c) (hz : ∀ i, 0 ≤ i → i < p → c (o + 6 + 3 * K) i = (fst_ (n : Int) (tP ((x.toNat : Nat) : Int)) (tP ((y.toNat : Nat) : Int))) i) (hw : ∀ q, 0 ≤ q → q < 2 * (n : Int) → c (o + 7 + 3 * K) q = w q) (hm_ : mj_ (n : Int) (tP ((x.toNat : Nat) : Int)) (tP ((y.toNat : Nat) : Int)) d p w = Wm) (hd : 2 * (n : Int) - p < (d : Int)), am_E ac_X0_join (6, [vR o, vR (o + 2 + x.toNat), vR (o + 2 + y.toNat), vI p], [], aq_h m s F c) (aq_Z m s F S c0 (fun r d => aq_rg (o + 6 + 3 * K) (2 * (n : Int)) 0 (2 * (n : Int)) d ∧ r = some (vI (nu_o (fst_ (n : Int) (tP ((x.toNat : Nat) : Int)) (tP ((y.toNat : Nat) : Int))) (2 * (n : Int)) 9 0 0 (2 * (n : Int) - 1) + 1000 * co_ (n : Int) (tP ((x.toNat : Nat) : Int)) (tP ((y.toNat : Nat) : Int)) 9 0 0 Wm))))
  | 0, w, p, c, hs, h0, h1, hr, hz, hw, hm_, hd => by exfalso; omega
  | d + 1, w, p, c, hs, h0, h1, hr, hz, hw, hm_, hd => by
    obtain ⟨hm, hn1, hn4, hK, hFo, hFd, hFs⟩ := hB
    obtain ⟨hPg, hPr, hPt⟩ := hP
    refine am_E.go (t2 := (7, [vR o, vR (o + 2 + x.toNat), vR (o + 2 + y.toNat), vI p], [vI p], aq_h m s F c)) rfl rfl ?_
    refine am_E.go (t2 := (8, [vR o, vR (o + 2 + x.toNat), vR (o + 2 + y.toNat), vI p], [vR o, vI p], aq_h m s F c)) rfl rfl ?_
    refine aq_gf (v := vI (2 * (n : Int))) rfl (by omega) hFo (by decide) rfl ?_
    show am_E _ (11, [vR o, vR (o + 2 + x.toNat), vR (o + 2 + y.toNat), vI p], [vI (2 * (n : Int)), vI p], aq_h m s F c) _
    refine ae_icmp rfl (fun (q_1 : (2 * (n : Int)) ≤ p) => ?_) (fun (q_1 : p < (2 * (n : Int))) => ?_)
    · refine am_E.go (t2 := (34, [vR o, vR (o + 2 + x.toNat), vR (o + 2 + y.toNat), vI p], [vR o], aq_h m s F c)) rfl rfl ?_
      refine am_E.go (t2 := (35, [vR o, vR (o + 2 + x.toNat), vR (o + 2 + y.toNat), vI p], [vR o, vR o], aq_h m s F c)) rfl rfl ?_
      refine aq_gf (v := vR (o + 6 + 3 * K)) rfl (by omega) hFo (by decide) rfl ?_
      show am_E _ (38, [vR o, vR (o + 2 + x.toNat), vR (o + 2 + y.toNat), vI p], [vR (o + 6 + 3 * K), vR o], aq_h m s F c) _
      refine aq_callv (y := 2) (as2 := [vR (o + 6 + 3 * K)]) (rest := []) rfl rfl (by decide) (Nat.le_of_ble_eq_true rfl) rfl rfl (Nat.le_of_ble_eq_true rfl) (by omega) hFo rfl (Nat.le_of_ble_eq_true rfl) (qn_X0_numberOf ⟨hm, hn1, hn4, hK, hFo, hFd, hFs⟩ hr) ?_
      rintro r5 h5 ⟨rfl, rfl⟩
      show am_E _ (41, [vR o, vR (o + 2 + x.toNat), vR (o + 2 + y.toNat), vI p], [vI (nu_o (c (o + 6 + 3 * K)) (2 * (n : Int)) 9 0 0 (2 * (n : Int) - 1))], aq_h m s F c) _
      have enu := nu_oc (N := 2 * (n : Int)) (fun i k0 k1 => hz i k0 (by omega)) (fun i k0 k1 => by have := hr i k0 k1; omega) 9 0 0 (2 * (n : Int) - 1) (by omega)
      have hnu := nu_fi (n := (n : Int)) (by omega) (by omega) (fi_st (n := (n : Int)) (by omega) hfi hgi)
      rw [← enu, ← hKn] at hnu
      refine am_E.go (t2 := (44, [vR o, vR (o + 2 + x.toNat), vR (o + 2 + y.toNat), vI p], [vI 1000, vI (nu_o (c (o + 6 + 3 * K)) (2 * (n : Int)) 9 0 0 (2 * (n : Int) - 1))], aq_h m s F c)) rfl rfl ?_
      refine am_E.go (t2 := (45, [vR o, vR (o + 2 + x.toNat), vR (o + 2 + y.toNat), vI p], [vR o, vI 1000, vI (nu_o (c (o + 6 + 3 * K)) (2 * (n : Int)) 9 0 0 (2 * (n : Int) - 1))], aq_h m s F c)) rfl rfl ?_
      refine am_E.go (t2 := (46, [vR o, vR (o + 2 + x.toNat), vR (o + 2 + y.toNat), vI p], [vR (o + 2 + x.toNat), vR o, vI 1000, vI (nu_o (c (o + 6 + 3 * K)) (2 * (n : Int)) 9 0 0 (2 * (n : Int) - 1))], aq_h m s F c)) rfl rfl ?_
      refine am_E.go (t2 := (47, [vR o, vR (o + 2 + x.toNat), vR (o + 2 + y.toNat), vI p], [vR (o + 2 + y.toNat), vR (o + 2 + x.toNat), vR o, vI 1000, vI (nu_o (c (o + 6 + 3 * K)) (2 * (n : Int)) 9 0 0 (2 * (n : Int) - 1))], aq_h m s F c)) rfl rfl ?_
      refine aq_callv (y := 3) (as2 := [vR (o + 2 + x.toNat), vR (o + 2 + y.toNat)]) (rest := [vI 1000, vI (nu_o (c (o + 6 + 3 * K)) (2 * (n : Int)) 9 0 0 (2 * (n : Int) - 1))]) rfl rfl (by decide) (Nat.le_of_ble_eq_true rfl) rfl rfl (Nat.le_of_ble_eq_true rfl) (by omega) hFo rfl (Nat.le_of_ble_eq_true rfl) (qz_countInnerRings (S := (fun a => a = o + 7 + 3 * K)) ⟨hm, hn1, hn4, hK, hFo, hFd, hFs⟩ rfl ⟨hPg, hPr, hPt⟩ hx0 hxK hy0 hyK (w := Wm) (by rw [← hm_, mj_, if_neg (by omega)]; exact hw)) ?_
      rintro r5 h5 ⟨c_i, rfl, s_i, rfl⟩
      show am_E _ (50, [vR o, vR (o + 2 + x.toNat), vR (o + 2 + y.toNat), vI p], [vI (co_ (n : Int) (tP ((x.toNat : Nat) : Int)) (tP ((y.toNat : Nat) : Int)) 9 0 0 Wm), vI 1000, vI (nu_o (c (o + 6 + 3 * K)) (2 * (n : Int)) 9 0 0 (2 * (n : Int) - 1))], aq_h m s F c_i) _
      have hco := co_b (n := (n : Int)) (f := (tP ((x.toNat : Nat) : Int))) (g := (tP ((y.toNat : Nat) : Int))) 9 0 0 Wm (by omega) (by omega) (by omega)
      refine ae_mul rfl (am_ri (by omega) (by omega)) ?_
      show am_E _ (51, [vR o, vR (o + 2 + x.toNat), vR (o + 2 + y.toNat), vI p], [vI (1000 * (co_ (n : Int) (tP ((x.toNat : Nat) : Int)) (tP ((y.toNat : Nat) : Int)) 9 0 0 Wm)), vI (nu_o (c (o + 6 + 3 * K)) (2 * (n : Int)) 9 0 0 (2 * (n : Int) - 1))], aq_h m s F c_i) _
      refine ae_add rfl (am_ri (by omega) (by omega)) ?_
      show am_E _ (52, [vR o, vR (o + 2 + x.toNat), vR (o + 2 + y.toNat), vI p], [vI ((nu_o (c (o + 6 + 3 * K)) (2 * (n : Int)) 9 0 0 (2 * (n : Int) - 1)) + (1000 * (co_ (n : Int) (tP ((x.toNat : Nat) : Int)) (tP ((y.toNat : Nat) : Int)) 9 0 0 Wm)))], aq_h m s F c_i) _
      refine am_E.ret rfl rfl ?_
      refine ⟨_, rfl, (aq_smt hs (aq_smi s_i (fun a h => by rw [h]; exact hSs))), (aq_rgs hr s_i (by omega)), ?_⟩
      rw [enu]
    · refine am_E.go (t2 := (15, [vR o, vR (o + 2 + x.toNat), vR (o + 2 + y.toNat), vI p], [vR o], aq_h m s F c)) rfl rfl ?_
      refine aq_gf (v := vR (o + 6 + 3 * K)) rfl (by omega) hFo (by decide) rfl ?_
      show am_E _ (18, [vR o, vR (o + 2 + x.toNat), vR (o + 2 + y.toNat), vI p], [vR (o + 6 + 3 * K)], aq_h m s F c) _
      refine am_E.go (t2 := (19, [vR o, vR (o + 2 + x.toNat), vR (o + 2 + y.toNat), vI p], [vI p, vR (o + 6 + 3 * K)], aq_h m s F c)) rfl rfl ?_
      refine am_E.go (t2 := (20, [vR o, vR (o + 2 + x.toNat), vR (o + 2 + y.toNat), vI p], [vR o, vI p, vR (o + 6 + 3 * K)], aq_h m s F c)) rfl rfl ?_
      refine am_E.go (t2 := (21, [vR o, vR (o + 2 + x.toNat), vR (o + 2 + y.toNat), vI p], [vR (o + 2 + x.toNat), vR o, vI p, vR (o + 6 + 3 * K)], aq_h m s F c)) rfl rfl ?_
      refine am_E.go (t2 := (22, [vR o, vR (o + 2 + x.toNat), vR (o + 2 + y.toNat), vI p], [vR (o + 2 + y.toNat), vR (o + 2 + x.toNat), vR o, vI p, vR (o + 6 + 3 * K)], aq_h m s F c)) rfl rfl ?_
      refine am_E.go (t2 := (23, [vR o, vR (o + 2 + x.toNat), vR (o + 2 + y.toNat), vI p], [vI p, vR (o + 2 + y.toNat), vR (o + 2 + x.toNat), vR o, vI p, vR (o + 6 + 3 * K)], aq_h m s F c)) rfl rfl ?_
      refine aq_callv (y := 4) (as2 := [vR (o + 2 + x.toNat), vR (o + 2 + y.toNat), vI p]) (rest := [vI p, vR (o + 6 + 3 * K)]) rfl rfl (by decide) (Nat.le_of_ble_eq_true rfl) rfl rfl (Nat.le_of_ble_eq_true rfl) (by omega) hFo rfl (Nat.le_of_ble_eq_true rfl) (qz_follow (S := (fun a => a = o + 7 + 3 * K)) ⟨hm, hn1, hn4, hK, hFo, hFd, hFs⟩ rfl ⟨hPg, hPr, hPt⟩ hx0 hxK hy0 hyK hfi hgi (start := p) hw (by omega) (by omega)) ?_
      rintro r5 h5 ⟨c_f, rfl, s_f, rfl, hw_f⟩
      show am_E _ (26, [vR o, vR (o + 2 + x.toNat), vR (o + 2 + y.toNat), vI p], [vI (fst_ (n : Int) (tP ((x.toNat : Nat) : Int)) (tP ((y.toNat : Nat) : Int)) p), vI p, vR (o + 6 + 3 * K)], aq_h m s F c_f) _
      have fp := fi_st (n := (n : Int)) (by omega) hfi hgi p (by omega) (by omega)
      refine aq_as (kd := 0) rfl rfl (by omega) hFd (by omega) (by omega) rfl rfl ?_
      show am_E _ (27, [vR o, vR (o + 2 + x.toNat), vR (o + 2 + y.toNat), vI p], [], aq_h m s F (aq_u c_f (o + 6 + 3 * K) p (fst_ (n : Int) (tP ((x.toNat : Nat) : Int)) (tP ((y.toNat : Nat) : Int)) p))) _
      generalize hdc_2 : aq_u c_f (o + 6 + 3 * K) p (fst_ (n : Int) (tP ((x.toNat : Nat) : Int)) (tP ((y.toNat : Nat) : Int)) p) = c_2
      have sc_2 := aq_smu (aq_smt hs (aq_smi s_f (fun a h => by rw [h]; exact hSs))) hdc_2 hSd
      have hdrc_2 := aq_rgu (aq_rgs hr s_f (by omega)) hdc_2 (by omega) (by omega)
      refine ae_iinc rfl rfl (am_ri (by omega) (by omega)) ?_
      show am_E _ (30, [vR o, vR (o + 2 + x.toNat), vR (o + 2 + y.toNat), vI (p + 1)], [], aq_h m s F c_2) _
      refine am_E.go (t2 := (6, [vR o, vR (o + 2 + x.toNat), vR (o + 2 + y.toNat), vI (p + 1)], [], aq_h m s F c_2)) rfl rfl ?_
      exact qz_join_l ⟨hm, hn1, hn4, hK, hFo, hFd, hFs⟩ hSd hSs ⟨hPg, hPr, hPt⟩ hx0 hxK hy0 hyK hfi hgi hKn d (fv_ (n : Int) (tP ((x.toNat : Nat) : Int)) (tP ((y.toNat : Nat) : Int)) 5 (decide (p < (n : Int))) p w) (p + 1) c_2 sc_2 (by omega) (by omega) hdrc_2 (aq_fl (g := (fst_ (n : Int) (tP ((x.toNat : Nat) : Int)) (tP ((y.toNat : Nat) : Int)))) (fun i h5 h6 => by rw [s_f _ (by omega)]; exact hz i h5 h6) hdc_2 rfl) (fun q q0 q1 => by rw [← hdc_2, aq_un (Or.inl (by omega))]; exact hw_f q q0 q1) (by rw [← hm_, mj_, if_pos (by omega)]) (by omega)

theorem qz_join {m s : Nat} {F : aq_F} {c : aq_C} {S : Nat → Prop} {o n K : Nat} (hB : bx_0 m F o n K) (hSd : S (o + 6 + 3 * K)) (hSs : S (o + 7 + 3 * K)) {tP : Int → Int → Int} (hP : bx_p F o n K tP) {x : Int} (hx0 : 0 ≤ x) (hxK : x < (K : Int)) {y : Int} (hy0 : 0 ≤ y) (hyK : y < (K : Int)) (hfi : fi (n : Int) (tP ((x.toNat : Nat) : Int))) (hgi : fi (n : Int) (tP ((y.toNat : Nat) : Int))) (hKn : (K : Int) = bx_K (n : Int)) (hr : aq_rg (o + 6 + 3 * K) (2 * (n : Int)) 0 (2 * (n : Int)) c) : am_E ac_X0_join (0, [vR o, vR (o + 2 + x.toNat), vR (o + 2 + y.toNat), vU], [], aq_h m s F c) (aq_Z m s F S c (fun r d => aq_rg (o + 6 + 3 * K) (2 * (n : Int)) 0 (2 * (n : Int)) d ∧ r = some (vI (jn_ (n : Int) (tP ((x.toNat : Nat) : Int)) (tP ((y.toNat : Nat) : Int)))))) := by
  obtain ⟨hm, hn1, hn4, hK, hFo, hFd, hFs⟩ := hB
  obtain ⟨hPg, hPr, hPt⟩ := hP
  refine am_E.go (t2 := (1, [vR o, vR (o + 2 + x.toNat), vR (o + 2 + y.toNat), vU], [vR o], aq_h m s F c)) rfl rfl ?_
  refine aq_callv (y := 1) (as2 := []) (rest := []) rfl rfl (by decide) (Nat.le_of_ble_eq_true rfl) rfl rfl (Nat.le_of_ble_eq_true rfl) (by omega) hFo rfl (Nat.le_of_ble_eq_true rfl) (qn_X0_forgetSeen ⟨hm, hn1, hn4, hK, hFo, hFd, hFs⟩) ?_
  rintro r5 h5 ⟨c_z, rfl, s_z, rfl, hz_z⟩
  show am_E _ (4, [vR o, vR (o + 2 + x.toNat), vR (o + 2 + y.toNat), vU], [], aq_h m s F c_z) _
  refine am_E.go (t2 := (5, [vR o, vR (o + 2 + x.toNat), vR (o + 2 + y.toNat), vU], [vI 0], aq_h m s F c_z)) rfl rfl ?_
  refine am_E.go (t2 := (6, [vR o, vR (o + 2 + x.toNat), vR (o + 2 + y.toNat), vI 0], [], aq_h m s F c_z)) rfl rfl ?_
  exact qz_join_l ⟨hm, hn1, hn4, hK, hFo, hFd, hFs⟩ hSd hSs ⟨hPg, hPr, hPt⟩ hx0 hxK hy0 hyK hfi hgi hKn 9 (fun _ => 0) 0 c_z (aq_smt aq_sm0 (aq_smi s_z (fun a h => by rw [h]; exact hSs))) (by omega) (by omega) (aq_rgs hr s_z (by omega)) (fun i h5 h6 => absurd h6 (by omega)) hz_z rfl (by omega)
/-! Boxes: letterAt, ofLetter, stackLetters in the constructor. Printed by wip/p20/sx/gBD.py. -/

theorem ol_1 : ∀ l : Nat, l < 14 → (l = 0 ∨ ((1 ≤ l ∧ l < 1) ∨ (11 ≤ l ∧ l < 10 + 1))) → 0 ≤ nu_o (bx_ol 1 (l : Int)) 2 9 0 0 1 ∧ nu_o (bx_ol 1 (l : Int)) 2 9 0 0 1 < 1 := by decide +kernel
theorem ol_2 : ∀ l : Nat, l < 14 → (l = 0 ∨ ((1 ≤ l ∧ l < 2) ∨ (11 ≤ l ∧ l < 10 + 2))) → 0 ≤ nu_o (bx_ol 2 (l : Int)) 4 9 0 0 3 ∧ nu_o (bx_ol 2 (l : Int)) 4 9 0 0 3 < 3 := by decide +kernel
theorem ol_3 : ∀ l : Nat, l < 14 → (l = 0 ∨ ((1 ≤ l ∧ l < 3) ∨ (11 ≤ l ∧ l < 10 + 3))) → 0 ≤ nu_o (bx_ol 3 (l : Int)) 6 9 0 0 5 ∧ nu_o (bx_ol 3 (l : Int)) 6 9 0 0 5 < 15 := by decide +kernel
theorem ol_4 : ∀ l : Nat, l < 14 → (l = 0 ∨ ((1 ≤ l ∧ l < 4) ∨ (11 ≤ l ∧ l < 10 + 4))) → 0 ≤ nu_o (bx_ol 4 (l : Int)) 8 9 0 0 7 ∧ nu_o (bx_ol 4 (l : Int)) 8 9 0 0 7 < 105 := by decide +kernel
theorem ol_n {n : Nat} {l : Int} (h1 : 1 ≤ n) (h4 : n ≤ 4) (hl : l = 0 ∨ ((1 ≤ l ∧ l < (n : Int)) ∨ (11 ≤ l ∧ l < 10 + (n : Int)))) : 0 ≤ nu_o (bx_ol n l) (2 * (n : Int)) 9 0 0 (2 * (n : Int) - 1) ∧ nu_o (bx_ol n l) (2 * (n : Int)) 9 0 0 (2 * (n : Int) - 1) < bx_K (n : Int) := by
  have el : ((l.toNat : Nat) : Int) = l := Int.toNat_of_nonneg (by omega)
  have h : n = 1 ∨ n = 2 ∨ n = 3 ∨ n = 4 := by omega
  rcases h with h | h | h | h <;> subst h
  · have := ol_1 l.toNat (by omega) (by omega)
    rw [el] at this
    exact this
  · have := ol_2 l.toNat (by omega) (by omega)
    rw [el] at this
    exact this
  · have := ol_3 l.toNat (by omega) (by omega)
    rw [el] at this
    exact this
  · have := ol_4 l.toNat (by omega) (by omega)
    rw [el] at this
    exact this
theorem fi_c {n : Int} {f g : Int → Int} (h : fi n g) (e : ∀ i, 0 ≤ i → i < 2 * n → f i = g i) : fi n f := by
  intro p h0 h1
  obtain ⟨k1, k2, k3, k4⟩ := h p h0 h1
  rw [e p h0 h1]
  exact ⟨k1, k2, k3, by rw [e _ k1 k2]; exact k4⟩
/-- beneath lies in range -/
def bx_nb (o n K : Nat) (c : aq_C) : Prop := ∀ b : Nat, b < K → ∀ k : Int, 0 ≤ k → k < 2 * (n : Int) - 2 → 0 ≤ c (o + 6 + 2 * K + b) k ∧ c (o + 6 + 2 * K + b) k < 5000 ∧ c (o + 6 + 2 * K + b) k % 1000 < (K : Int)
theorem bx_nu {o n K a : Nat} {i x : Int} {c d : aq_C} (h : bx_nb o n K c) (he : aq_u c a i x = d) (h0 : 0 ≤ x) (h1 : x < 5000) (h2 : x % 1000 < (K : Int)) : bx_nb o n K d := by
  intro b hb k k0 k1
  rw [← he]
  unfold aq_u
  split
  · exact ⟨h0, h1, h2⟩
  · exact h b hb k k0 k1
theorem bx_ns {S : Nat → Prop} {o n K : Nat} {c d : aq_C} (h : bx_nb o n K c) (hs : aq_sm S c d) (hS : ∀ b, b < K → ¬ S (o + 6 + 2 * K + b)) : bx_nb o n K d := by
  intro b hb k k0 k1
  rw [hs _ (hS b hb)]
  exact h b hb k k0 k1

theorem qb_letterAt {m s : Nat} {F : aq_F} {c : aq_C} {o n K : Nat} (hB : bx_0 m F o n K) {p : Int} (h0 : 0 ≤ p) (h1 : p < 2 * (n : Int) - 2) : am_E ac_X0_letterAt (0, [vR o, vI p], [], aq_h m s F c) (aq_P m s F c (fun r => ∃ v, r = some (vI v) ∧ ((1 ≤ v ∧ v < (n : Int)) ∨ (11 ≤ v ∧ v < 10 + (n : Int))))) := by
  obtain ⟨hm, hn1, hn4, hK, hFo, hFd, hFs⟩ := hB
  refine am_E.go (t2 := (1, [vR o, vI p], [vI p], aq_h m s F c)) rfl rfl ?_
  refine am_E.go (t2 := (2, [vR o, vI p], [vR o, vI p], aq_h m s F c)) rfl rfl ?_
  refine aq_gf (v := vI (n : Int)) rfl (by omega) hFo (by decide) rfl ?_
  show am_E _ (5, [vR o, vI p], [vI (n : Int), vI p], aq_h m s F c) _
  refine am_E.go (t2 := (6, [vR o, vI p], [vI 1, vI (n : Int), vI p], aq_h m s F c)) rfl rfl ?_
  refine ae_sub rfl (am_ri (by omega) (by omega)) ?_
  show am_E _ (7, [vR o, vI p], [vI ((n : Int) - 1), vI p], aq_h m s F c) _
  refine ae_icmp rfl (fun (q_1 : ((n : Int) - 1) ≤ p) => ?_) (fun (q_1 : p < ((n : Int) - 1)) => ?_)
  · refine am_E.go (t2 := (17, [vR o, vI p], [vI p], aq_h m s F c)) rfl rfl ?_
    refine am_E.go (t2 := (18, [vR o, vI p], [vR o, vI p], aq_h m s F c)) rfl rfl ?_
    refine aq_gf (v := vI (n : Int)) rfl (by omega) hFo (by decide) rfl ?_
    show am_E _ (21, [vR o, vI p], [vI (n : Int), vI p], aq_h m s F c) _
    refine am_E.go (t2 := (22, [vR o, vI p], [vI 1, vI (n : Int), vI p], aq_h m s F c)) rfl rfl ?_
    refine ae_sub rfl (am_ri (by omega) (by omega)) ?_
    show am_E _ (23, [vR o, vI p], [vI ((n : Int) - 1), vI p], aq_h m s F c) _
    refine ae_sub rfl (am_ri (by omega) (by omega)) ?_
    show am_E _ (24, [vR o, vI p], [vI (p - ((n : Int) - 1))], aq_h m s F c) _
    refine am_E.go (t2 := (26, [vR o, vI p], [vI 11, vI (p - ((n : Int) - 1))], aq_h m s F c)) rfl rfl ?_
    refine ae_add rfl (am_ri (by omega) (by omega)) ?_
    show am_E _ (27, [vR o, vI p], [vI ((p - ((n : Int) - 1)) + 11)], aq_h m s F c) _
    refine am_E.ret rfl rfl ?_
    exact ⟨rfl, _, rfl, by omega⟩
  · refine am_E.go (t2 := (11, [vR o, vI p], [vI p], aq_h m s F c)) rfl rfl ?_
    refine am_E.go (t2 := (12, [vR o, vI p], [vI 1, vI p], aq_h m s F c)) rfl rfl ?_
    refine ae_add rfl (am_ri (by omega) (by omega)) ?_
    show am_E _ (13, [vR o, vI p], [vI (p + 1)], aq_h m s F c) _
    refine am_E.go (t2 := (27, [vR o, vI p], [vI (p + 1)], aq_h m s F c)) rfl rfl ?_
    refine am_E.ret rfl rfl ?_
    exact ⟨rfl, _, rfl, by omega⟩

theorem qb_ofLetter {m s : Nat} {F : aq_F} {c : aq_C} {o n K : Nat} (hB : bx_0 m F o n K) (hKn : (K : Int) = bx_K (n : Int)) {l : Int} (hl : l = 0 ∨ ((1 ≤ l ∧ l < (n : Int)) ∨ (11 ≤ l ∧ l < 10 + (n : Int)))) (hr : aq_rg (o + 6 + 3 * K) (2 * (n : Int)) 0 (2 * (n : Int)) c) : am_E ac_X0_ofLetter (0, [vR o, vI l, vU], [], aq_h m s F c) (aq_Z m s F (fun a => a = o + 6 + 3 * K ∨ a = o + 7 + 3 * K) c (fun r d => aq_rg (o + 6 + 3 * K) (2 * (n : Int)) 0 (2 * (n : Int)) d ∧ ∃ v, r = some (vI v) ∧ 0 ≤ v ∧ v < (K : Int))) := by
  refine (qn_X0_ofLetter (S := fun a => a = o + 6 + 3 * K ∨ a = o + 7 + 3 * K) hB (Or.inl rfl) (Or.inr rfl) hr).imp ?_
  rintro r h2 ⟨d, e1, e2, e3, e4⟩
  rcases e4 with e4 | ⟨-, e5, e6⟩
  · exact absurd hl e4.1
  · have hb := ol_n hB.2.1 hB.2.2.1 hl
    have en := nu_oc (N := 2 * (n : Int)) e5 (fun i k0 k1 => by have := e3 i k0 k1; omega) 9 0 0 (2 * (n : Int) - 1) (by omega)
    rw [← en, ← hKn] at hb
    exact ⟨d, e1, e2, e3, _, e6, hb.1, hb.2⟩

theorem qb_stack_i {m s : Nat} {F : aq_F} {c0 : aq_C} {S : Nat → Prop} {o n K : Nat} (hB : bx_0 m F o n K) (hSd : S (o + 6 + 3 * K)) (hSs : S (o + 7 + 3 * K)) {tP : Int → Int → Int} (hP : bx_p F o n K tP) (hNg : F (o + 5 + 2 * K) = (3, K, fun j => aq_g K j (o + 6 + 2 * K + j))) (hNr : ∀ b, b < K → F (o + 6 + 2 * K + b) = (0, 2 * n - 2, fun _ => .inl 0)) (hSn : ∀ b, b < K → S (o + 6 + 2 * K + b)) (hKn : (K : Int) = bx_K (n : Int)) (hfi : ∀ x : Int, 0 ≤ x → x < (K : Int) → fi (n : Int) (tP ((x.toNat : Nat) : Int))) {k lo : Int} (hk0 : 0 ≤ k) (hk1 : k < 2 * (n : Int) - 2) (hl0 : 0 ≤ lo) (hl1 : lo < (K : Int)) : ∀ (d : Nat) (b : Int) (c : aq_C) (hs : aq_sm S c0 c) (h0 : 0 ≤ b) (h1 : b ≤ (K : Int)) (hr : aq_rg (o + 6 + 3 * K) (2 * (n : Int)) 0 (2 * (n : Int)) c) (hn : bx_nb o n K c) (hd : (K : Int) - b < (d : Int)) (K0 : ∀ (b2 : Int) (c2 : aq_C) (hs2 : aq_sm S c0 c2) (hr2 : aq_rg (o + 6 + 3 * K) (2 * (n : Int)) 0 (2 * (n : Int)) c2) (hn2 : bx_nb o n K c2), am_E ac_X0_stackLetters (60, [vR o, vI k, vI lo, vI b2], [], aq_h m s F c2) (aq_Z m s F S c0 (fun r d => r = none ∧ aq_rg (o + 6 + 3 * K) (2 * (n : Int)) 0 (2 * (n : Int)) d ∧ bx_nb o n K d))), am_E ac_X0_stackLetters (22, [vR o, vI k, vI lo, vI b], [], aq_h m s F c) (aq_Z m s F S c0 (fun r d => r = none ∧ aq_rg (o + 6 + 3 * K) (2 * (n : Int)) 0 (2 * (n : Int)) d ∧ bx_nb o n K d))
  | 0, b, c, hs, h0, h1, hr, hn, hd, K0 => by exfalso; omega
  | d + 1, b, c, hs, h0, h1, hr, hn, hd, K0 => by
    obtain ⟨hm, hn1, hn4, hK, hFo, hFd, hFs⟩ := hB
    obtain ⟨hPg, hPr, hPt⟩ := hP
    refine am_E.go (t2 := (23, [vR o, vI k, vI lo, vI b], [vI b], aq_h m s F c)) rfl rfl ?_
    refine am_E.go (t2 := (24, [vR o, vI k, vI lo, vI b], [vR o, vI b], aq_h m s F c)) rfl rfl ?_
    refine aq_gf (v := vI (K : Int)) rfl (by omega) hFo (by decide) rfl ?_
    show am_E _ (27, [vR o, vI k, vI lo, vI b], [vI (K : Int), vI b], aq_h m s F c) _
    refine ae_icmp rfl (fun (q_1 : (K : Int) ≤ b) => ?_) (fun (q_1 : b < (K : Int)) => ?_)
    · exact K0 b c hs hr hn
    · refine am_E.go (t2 := (31, [vR o, vI k, vI lo, vI b], [vR o], aq_h m s F c)) rfl rfl ?_
      refine aq_gf (v := vR (o + 5 + 2 * K)) rfl (by omega) hFo (by decide) rfl ?_
      show am_E _ (34, [vR o, vI k, vI lo, vI b], [vR (o + 5 + 2 * K)], aq_h m s F c) _
      refine am_E.go (t2 := (35, [vR o, vI k, vI lo, vI b], [vI b, vR (o + 5 + 2 * K)], aq_h m s F c)) rfl rfl ?_
      refine aq_al (ok := fun k => decide (3 ≤ k) && decide (k < 7)) (v := vR (o + 6 + 2 * K + b.toNat)) rfl rfl (by omega) hNg rfl (by omega) (by omega) (aq_gi (by omega)) ?_
      show am_E _ (36, [vR o, vI k, vI lo, vI b], [vR (o + 6 + 2 * K + b.toNat)], aq_h m s F c) _
      refine am_E.go (t2 := (37, [vR o, vI k, vI lo, vI b], [vI k, vR (o + 6 + 2 * K + b.toNat)], aq_h m s F c)) rfl rfl ?_
      refine am_E.go (t2 := (38, [vR o, vI k, vI lo, vI b], [vR o, vI k, vR (o + 6 + 2 * K + b.toNat)], aq_h m s F c)) rfl rfl ?_
      refine am_E.go (t2 := (39, [vR o, vI k, vI lo, vI b], [vR o, vR o, vI k, vR (o + 6 + 2 * K + b.toNat)], aq_h m s F c)) rfl rfl ?_
      refine aq_gf (v := vR (o + 1)) rfl (by omega) hFo (by decide) rfl ?_
      show am_E _ (42, [vR o, vI k, vI lo, vI b], [vR (o + 1), vR o, vI k, vR (o + 6 + 2 * K + b.toNat)], aq_h m s F c) _
      refine am_E.go (t2 := (43, [vR o, vI k, vI lo, vI b], [vI b, vR (o + 1), vR o, vI k, vR (o + 6 + 2 * K + b.toNat)], aq_h m s F c)) rfl rfl ?_
      refine aq_al (ok := fun k => decide (3 ≤ k) && decide (k < 7)) (v := vR (o + 2 + b.toNat)) rfl rfl (by omega) hPg rfl (by omega) (by omega) (aq_gi (by omega)) ?_
      show am_E _ (44, [vR o, vI k, vI lo, vI b], [vR (o + 2 + b.toNat), vR o, vI k, vR (o + 6 + 2 * K + b.toNat)], aq_h m s F c) _
      refine am_E.go (t2 := (45, [vR o, vI k, vI lo, vI b], [vR o, vR (o + 2 + b.toNat), vR o, vI k, vR (o + 6 + 2 * K + b.toNat)], aq_h m s F c)) rfl rfl ?_
      refine aq_gf (v := vR (o + 1)) rfl (by omega) hFo (by decide) rfl ?_
      show am_E _ (48, [vR o, vI k, vI lo, vI b], [vR (o + 1), vR (o + 2 + b.toNat), vR o, vI k, vR (o + 6 + 2 * K + b.toNat)], aq_h m s F c) _
      refine am_E.go (t2 := (49, [vR o, vI k, vI lo, vI b], [vI lo, vR (o + 1), vR (o + 2 + b.toNat), vR o, vI k, vR (o + 6 + 2 * K + b.toNat)], aq_h m s F c)) rfl rfl ?_
      refine aq_al (ok := fun k => decide (3 ≤ k) && decide (k < 7)) (v := vR (o + 2 + lo.toNat)) rfl rfl (by omega) hPg rfl (by omega) (by omega) (aq_gi (by omega)) ?_
      show am_E _ (50, [vR o, vI k, vI lo, vI b], [vR (o + 2 + lo.toNat), vR (o + 2 + b.toNat), vR o, vI k, vR (o + 6 + 2 * K + b.toNat)], aq_h m s F c) _
      refine aq_callv (y := 3) (as2 := [vR (o + 2 + b.toNat), vR (o + 2 + lo.toNat)]) (rest := [vI k, vR (o + 6 + 2 * K + b.toNat)]) rfl rfl (by decide) (Nat.le_of_ble_eq_true rfl) rfl rfl (Nat.le_of_ble_eq_true rfl) (by omega) hFo rfl (Nat.le_of_ble_eq_true rfl) (qb_join (S := (fun a => a = o + 6 + 3 * K ∨ a = o + 7 + 3 * K)) ⟨hm, hn1, hn4, hK, hFo, hFd, hFs⟩ (Or.inl rfl) (Or.inr rfl) ⟨hPg, hPr, hPt⟩ (x := b) (y := lo) (by omega) (by omega) (by omega) (by omega) (hfi b (by omega) (by omega)) (hfi lo (by omega) (by omega)) hKn hr) ?_
      rintro r5 h5 ⟨c_2, rfl, sc_2, hrc_2, vc_2, rfl, hv0c_2, hv1c_2, hv2c_2⟩
      show am_E _ (53, [vR o, vI k, vI lo, vI b], [vI vc_2, vI k, vR (o + 6 + 2 * K + b.toNat)], aq_h m s F c_2) _
      refine aq_as (kd := 0) rfl rfl (by omega) (hNr _ (by omega)) (by omega) (by omega) rfl rfl ?_
      show am_E _ (54, [vR o, vI k, vI lo, vI b], [], aq_h m s F (aq_u c_2 (o + 6 + 2 * K + b.toNat) k vc_2)) _
      generalize hdc_3 : aq_u c_2 (o + 6 + 2 * K + b.toNat) k vc_2 = c_3
      have sc_3 := aq_smu (aq_smt hs (aq_smi sc_2 (fun a h => by rcases h with h | h <;> (rw [h]; assumption)))) hdc_3 (hSn _ (by omega))
      have hdrc_3 := aq_rgn hrc_2 hdc_3 (by omega)
      have hnbc_3 := bx_nu (bx_ns hn sc_2 (fun b hb => by omega)) hdc_3 (by omega) (by omega) (by omega)
      refine ae_iinc rfl rfl (am_ri (by omega) (by omega)) ?_
      show am_E _ (57, [vR o, vI k, vI lo, vI (b + 1)], [], aq_h m s F c_3) _
      refine am_E.go (t2 := (22, [vR o, vI k, vI lo, vI (b + 1)], [], aq_h m s F c_3)) rfl rfl ?_
      exact qb_stack_i ⟨hm, hn1, hn4, hK, hFo, hFd, hFs⟩ hSd hSs ⟨hPg, hPr, hPt⟩ hNg hNr hSn hKn hfi hk0 hk1 hl0 hl1 d (b + 1) c_3 sc_3 (by omega) (by omega) hdrc_3 hnbc_3 (by omega) K0

theorem qb_stack_o {m s : Nat} {F : aq_F} {c0 : aq_C} {S : Nat → Prop} {o n K : Nat} (hB : bx_0 m F o n K) (hSd : S (o + 6 + 3 * K)) (hSs : S (o + 7 + 3 * K)) {tP : Int → Int → Int} (hP : bx_p F o n K tP) (hNg : F (o + 5 + 2 * K) = (3, K, fun j => aq_g K j (o + 6 + 2 * K + j))) (hNr : ∀ b, b < K → F (o + 6 + 2 * K + b) = (0, 2 * n - 2, fun _ => .inl 0)) (hSn : ∀ b, b < K → S (o + 6 + 2 * K + b)) (hKn : (K : Int) = bx_K (n : Int)) (hfi : ∀ x : Int, 0 ≤ x → x < (K : Int) → fi (n : Int) (tP ((x.toNat : Nat) : Int))) : ∀ (d : Nat) (k : Int) (v2 : am_V) (v3 : am_V) (c : aq_C) (hs : aq_sm S c0 c) (h0 : 0 ≤ k) (h1 : k ≤ 2 * (n : Int) - 2) (hr : aq_rg (o + 6 + 3 * K) (2 * (n : Int)) 0 (2 * (n : Int)) c) (hn : bx_nb o n K c) (hd : 2 * (n : Int) - 2 - k < (d : Int)), am_E ac_X0_stackLetters (2, [vR o, vI k, v2, v3], [], aq_h m s F c) (aq_Z m s F S c0 (fun r d => r = none ∧ aq_rg (o + 6 + 3 * K) (2 * (n : Int)) 0 (2 * (n : Int)) d ∧ bx_nb o n K d))
  | 0, k, v2, v3, c, hs, h0, h1, hr, hn, hd => by exfalso; omega
  | d + 1, k, v2, v3, c, hs, h0, h1, hr, hn, hd => by
    obtain ⟨hm, hn1, hn4, hK, hFo, hFd, hFs⟩ := hB
    obtain ⟨hPg, hPr, hPt⟩ := hP
    refine am_E.go (t2 := (3, [vR o, vI k, v2, v3], [vI k], aq_h m s F c)) rfl rfl ?_
    refine am_E.go (t2 := (4, [vR o, vI k, v2, v3], [vR o, vI k], aq_h m s F c)) rfl rfl ?_
    refine aq_gf (v := vI (2 * (n : Int) - 2)) rfl (by omega) hFo (by decide) rfl ?_
    show am_E _ (7, [vR o, vI k, v2, v3], [vI (2 * (n : Int) - 2), vI k], aq_h m s F c) _
    refine ae_icmp rfl (fun (q_1 : (2 * (n : Int) - 2) ≤ k) => ?_) (fun (q_1 : k < (2 * (n : Int) - 2)) => ?_)
    · refine am_E.ret rfl rfl ?_
      exact ⟨_, rfl, hs, rfl, hr, hn⟩
    · refine am_E.go (t2 := (11, [vR o, vI k, v2, v3], [vR o], aq_h m s F c)) rfl rfl ?_
      refine am_E.go (t2 := (12, [vR o, vI k, v2, v3], [vR o, vR o], aq_h m s F c)) rfl rfl ?_
      refine am_E.go (t2 := (13, [vR o, vI k, v2, v3], [vI k, vR o, vR o], aq_h m s F c)) rfl rfl ?_
      refine aq_callv (y := 2) (as2 := [vI k]) (rest := [vR o]) rfl rfl (by decide) (Nat.le_of_ble_eq_true rfl) rfl rfl (Nat.le_of_ble_eq_true rfl) (by omega) hFo rfl (Nat.le_of_ble_eq_true rfl) (qb_letterAt ⟨hm, hn1, hn4, hK, hFo, hFd, hFs⟩ (by omega) (by omega)) ?_
      rintro r5 h5 ⟨rfl, v_2, rfl, hv_2⟩
      show am_E _ (16, [vR o, vI k, v2, v3], [vI v_2, vR o], aq_h m s F c) _
      refine aq_callv (y := 2) (as2 := [vI v_2]) (rest := []) rfl rfl (by decide) (Nat.le_of_ble_eq_true rfl) rfl rfl (Nat.le_of_ble_eq_true rfl) (by omega) hFo rfl (Nat.le_of_ble_eq_true rfl) (qb_ofLetter ⟨hm, hn1, hn4, hK, hFo, hFd, hFs⟩ hKn (by omega) hr) ?_
      rintro r5 h5 ⟨c_3, rfl, sc_3, hrc_3, vc_3, rfl, hv0c_3, hv1c_3⟩
      show am_E _ (19, [vR o, vI k, v2, v3], [vI vc_3], aq_h m s F c_3) _
      refine am_E.go (t2 := (20, [vR o, vI k, vI vc_3, v3], [], aq_h m s F c_3)) rfl rfl ?_
      refine am_E.go (t2 := (21, [vR o, vI k, vI vc_3, v3], [vI 0], aq_h m s F c_3)) rfl rfl ?_
      refine am_E.go (t2 := (22, [vR o, vI k, vI vc_3, vI 0], [], aq_h m s F c_3)) rfl rfl ?_
      refine qb_stack_i ⟨hm, hn1, hn4, hK, hFo, hFd, hFs⟩ hSd hSs ⟨hPg, hPr, hPt⟩ hNg hNr hSn hKn hfi (by omega) (by omega) (by omega) (by omega) 106 0 c_3 (aq_smt hs (aq_smi sc_3 (fun a h => by rcases h with h | h <;> (rw [h]; assumption)))) (by omega) (by omega) hrc_3 (bx_ns hn sc_3 (fun b hb => by omega)) (by omega) ?_
      · intro b2_22 c_4 sc_4 hr2_22 hn2_22
        refine ae_iinc rfl rfl (am_ri (by omega) (by omega)) ?_
        show am_E _ (63, [vR o, vI (k + 1), vI vc_3, vI b2_22], [], aq_h m s F c_4) _
        refine am_E.go (t2 := (2, [vR o, vI (k + 1), vI vc_3, vI b2_22], [], aq_h m s F c_4)) rfl rfl ?_
        exact qb_stack_o ⟨hm, hn1, hn4, hK, hFo, hFd, hFs⟩ hSd hSs ⟨hPg, hPr, hPt⟩ hNg hNr hSn hKn hfi d (k + 1) (vI vc_3) (vI b2_22) c_4 sc_4 (by omega) (by omega) hr2_22 hn2_22 (by omega)

theorem qb_stackLetters {m s : Nat} {F : aq_F} {c : aq_C} {S : Nat → Prop} {o n K : Nat} (hB : bx_0 m F o n K) (hSd : S (o + 6 + 3 * K)) (hSs : S (o + 7 + 3 * K)) {tP : Int → Int → Int} (hP : bx_p F o n K tP) (hNg : F (o + 5 + 2 * K) = (3, K, fun j => aq_g K j (o + 6 + 2 * K + j))) (hNr : ∀ b, b < K → F (o + 6 + 2 * K + b) = (0, 2 * n - 2, fun _ => .inl 0)) (hSn : ∀ b, b < K → S (o + 6 + 2 * K + b)) (hKn : (K : Int) = bx_K (n : Int)) (hfi : ∀ x : Int, 0 ≤ x → x < (K : Int) → fi (n : Int) (tP ((x.toNat : Nat) : Int))) (hr : aq_rg (o + 6 + 3 * K) (2 * (n : Int)) 0 (2 * (n : Int)) c) (hn : bx_nb o n K c) : am_E ac_X0_stackLetters (0, [vR o, vU, vU, vU], [], aq_h m s F c) (aq_Z m s F S c (fun r d => r = none ∧ aq_rg (o + 6 + 3 * K) (2 * (n : Int)) 0 (2 * (n : Int)) d ∧ bx_nb o n K d)) := by
  obtain ⟨hm, hn1, hn4, hK, hFo, hFd, hFs⟩ := hB
  obtain ⟨hPg, hPr, hPt⟩ := hP
  refine am_E.go (t2 := (1, [vR o, vU, vU, vU], [vI 0], aq_h m s F c)) rfl rfl ?_
  refine am_E.go (t2 := (2, [vR o, vI 0, vU, vU], [], aq_h m s F c)) rfl rfl ?_
  exact qb_stack_o ⟨hm, hn1, hn4, hK, hFo, hFd, hFs⟩ hSd hSs ⟨hPg, hPr, hPt⟩ hNg hNr hSn hKn hfi 9 0 (vU) (vU) c aq_sm0 (by omega) (by omega) hr hn (by omega)
/-! Boxes: stackLetters, exactly. Printed by wip/p20/sx/gBK.py. -/

theorem ldr_c {n : Int} {f g f2 g2 : Int → Int} (hf : ∀ i, 0 ≤ i → i < 2 * n → f i = f2 i) (hg : ∀ i, 0 ≤ i → i < 2 * n → g i = g2 i) (rf : fi n f2) (rg : fi n g2) : ∀ (d : Nat) (u : Bool) (p : Int), 0 ≤ p → p < 2 * n → ldr n f g d u p = ldr n f2 g2 d u p
  | 0, _, _, _, _ => rfl
  | d + 1, true, p, h0, h1 => by
    rw [ldr, ldr, hf p h0 h1]
    have r := rf p h0 h1
    by_cases e : n ≤ f2 p
    · rw [if_pos e, if_pos e, ldr_c hf hg rf rg d false _ (by omega) (by omega)]
    · rw [if_neg e, if_neg e]
  | d + 1, false, p, h0, h1 => by
    rw [ldr, ldr, hg p h0 h1]
    have r := rg p h0 h1
    by_cases e : g2 p < n
    · rw [if_pos e, if_pos e, ldr_c hf hg rf rg d true _ (by omega) (by omega)]
    · rw [if_neg e, if_neg e]
theorem fv_c {n : Int} {f g f2 g2 : Int → Int} (hf : ∀ i, 0 ≤ i → i < 2 * n → f i = f2 i) (hg : ∀ i, 0 ≤ i → i < 2 * n → g i = g2 i) (rf : fi n f2) (rg : fi n g2) : ∀ (d : Nat) (u : Bool) (p : Int) (w : Int → Int), 0 ≤ p → p < 2 * n → fv_ n f g d u p w = fv_ n f2 g2 d u p w
  | 0, _, _, _, _, _ => rfl
  | d + 1, true, p, w, h0, h1 => by
    rw [fv_, fv_, hf p h0 h1]
    have r := rf p h0 h1
    by_cases e : n ≤ f2 p
    · rw [if_pos e, if_pos e, fv_c hf hg rf rg d false _ _ (by omega) (by omega)]
    · rw [if_neg e, if_neg e]
  | d + 1, false, p, w, h0, h1 => by
    rw [fv_, fv_, hg p h0 h1]
    have r := rg p h0 h1
    by_cases e : g2 p < n
    · rw [if_pos e, if_pos e, fv_c hf hg rf rg d true _ _ (by omega) (by omega)]
    · rw [if_neg e, if_neg e]
theorem mj_c {n : Int} {f g f2 g2 : Int → Int} (hf : ∀ i, 0 ≤ i → i < 2 * n → f i = f2 i) (hg : ∀ i, 0 ≤ i → i < 2 * n → g i = g2 i) (rf : fi n f2) (rg : fi n g2) : ∀ (d : Nat) (p : Int) (w : Int → Int), 0 ≤ p → mj_ n f g d p w = mj_ n f2 g2 d p w
  | 0, _, _, _ => rfl
  | d + 1, p, w, h0 => by
    rw [mj_, mj_]
    by_cases e : p < 2 * n
    · rw [if_pos e, if_pos e, fv_c hf hg rf rg 5 _ p w h0 e, mj_c hf hg rf rg d (p + 1) _ (by omega)]
    · rw [if_neg e, if_neg e]
theorem ci_c {n : Int} {f g f2 g2 : Int → Int} (hf : ∀ i, 0 ≤ i → i < 2 * n → f i = f2 i) (hg : ∀ i, 0 ≤ i → i < 2 * n → g i = g2 i) (rf : fi n f2) (rg : fi n g2) : ∀ (d : Nat) (k a : Int) (w : Int → Int), 0 ≤ a → a < 2 * n → ci_ n f g d k a w = ci_ n f2 g2 d k a w
  | 0, _, _, _, _, _ => rfl
  | d + 1, k, a, w, h0, h1 => by
    rw [ci_, ci_]
    by_cases e : k < n ∧ w a = 0
    · have r1 := ac_r (n := n) h0 h1
      have r2 := rf _ r1.1 r1.2
      have r3 := ac_r (n := n) r2.1 r2.2.1
      have r4 := rg _ r3.1 r3.2
      rw [if_pos e, if_pos e, hf _ r1.1 r1.2, hg _ r3.1 r3.2, ci_c hf hg rf rg d (k + 1) _ _ r4.1 r4.2.1]
    · rw [if_neg e, if_neg e]
theorem co_c {n : Int} {f g f2 g2 : Int → Int} (hf : ∀ i, 0 ≤ i → i < 2 * n → f i = f2 i) (hg : ∀ i, 0 ≤ i → i < 2 * n → g i = g2 i) (rf : fi n f2) (rg : fi n g2) : ∀ (d : Nat) (p x : Int) (w : Int → Int), 0 ≤ p → co_ n f g d p x w = co_ n f2 g2 d p x w
  | 0, _, _, _, _ => rfl
  | d + 1, p, x, w, h0 => by
    rw [co_, co_]
    by_cases e : p < n
    · rw [if_pos e, if_pos e, ci_c hf hg rf rg 9 0 p w h0 (by omega), co_c hf hg rf rg d (p + 1) _ _ (by omega), co_c hf hg rf rg d (p + 1) _ _ (by omega)]
    · rw [if_neg e, if_neg e]
theorem jn_c {n : Int} {f g f2 g2 : Int → Int} (h1 : 1 ≤ n) (h4 : n ≤ 4) (hf : ∀ i, 0 ≤ i → i < 2 * n → f i = f2 i) (hg : ∀ i, 0 ≤ i → i < 2 * n → g i = g2 i) (rf : fi n f2) (rg : fi n g2) : jn_ n f g = jn_ n f2 g2 := by
  unfold jn_
  have e : ∀ i, 0 ≤ i → i < 2 * n → fst_ n f g i = fst_ n f2 g2 i := fun i i0 i1 => by
    unfold fst_
    exact ldr_c hf hg rf rg 5 _ i i0 i1
  have r := fi_st h4 rf rg
  rw [mj_c hf hg rf rg 9 0 _ (by omega), co_c hf hg rf rg 9 0 0 _ (by omega), nu_oc (N := 2 * n) e (fun i i0 i1 => by rw [e i i0 i1]; have := r i i0 i1; omega) 9 0 0 (2 * n - 1) (by omega)]
theorem jn_r {n : Int} {f g : Int → Int} (h1 : 1 ≤ n) (h4 : n ≤ 4) (rf : fi n f) (rg : fi n g) : 0 ≤ jn_ n f g ∧ jn_ n f g < 5000 ∧ jn_ n f g % 1000 < bx_K n := by
  have a := nu_fi h1 h4 (fi_st h4 rf rg)
  have b := co_b (n := n) (f := f) (g := g) 9 0 0 (mj_ n f g 9 0 (fun _ => 0)) (by omega) (by omega) (by omega)
  have k : bx_K n ≤ 105 := by
    unfold bx_K
    (repeat' split) <;> omega
  unfold jn_
  omega
/-- the letter at a place; its box -/
def lt_ (n k : Int) : Int := if k < n - 1 then k + 1 else k - (n - 1) + 11
def lb_ (n k : Int) : Int := nu_o (bx_ol n.toNat (lt_ n k)) (2 * n) 9 0 0 (2 * n - 1)

theorem qz_letterAt {m s : Nat} {F : aq_F} {c : aq_C} {o n K : Nat} (hB : bx_0 m F o n K) {p : Int} (h0 : 0 ≤ p) (h1 : p < 2 * (n : Int) - 2) : am_E ac_X0_letterAt (0, [vR o, vI p], [], aq_h m s F c) (aq_P m s F c (fun r => r = some (vI (lt_ (n : Int) p)))) := by
  obtain ⟨hm, hn1, hn4, hK, hFo, hFd, hFs⟩ := hB
  refine am_E.go (t2 := (1, [vR o, vI p], [vI p], aq_h m s F c)) rfl rfl ?_
  refine am_E.go (t2 := (2, [vR o, vI p], [vR o, vI p], aq_h m s F c)) rfl rfl ?_
  refine aq_gf (v := vI (n : Int)) rfl (by omega) hFo (by decide) rfl ?_
  show am_E _ (5, [vR o, vI p], [vI (n : Int), vI p], aq_h m s F c) _
  refine am_E.go (t2 := (6, [vR o, vI p], [vI 1, vI (n : Int), vI p], aq_h m s F c)) rfl rfl ?_
  refine ae_sub rfl (am_ri (by omega) (by omega)) ?_
  show am_E _ (7, [vR o, vI p], [vI ((n : Int) - 1), vI p], aq_h m s F c) _
  refine ae_icmp rfl (fun (q_1 : ((n : Int) - 1) ≤ p) => ?_) (fun (q_1 : p < ((n : Int) - 1)) => ?_)
  · refine am_E.go (t2 := (17, [vR o, vI p], [vI p], aq_h m s F c)) rfl rfl ?_
    refine am_E.go (t2 := (18, [vR o, vI p], [vR o, vI p], aq_h m s F c)) rfl rfl ?_
    refine aq_gf (v := vI (n : Int)) rfl (by omega) hFo (by decide) rfl ?_
    show am_E _ (21, [vR o, vI p], [vI (n : Int), vI p], aq_h m s F c) _
    refine am_E.go (t2 := (22, [vR o, vI p], [vI 1, vI (n : Int), vI p], aq_h m s F c)) rfl rfl ?_
    refine ae_sub rfl (am_ri (by omega) (by omega)) ?_
    show am_E _ (23, [vR o, vI p], [vI ((n : Int) - 1), vI p], aq_h m s F c) _
    refine ae_sub rfl (am_ri (by omega) (by omega)) ?_
    show am_E _ (24, [vR o, vI p], [vI (p - ((n : Int) - 1))], aq_h m s F c) _
    refine am_E.go (t2 := (26, [vR o, vI p], [vI 11, vI (p - ((n : Int) - 1))], aq_h m s F c)) rfl rfl ?_
    refine ae_add rfl (am_ri (by omega) (by omega)) ?_
    show am_E _ (27, [vR o, vI p], [vI ((p - ((n : Int) - 1)) + 11)], aq_h m s F c) _
    refine am_E.ret rfl rfl ?_
    refine ⟨rfl, ?_⟩
    have e9 : lt_ (n : Int) p = ((p - ((n : Int) - 1)) + 11) := by unfold lt_; first | rw [if_pos (by omega)] | rw [if_neg (by omega)]
    rw [e9]
  · refine am_E.go (t2 := (11, [vR o, vI p], [vI p], aq_h m s F c)) rfl rfl ?_
    refine am_E.go (t2 := (12, [vR o, vI p], [vI 1, vI p], aq_h m s F c)) rfl rfl ?_
    refine ae_add rfl (am_ri (by omega) (by omega)) ?_
    show am_E _ (13, [vR o, vI p], [vI (p + 1)], aq_h m s F c) _
    refine am_E.go (t2 := (27, [vR o, vI p], [vI (p + 1)], aq_h m s F c)) rfl rfl ?_
    refine am_E.ret rfl rfl ?_
    refine ⟨rfl, ?_⟩
    have e9 : lt_ (n : Int) p = (p + 1) := by unfold lt_; first | rw [if_pos (by omega)] | rw [if_neg (by omega)]
    rw [e9]

theorem lt_v {n k : Int} (h0 : 0 ≤ k) (h1 : k < 2 * n - 2) : lt_ n k = 0 ∨ ((1 ≤ lt_ n k ∧ lt_ n k < n) ∨ (11 ≤ lt_ n k ∧ lt_ n k < 10 + n)) := by
  unfold lt_
  split <;> omega
theorem qz_ofLetter {m s : Nat} {F : aq_F} {c : aq_C} {o n K : Nat} (hB : bx_0 m F o n K) {l : Int} (hl : l = 0 ∨ ((1 ≤ l ∧ l < (n : Int)) ∨ (11 ≤ l ∧ l < 10 + (n : Int)))) (hr : aq_rg (o + 6 + 3 * K) (2 * (n : Int)) 0 (2 * (n : Int)) c) : am_E ac_X0_ofLetter (0, [vR o, vI l, vU], [], aq_h m s F c) (aq_Z m s F (fun a => a = o + 6 + 3 * K ∨ a = o + 7 + 3 * K) c (fun r d => aq_rg (o + 6 + 3 * K) (2 * (n : Int)) 0 (2 * (n : Int)) d ∧ r = some (vI (nu_o (bx_ol n l) (2 * (n : Int)) 9 0 0 (2 * (n : Int) - 1))))) := by
  refine (qn_X0_ofLetter (S := fun a => a = o + 6 + 3 * K ∨ a = o + 7 + 3 * K) hB (Or.inl rfl) (Or.inr rfl) hr).imp ?_
  rintro r h2 ⟨d, e1, e2, e3, e4⟩
  rcases e4 with e4 | ⟨-, e5, e6⟩
  · exact absurd hl e4.1
  · have en := nu_oc (N := 2 * (n : Int)) e5 (fun i k0 k1 => by have := e3 i k0 k1; omega) 9 0 0 (2 * (n : Int) - 1) (by omega)
    exact ⟨d, e1, e2, e3, by rw [e6, en]⟩
theorem lb_r {n k : Int} (h1 : 1 ≤ n) (h4 : n ≤ 4) (h0 : 0 ≤ k) (hk : k < 2 * n - 2) : 0 ≤ lb_ n k ∧ lb_ n k < bx_K n := by
  have e : ((n.toNat : Nat) : Int) = n := Int.toNat_of_nonneg (by omega)
  have := ol_n (n := n.toNat) (l := lt_ n k) (by omega) (by omega) (by rw [e]; exact lt_v h0 hk)
  rw [e] at this
  exact this

theorem qz_stack_i {m s : Nat} {F : aq_F} {c0 : aq_C} {S : Nat → Prop} {o n K : Nat} (hB : bx_0 m F o n K) (hSd : S (o + 6 + 3 * K)) (hSs : S (o + 7 + 3 * K)) {tP : Int → Int → Int} (hP : bx_p F o n K tP) (hNg : F (o + 5 + 2 * K) = (3, K, fun j => aq_g K j (o + 6 + 2 * K + j))) (hNr : ∀ b, b < K → F (o + 6 + 2 * K + b) = (0, 2 * n - 2, fun _ => .inl 0)) (hSn : ∀ b, b < K → S (o + 6 + 2 * K + b)) (hKn : (K : Int) = bx_K (n : Int)) (hfi : ∀ x : Int, 0 ≤ x → x < (K : Int) → fi (n : Int) (tP ((x.toNat : Nat) : Int))) {k lo : Int} (hk0 : 0 ≤ k) (hk1 : k < 2 * (n : Int) - 2) (hl0 : 0 ≤ lo) (hl1 : lo < (K : Int)) : ∀ (d : Nat) (b : Int) (c : aq_C) (hs : aq_sm S c0 c) (h0 : 0 ≤ b) (h1 : b ≤ (K : Int)) (hr : aq_rg (o + 6 + 3 * K) (2 * (n : Int)) 0 (2 * (n : Int)) c) (hcur : ∀ b2 : Int, 0 ≤ b2 → b2 < b → c (o + 6 + 2 * K + b2.toNat) k = jn_ (n : Int) (tP ((b2.toNat : Nat) : Int)) (tP ((lo.toNat : Nat) : Int))) (hold : ∀ b2 k2 : Int, 0 ≤ b2 → b2 < (K : Int) → 0 ≤ k2 → k2 < k → c (o + 6 + 2 * K + b2.toNat) k2 = jn_ (n : Int) (tP ((b2.toNat : Nat) : Int)) (tP (((lb_ (n : Int) k2).toNat : Nat) : Int))) (hd : (K : Int) - b < (d : Int)) (K0 : ∀ (b2 : Int) (c2 : aq_C) (hs2 : aq_sm S c0 c2) (hr2 : aq_rg (o + 6 + 3 * K) (2 * (n : Int)) 0 (2 * (n : Int)) c2) (hcur2 : ∀ b2 : Int, 0 ≤ b2 → b2 < (K : Int) → c2 (o + 6 + 2 * K + b2.toNat) k = jn_ (n : Int) (tP ((b2.toNat : Nat) : Int)) (tP ((lo.toNat : Nat) : Int))) (hold2 : ∀ b2 k2 : Int, 0 ≤ b2 → b2 < (K : Int) → 0 ≤ k2 → k2 < k → c2 (o + 6 + 2 * K + b2.toNat) k2 = jn_ (n : Int) (tP ((b2.toNat : Nat) : Int)) (tP (((lb_ (n : Int) k2).toNat : Nat) : Int))), am_E ac_X0_stackLetters (60, [vR o, vI k, vI lo, vI b2], [], aq_h m s F c2) (aq_Z m s F S c0 (fun r d => r = none ∧ aq_rg (o + 6 + 3 * K) (2 * (n : Int)) 0 (2 * (n : Int)) d ∧ ∀ b k : Int, 0 ≤ b → b < (K : Int) → 0 ≤ k → k < 2 * (n : Int) - 2 → d (o + 6 + 2 * K + b.toNat) k = jn_ (n : Int) (tP ((b.toNat : Nat) : Int)) (tP (((lb_ (n : Int) k).toNat : Nat) : Int))))), am_E ac_X0_stackLetters (22, [vR o, vI k, vI lo, vI b], [], aq_h m s F c) (aq_Z m s F S c0 (fun r d => r = none ∧ aq_rg (o + 6 + 3 * K) (2 * (n : Int)) 0 (2 * (n : Int)) d ∧ ∀ b k : Int, 0 ≤ b → b < (K : Int) → 0 ≤ k → k < 2 * (n : Int) - 2 → d (o + 6 + 2 * K + b.toNat) k = jn_ (n : Int) (tP ((b.toNat : Nat) : Int)) (tP (((lb_ (n : Int) k).toNat : Nat) : Int))))
  | 0, b, c, hs, h0, h1, hr, hcur, hold, hd, K0 => by exfalso; omega
  | d + 1, b, c, hs, h0, h1, hr, hcur, hold, hd, K0 => by
    obtain ⟨hm, hn1, hn4, hK, hFo, hFd, hFs⟩ := hB
    obtain ⟨hPg, hPr, hPt⟩ := hP
    refine am_E.go (t2 := (23, [vR o, vI k, vI lo, vI b], [vI b], aq_h m s F c)) rfl rfl ?_
    refine am_E.go (t2 := (24, [vR o, vI k, vI lo, vI b], [vR o, vI b], aq_h m s F c)) rfl rfl ?_
    refine aq_gf (v := vI (K : Int)) rfl (by omega) hFo (by decide) rfl ?_
    show am_E _ (27, [vR o, vI k, vI lo, vI b], [vI (K : Int), vI b], aq_h m s F c) _
    refine ae_icmp rfl (fun (q_1 : (K : Int) ≤ b) => ?_) (fun (q_1 : b < (K : Int)) => ?_)
    · exact K0 b c hs hr (fun b2 k0 k1 => hcur b2 k0 (by omega)) hold
    · refine am_E.go (t2 := (31, [vR o, vI k, vI lo, vI b], [vR o], aq_h m s F c)) rfl rfl ?_
      refine aq_gf (v := vR (o + 5 + 2 * K)) rfl (by omega) hFo (by decide) rfl ?_
      show am_E _ (34, [vR o, vI k, vI lo, vI b], [vR (o + 5 + 2 * K)], aq_h m s F c) _
      refine am_E.go (t2 := (35, [vR o, vI k, vI lo, vI b], [vI b, vR (o + 5 + 2 * K)], aq_h m s F c)) rfl rfl ?_
      refine aq_al (ok := fun k => decide (3 ≤ k) && decide (k < 7)) (v := vR (o + 6 + 2 * K + b.toNat)) rfl rfl (by omega) hNg rfl (by omega) (by omega) (aq_gi (by omega)) ?_
      show am_E _ (36, [vR o, vI k, vI lo, vI b], [vR (o + 6 + 2 * K + b.toNat)], aq_h m s F c) _
      refine am_E.go (t2 := (37, [vR o, vI k, vI lo, vI b], [vI k, vR (o + 6 + 2 * K + b.toNat)], aq_h m s F c)) rfl rfl ?_
      refine am_E.go (t2 := (38, [vR o, vI k, vI lo, vI b], [vR o, vI k, vR (o + 6 + 2 * K + b.toNat)], aq_h m s F c)) rfl rfl ?_
      refine am_E.go (t2 := (39, [vR o, vI k, vI lo, vI b], [vR o, vR o, vI k, vR (o + 6 + 2 * K + b.toNat)], aq_h m s F c)) rfl rfl ?_
      refine aq_gf (v := vR (o + 1)) rfl (by omega) hFo (by decide) rfl ?_
      show am_E _ (42, [vR o, vI k, vI lo, vI b], [vR (o + 1), vR o, vI k, vR (o + 6 + 2 * K + b.toNat)], aq_h m s F c) _
      refine am_E.go (t2 := (43, [vR o, vI k, vI lo, vI b], [vI b, vR (o + 1), vR o, vI k, vR (o + 6 + 2 * K + b.toNat)], aq_h m s F c)) rfl rfl ?_
      refine aq_al (ok := fun k => decide (3 ≤ k) && decide (k < 7)) (v := vR (o + 2 + b.toNat)) rfl rfl (by omega) hPg rfl (by omega) (by omega) (aq_gi (by omega)) ?_
      show am_E _ (44, [vR o, vI k, vI lo, vI b], [vR (o + 2 + b.toNat), vR o, vI k, vR (o + 6 + 2 * K + b.toNat)], aq_h m s F c) _
      refine am_E.go (t2 := (45, [vR o, vI k, vI lo, vI b], [vR o, vR (o + 2 + b.toNat), vR o, vI k, vR (o + 6 + 2 * K + b.toNat)], aq_h m s F c)) rfl rfl ?_
      refine aq_gf (v := vR (o + 1)) rfl (by omega) hFo (by decide) rfl ?_
      show am_E _ (48, [vR o, vI k, vI lo, vI b], [vR (o + 1), vR (o + 2 + b.toNat), vR o, vI k, vR (o + 6 + 2 * K + b.toNat)], aq_h m s F c) _
      refine am_E.go (t2 := (49, [vR o, vI k, vI lo, vI b], [vI lo, vR (o + 1), vR (o + 2 + b.toNat), vR o, vI k, vR (o + 6 + 2 * K + b.toNat)], aq_h m s F c)) rfl rfl ?_
      refine aq_al (ok := fun k => decide (3 ≤ k) && decide (k < 7)) (v := vR (o + 2 + lo.toNat)) rfl rfl (by omega) hPg rfl (by omega) (by omega) (aq_gi (by omega)) ?_
      show am_E _ (50, [vR o, vI k, vI lo, vI b], [vR (o + 2 + lo.toNat), vR (o + 2 + b.toNat), vR o, vI k, vR (o + 6 + 2 * K + b.toNat)], aq_h m s F c) _
      refine aq_callv (y := 3) (as2 := [vR (o + 2 + b.toNat), vR (o + 2 + lo.toNat)]) (rest := [vI k, vR (o + 6 + 2 * K + b.toNat)]) rfl rfl (by decide) (Nat.le_of_ble_eq_true rfl) rfl rfl (Nat.le_of_ble_eq_true rfl) (by omega) hFo rfl (Nat.le_of_ble_eq_true rfl) (qz_join (S := (fun a => a = o + 6 + 3 * K ∨ a = o + 7 + 3 * K)) ⟨hm, hn1, hn4, hK, hFo, hFd, hFs⟩ (Or.inl rfl) (Or.inr rfl) ⟨hPg, hPr, hPt⟩ (x := b) (y := lo) (by omega) (by omega) (by omega) (by omega) (hfi b (by omega) (by omega)) (hfi lo (by omega) (by omega)) hKn hr) ?_
      rintro r5 h5 ⟨c_2, rfl, sc_2, hrc_2, rfl⟩
      show am_E _ (53, [vR o, vI k, vI lo, vI b], [vI (jn_ (n : Int) (tP ((b.toNat : Nat) : Int)) (tP ((lo.toNat : Nat) : Int))), vI k, vR (o + 6 + 2 * K + b.toNat)], aq_h m s F c_2) _
      refine aq_as (kd := 0) rfl rfl (by omega) (hNr _ (by omega)) (by omega) (by omega) rfl rfl ?_
      show am_E _ (54, [vR o, vI k, vI lo, vI b], [], aq_h m s F (aq_u c_2 (o + 6 + 2 * K + b.toNat) k (jn_ (n : Int) (tP ((b.toNat : Nat) : Int)) (tP ((lo.toNat : Nat) : Int))))) _
      generalize hdc_3 : aq_u c_2 (o + 6 + 2 * K + b.toNat) k (jn_ (n : Int) (tP ((b.toNat : Nat) : Int)) (tP ((lo.toNat : Nat) : Int))) = c_3
      have sc_3 := aq_smu (aq_smt hs (aq_smi sc_2 (fun a h => by rcases h with h | h <;> (rw [h]; assumption)))) hdc_3 (hSn _ (by omega))
      have hdrc_3 := aq_rgn hrc_2 hdc_3 (by omega)
      refine ae_iinc rfl rfl (am_ri (by omega) (by omega)) ?_
      show am_E _ (57, [vR o, vI k, vI lo, vI (b + 1)], [], aq_h m s F c_3) _
      refine am_E.go (t2 := (22, [vR o, vI k, vI lo, vI (b + 1)], [], aq_h m s F c_3)) rfl rfl ?_
      exact qz_stack_i ⟨hm, hn1, hn4, hK, hFo, hFd, hFs⟩ hSd hSs ⟨hPg, hPr, hPt⟩ hNg hNr hSn hKn hfi hk0 hk1 hl0 hl1 d (b + 1) c_3 sc_3 (by omega) (by omega) hdrc_3 (fun b2 k0 k1 => by rw [← hdc_3]; by_cases e : b2 = b; (rw [e, aq_us]); (rw [aq_un (Or.inl (by omega)), sc_2 _ (by omega)]; exact hcur b2 k0 (by omega))) (fun b2 k2 g0 g1 g2 g3 => by rw [← hdc_3, aq_un (Or.inr (by omega)), sc_2 _ (by omega)]; exact hold b2 k2 g0 g1 g2 g3) (by omega) K0

theorem qz_stack_o {m s : Nat} {F : aq_F} {c0 : aq_C} {S : Nat → Prop} {o n K : Nat} (hB : bx_0 m F o n K) (hSd : S (o + 6 + 3 * K)) (hSs : S (o + 7 + 3 * K)) {tP : Int → Int → Int} (hP : bx_p F o n K tP) (hNg : F (o + 5 + 2 * K) = (3, K, fun j => aq_g K j (o + 6 + 2 * K + j))) (hNr : ∀ b, b < K → F (o + 6 + 2 * K + b) = (0, 2 * n - 2, fun _ => .inl 0)) (hSn : ∀ b, b < K → S (o + 6 + 2 * K + b)) (hKn : (K : Int) = bx_K (n : Int)) (hfi : ∀ x : Int, 0 ≤ x → x < (K : Int) → fi (n : Int) (tP ((x.toNat : Nat) : Int))) : ∀ (d : Nat) (k : Int) (v2 : am_V) (v3 : am_V) (c : aq_C) (hs : aq_sm S c0 c) (h0 : 0 ≤ k) (h1 : k ≤ 2 * (n : Int) - 2) (hr : aq_rg (o + 6 + 3 * K) (2 * (n : Int)) 0 (2 * (n : Int)) c) (hall : ∀ b2 k2 : Int, 0 ≤ b2 → b2 < (K : Int) → 0 ≤ k2 → k2 < k → c (o + 6 + 2 * K + b2.toNat) k2 = jn_ (n : Int) (tP ((b2.toNat : Nat) : Int)) (tP (((lb_ (n : Int) k2).toNat : Nat) : Int))) (hd : 2 * (n : Int) - 2 - k < (d : Int)), am_E ac_X0_stackLetters (2, [vR o, vI k, v2, v3], [], aq_h m s F c) (aq_Z m s F S c0 (fun r d => r = none ∧ aq_rg (o + 6 + 3 * K) (2 * (n : Int)) 0 (2 * (n : Int)) d ∧ ∀ b k : Int, 0 ≤ b → b < (K : Int) → 0 ≤ k → k < 2 * (n : Int) - 2 → d (o + 6 + 2 * K + b.toNat) k = jn_ (n : Int) (tP ((b.toNat : Nat) : Int)) (tP (((lb_ (n : Int) k).toNat : Nat) : Int))))
  | 0, k, v2, v3, c, hs, h0, h1, hr, hall, hd => by exfalso; omega
  | d + 1, k, v2, v3, c, hs, h0, h1, hr, hall, hd => by
    obtain ⟨hm, hn1, hn4, hK, hFo, hFd, hFs⟩ := hB
    obtain ⟨hPg, hPr, hPt⟩ := hP
    refine am_E.go (t2 := (3, [vR o, vI k, v2, v3], [vI k], aq_h m s F c)) rfl rfl ?_
    refine am_E.go (t2 := (4, [vR o, vI k, v2, v3], [vR o, vI k], aq_h m s F c)) rfl rfl ?_
    refine aq_gf (v := vI (2 * (n : Int) - 2)) rfl (by omega) hFo (by decide) rfl ?_
    show am_E _ (7, [vR o, vI k, v2, v3], [vI (2 * (n : Int) - 2), vI k], aq_h m s F c) _
    refine ae_icmp rfl (fun (q_1 : (2 * (n : Int) - 2) ≤ k) => ?_) (fun (q_1 : k < (2 * (n : Int) - 2)) => ?_)
    · refine am_E.ret rfl rfl ?_
      exact ⟨_, rfl, hs, rfl, hr, fun b2 k2 g0 g1 g2 g3 => hall b2 k2 g0 g1 g2 (by omega)⟩
    · refine am_E.go (t2 := (11, [vR o, vI k, v2, v3], [vR o], aq_h m s F c)) rfl rfl ?_
      refine am_E.go (t2 := (12, [vR o, vI k, v2, v3], [vR o, vR o], aq_h m s F c)) rfl rfl ?_
      refine am_E.go (t2 := (13, [vR o, vI k, v2, v3], [vI k, vR o, vR o], aq_h m s F c)) rfl rfl ?_
      refine aq_callv (y := 2) (as2 := [vI k]) (rest := [vR o]) rfl rfl (by decide) (Nat.le_of_ble_eq_true rfl) rfl rfl (Nat.le_of_ble_eq_true rfl) (by omega) hFo rfl (Nat.le_of_ble_eq_true rfl) (qz_letterAt ⟨hm, hn1, hn4, hK, hFo, hFd, hFs⟩ (by omega) (by omega)) ?_
      rintro r5 h5 ⟨rfl, rfl⟩
      show am_E _ (16, [vR o, vI k, v2, v3], [vI (lt_ (n : Int) k), vR o], aq_h m s F c) _
      have hlt := lt_v (n := (n : Int)) (k := k) (by omega) (by omega)
      refine aq_callv (y := 2) (as2 := [vI (lt_ (n : Int) k)]) (rest := []) rfl rfl (by decide) (Nat.le_of_ble_eq_true rfl) rfl rfl (Nat.le_of_ble_eq_true rfl) (by omega) hFo rfl (Nat.le_of_ble_eq_true rfl) (qz_ofLetter ⟨hm, hn1, hn4, hK, hFo, hFd, hFs⟩ hlt hr) ?_
      rintro r5 h5 ⟨c_2, rfl, sc_2, hrc_2, rfl⟩
      show am_E _ (19, [vR o, vI k, v2, v3], [vI (lb_ (n : Int) k)], aq_h m s F c_2) _
      have hlb := lb_r (n := (n : Int)) (k := k) (by omega) (by omega) (by omega) (by omega)
      refine am_E.go (t2 := (20, [vR o, vI k, vI (lb_ (n : Int) k), v3], [], aq_h m s F c_2)) rfl rfl ?_
      refine am_E.go (t2 := (21, [vR o, vI k, vI (lb_ (n : Int) k), v3], [vI 0], aq_h m s F c_2)) rfl rfl ?_
      refine am_E.go (t2 := (22, [vR o, vI k, vI (lb_ (n : Int) k), vI 0], [], aq_h m s F c_2)) rfl rfl ?_
      refine qz_stack_i ⟨hm, hn1, hn4, hK, hFo, hFd, hFs⟩ hSd hSs ⟨hPg, hPr, hPt⟩ hNg hNr hSn hKn hfi (by omega) (by omega) (by omega) (by omega) 106 0 c_2 (aq_smt hs (aq_smi sc_2 (fun a h => by rcases h with h | h <;> (rw [h]; assumption)))) (by omega) (by omega) hrc_2 (fun b2 k0 k1 => absurd k1 (by omega)) (fun b2 k2 g0 g1 g2 g3 => by rw [sc_2 _ (by omega)]; exact hall b2 k2 g0 g1 g2 g3) (by omega) ?_
      · intro b2_22 c_3 sc_3 hr2_22 hcur2_22 hold2_22
        refine ae_iinc rfl rfl (am_ri (by omega) (by omega)) ?_
        show am_E _ (63, [vR o, vI (k + 1), vI (lb_ (n : Int) k), vI b2_22], [], aq_h m s F c_3) _
        refine am_E.go (t2 := (2, [vR o, vI (k + 1), vI (lb_ (n : Int) k), vI b2_22], [], aq_h m s F c_3)) rfl rfl ?_
        exact qz_stack_o ⟨hm, hn1, hn4, hK, hFo, hFd, hFs⟩ hSd hSs ⟨hPg, hPr, hPt⟩ hNg hNr hSn hKn hfi d (k + 1) (vI (lb_ (n : Int) k)) (vI b2_22) c_3 sc_3 (by omega) (by omega) hr2_22 (fun b2 k2 g0 g1 g2 g3 => by by_cases e : k2 = k; (rw [e]; exact hcur2_22 b2 g0 g1); exact hold2_22 b2 k2 g0 g1 g2 (by omega)) (by omega)

theorem qz_stackLetters {m s : Nat} {F : aq_F} {c : aq_C} {S : Nat → Prop} {o n K : Nat} (hB : bx_0 m F o n K) (hSd : S (o + 6 + 3 * K)) (hSs : S (o + 7 + 3 * K)) {tP : Int → Int → Int} (hP : bx_p F o n K tP) (hNg : F (o + 5 + 2 * K) = (3, K, fun j => aq_g K j (o + 6 + 2 * K + j))) (hNr : ∀ b, b < K → F (o + 6 + 2 * K + b) = (0, 2 * n - 2, fun _ => .inl 0)) (hSn : ∀ b, b < K → S (o + 6 + 2 * K + b)) (hKn : (K : Int) = bx_K (n : Int)) (hfi : ∀ x : Int, 0 ≤ x → x < (K : Int) → fi (n : Int) (tP ((x.toNat : Nat) : Int))) (hr : aq_rg (o + 6 + 3 * K) (2 * (n : Int)) 0 (2 * (n : Int)) c) : am_E ac_X0_stackLetters (0, [vR o, vU, vU, vU], [], aq_h m s F c) (aq_Z m s F S c (fun r d => r = none ∧ aq_rg (o + 6 + 3 * K) (2 * (n : Int)) 0 (2 * (n : Int)) d ∧ ∀ b k : Int, 0 ≤ b → b < (K : Int) → 0 ≤ k → k < 2 * (n : Int) - 2 → d (o + 6 + 2 * K + b.toNat) k = jn_ (n : Int) (tP ((b.toNat : Nat) : Int)) (tP (((lb_ (n : Int) k).toNat : Nat) : Int)))) := by
  obtain ⟨hm, hn1, hn4, hK, hFo, hFd, hFs⟩ := hB
  obtain ⟨hPg, hPr, hPt⟩ := hP
  refine am_E.go (t2 := (1, [vR o, vU, vU, vU], [vI 0], aq_h m s F c)) rfl rfl ?_
  refine am_E.go (t2 := (2, [vR o, vI 0, vU, vU], [], aq_h m s F c)) rfl rfl ?_
  exact qz_stack_o ⟨hm, hn1, hn4, hK, hFo, hFd, hFs⟩ hSd hSs ⟨hPg, hPr, hPt⟩ hNg hNr hSn hKn hfi 9 0 (vU) (vU) c aq_sm0 (by omega) (by omega) hr (fun b2 k2 g0 g1 g2 g3 => absurd g3 (by omega)) (by omega)
/-! Boxes: what stackLetters makes is the table; what stackOn makes. -/
theorem bn_1 : ∀ b : Nat, b < 1 → ∀ k : Nat, k < 0 → jn_ 1 (prt 1 b) (prt 1 (lb_ 1 k)) = bn_ 1 b k := by decide +kernel
theorem bn_2 : ∀ b : Nat, b < 3 → ∀ k : Nat, k < 2 → jn_ 2 (prt 2 b) (prt 2 (lb_ 2 k)) = bn_ 2 b k := by decide +kernel
theorem bn_3 : ∀ b : Nat, b < 15 → ∀ k : Nat, k < 4 → jn_ 3 (prt 3 b) (prt 3 (lb_ 3 k)) = bn_ 3 b k := by decide +kernel
theorem bn_4 : ∀ b : Nat, b < 105 → ∀ k : Nat, k < 6 → jn_ 4 (prt 4 b) (prt 4 (lb_ 4 k)) = bn_ 4 b k := by decide +kernel
