/-! Boxes: the constructor, up to its methods. Printed by wip/p20/sx/gBI.py. -/

def bx_t0 : Nat → aq_T := fun j => aq_ot (ac_ft 0 j)
/-- the numbers are set, no array is there -/
def bx_t1 (n K : Nat) : Nat → aq_T := fun y => match y with
  | 0 => .inr (vI (n : Int))
  | 1 => .inr (vI (2 * (n : Int)))
  | 2 => .inr (vI (2 * (n : Int) - 2))
  | 3 => .inr (vI (K : Int))
  | y + 4 => bx_t0 (y + 4)
theorem bx_cnt {n K : Nat} (h1 : 1 ≤ n) (h4 : n ≤ 4) (hK : (K : Int) = bx_K (n : Int)) (h : am_H) : am_E ac_X0_countPairings (0, [vI (2 * (n : Int)), vU, vU], [], h) (fun r h2 => r = some (vI (K : Int)) ∧ h2 = h) := by
  have hn : n = 1 ∨ n = 2 ∨ n = 3 ∨ n = 4 := by omega
  rcases hn with hn | hn | hn | hn <;> subst hn <;> rw [hK]
  · exact rn_X0_count2 h
  · exact rn_X0_count4 h
  · exact rn_X0_count6 h
  · exact rn_X0_count8 h
theorem bx_K105 {n K : Nat} (h1 : 1 ≤ n) (h4 : n ≤ 4) (hK : (K : Int) = bx_K (n : Int)) : 1 ≤ K ∧ K ≤ 105 := by
  have hn : n = 1 ∨ n = 2 ∨ n = 3 ∨ n = 4 := by omega
  rcases hn with hn | hn | hn | hn <;> subst hn
  · have : (K : Int) = 1 := hK
    omega
  · have : (K : Int) = 3 := hK
    omega
  · have : (K : Int) = 15 := hK
    omega
  · have : (K : Int) = 105 := hK
    omega
/-- all arrays are there: the object and draft and seen are as they stay, the tables hold noughts -/
def bx_i (F : aq_F) (o n K : Nat) : Prop := F o = (10, 11, bx_t o n K) ∧ F (o + 6 + 3 * K) = (0, 2 * n, fun _ => .inl 0) ∧ F (o + 7 + 3 * K) = (1, 2 * n, fun _ => .inl 0) ∧
  F (o + 1) = (3, K, fun j => aq_g K j (o + 2 + j)) ∧ (∀ b, b < K → F (o + 2 + b) = (0, 2 * n, fun _ => .inl 0)) ∧ F (o + 2 + K) = (0, K, fun _ => .inl 0) ∧ F (o + 3 + K) = (0, K, fun _ => .inl 0) ∧
  F (o + 4 + K) = (3, K, fun j => aq_g K j (o + 5 + K + j)) ∧ (∀ b, b < K → F (o + 5 + K + b) = (0, 6, fun _ => .inl 0)) ∧ F (o + 5 + 2 * K) = (3, K, fun j => aq_g K j (o + 6 + 2 * K + j)) ∧ (∀ b, b < K → F (o + 6 + 2 * K + b) = (0, 2 * n - 2, fun _ => .inl 0))

theorem qb_ini0 {s : Nat} {F : aq_F} {c : aq_C} {o n K : Nat} {Z : Option am_V → am_H → Prop} (h1 : 1 ≤ n) (h4 : n ≤ 4) (hK : (K : Int) = bx_K (n : Int)) (hF : F o = (10, 11, bx_t0)) (hc : ∀ j, c o j = 0) (k : ∀ (s2 : Nat) (F2 : aq_F) (c2 : aq_C), s2 ≤ s + 2700 → bx_i F2 o n K → (∀ b, b < o → F2 b = F b) → (∀ b, b < o → ∀ j, c2 b j = c b j) → (∀ b, o < b → b < o + 8 + 3 * K → ∀ j, c2 b j = 0) → am_E ac_X0_init (122, [vR o, vI (n : Int), vU], [], aq_h (o + 8 + 3 * K) s2 F2 c2) Z) : am_E ac_X0_init (0, [vR o, vI (n : Int), vU], [], aq_h (o + 1) s F c) Z := by
  have hKb := bx_K105 h1 h4 hK
  refine am_E.go (t2 := (1, [vR o, vI (n : Int), vU], [vR o], aq_h (o + 1) s F c)) rfl rfl ?_
  refine am_E.go (t2 := (4, [vR o, vI (n : Int), vU], [], aq_h (o + 1) s F c)) rfl rfl ?_
  refine am_E.go (t2 := (5, [vR o, vI (n : Int), vU], [vR o], aq_h (o + 1) s F c)) rfl rfl ?_
  refine am_E.go (t2 := (6, [vR o, vI (n : Int), vU], [vI (n : Int), vR o], aq_h (o + 1) s F c)) rfl rfl ?_
  refine aq_pf rfl (by omega) hF (by decide) rfl rfl ?_
  show am_E _ (9, [vR o, vI (n : Int), vU], [], aq_h (o + 1) s F (aq_u c o 0 (n : Int))) _
  generalize hd0 : aq_u c o 0 (n : Int) = c_0
  refine am_E.go (t2 := (10, [vR o, vI (n : Int), vU], [vR o], aq_h (o + 1) s F c_0)) rfl rfl ?_
  refine am_E.go (t2 := (11, [vR o, vI (n : Int), vU], [vI 2, vR o], aq_h (o + 1) s F c_0)) rfl rfl ?_
  refine am_E.go (t2 := (12, [vR o, vI (n : Int), vU], [vI (n : Int), vI 2, vR o], aq_h (o + 1) s F c_0)) rfl rfl ?_
  refine ae_mul rfl (am_ri (by omega) (by omega)) ?_
  show am_E _ (13, [vR o, vI (n : Int), vU], [vI (2 * (n : Int)), vR o], aq_h (o + 1) s F c_0) _
  refine aq_pf rfl (by omega) hF (by decide) rfl rfl ?_
  show am_E _ (16, [vR o, vI (n : Int), vU], [], aq_h (o + 1) s F (aq_u c_0 o 1 (2 * (n : Int)))) _
  generalize hd1 : aq_u c_0 o 1 (2 * (n : Int)) = c_1
  refine am_E.go (t2 := (17, [vR o, vI (n : Int), vU], [vR o], aq_h (o + 1) s F c_1)) rfl rfl ?_
  refine am_E.go (t2 := (18, [vR o, vI (n : Int), vU], [vI 2, vR o], aq_h (o + 1) s F c_1)) rfl rfl ?_
  refine am_E.go (t2 := (19, [vR o, vI (n : Int), vU], [vI (n : Int), vI 2, vR o], aq_h (o + 1) s F c_1)) rfl rfl ?_
  refine am_E.go (t2 := (20, [vR o, vI (n : Int), vU], [vI 1, vI (n : Int), vI 2, vR o], aq_h (o + 1) s F c_1)) rfl rfl ?_
  refine ae_sub rfl (am_ri (by omega) (by omega)) ?_
  show am_E _ (21, [vR o, vI (n : Int), vU], [vI ((n : Int) - 1), vI 2, vR o], aq_h (o + 1) s F c_1) _
  refine ae_mul rfl (am_ri (by omega) (by omega)) ?_
  show am_E _ (22, [vR o, vI (n : Int), vU], [vI (2 * ((n : Int) - 1)), vR o], aq_h (o + 1) s F c_1) _
  refine aq_pf rfl (by omega) hF (by decide) rfl rfl ?_
  show am_E _ (25, [vR o, vI (n : Int), vU], [], aq_h (o + 1) s F (aq_u c_1 o 2 (2 * ((n : Int) - 1)))) _
  generalize hd2 : aq_u c_1 o 2 (2 * ((n : Int) - 1)) = c_2
  refine am_E.go (t2 := (26, [vR o, vI (n : Int), vU], [vR o], aq_h (o + 1) s F c_2)) rfl rfl ?_
  refine am_E.go (t2 := (27, [vR o, vI (n : Int), vU], [vR o, vR o], aq_h (o + 1) s F c_2)) rfl rfl ?_
  have e1 : c_2 o 1 = 2 * (n : Int) := by rw [← hd2, aq_un (Or.inr (by decide)), ← hd1, aq_us]
  refine aq_gf (v := vI (2 * (n : Int))) rfl (by omega) hF (by decide) (by rw [← e1]; rfl) ?_
  show am_E _ (30, [vR o, vI (n : Int), vU], [vI (2 * (n : Int)), vR o], aq_h (o + 1) s F c_2) _
  refine am_E.call rfl rfl rfl (Nat.le_of_ble_eq_true rfl) (bx_cnt h1 h4 hK _) ?_
  rintro r5 h5 ⟨rfl, rfl⟩
  show am_E _ (33, [vR o, vI (n : Int), vU], [vI (K : Int), vR o], aq_h (o + 1) s F c_2) _
  refine aq_pf rfl (by omega) hF (by decide) rfl rfl ?_
  show am_E _ (36, [vR o, vI (n : Int), vU], [], aq_h (o + 1) s F (aq_u c_2 o 3 (K : Int))) _
  generalize hd3 : aq_u c_2 o 3 (K : Int) = c_3
  have z0 : c_3 o 0 = (n : Int) := by rw [← hd3, aq_un (Or.inr (by decide)), ← hd2, aq_un (Or.inr (by decide)), ← hd1, aq_un (Or.inr (by decide)), ← hd0, aq_us]
  have z1 : c_3 o 1 = 2 * (n : Int) := by rw [← hd3, aq_un (Or.inr (by decide)), e1]
  have z2 : c_3 o 2 = 2 * (n : Int) - 2 := by rw [← hd3, aq_un (Or.inr (by decide)), ← hd2, aq_us]; omega
  have z3 : c_3 o 3 = (K : Int) := by rw [← hd3, aq_us]
  have zb : ∀ b, b ≠ o → ∀ j, c_3 b j = c b j := fun b hb j => by rw [← hd3, aq_un (Or.inl hb), ← hd2, aq_un (Or.inl hb), ← hd1, aq_un (Or.inl hb), ← hd0, aq_un (Or.inl hb)]
  have ef : aq_h (o + 1) s F c_3 = aq_h (o + 1) s (am_up F o (10, 11, bx_t1 n K)) c_3 := by
    refine aq_eq fun a => ?_
    by_cases e : a = o
    · subst e
      rw [am_up_s, hF]
      refine ⟨rfl, rfl, fun i => ?_⟩
      match i with
      | 0 => exact congrArg vI z0.symm
      | 1 => exact congrArg vI z1.symm
      | 2 => exact congrArg vI z2.symm
      | 3 => exact congrArg vI z3.symm
      | i + 4 => rfl
    · rw [am_up_n e]
      exact ⟨rfl, rfl, fun i => rfl⟩
  rw [ef]
  have y_0 : am_up F o (10, 11, bx_t1 n K) o = (10, 11, bx_t1 n K) := am_up_s
  have f_0 : ∀ b, b < o → am_up F o (10, 11, bx_t1 n K) b = F b := fun b hb => am_up_n (by omega)
  generalize am_up F o (10, 11, bx_t1 n K) = F_0 at y_0 f_0 ⊢
  have u_0 : ∀ b, b < o → ∀ j, c_3 b j = c b j := fun b hb j => zb b (by omega) j
  have zz_0 : ∀ b, o < b → b < o + 1 → ∀ j, c_3 b j = 0 := fun b hb1 hb2 j => absurd hb1 (by omega)
  refine am_E.go (t2 := (37, [vR o, vI (n : Int), vU], [vR o], aq_h (o + 1) s F_0 c_3)) rfl rfl ?_
  refine am_E.go (t2 := (38, [vR o, vI (n : Int), vU], [vR o, vR o], aq_h (o + 1) s F_0 c_3)) rfl rfl ?_
  refine aq_gf (v := vI ((K : Int))) rfl (by omega) y_0 (by decide) rfl ?_
  show am_E _ (41, [vR o, vI (n : Int), vU], [vI (K : Int), vR o], aq_h (o + 1) s F_0 c_3) _
  refine am_E.go (t2 := (42, [vR o, vI (n : Int), vU], [vR o, vI (K : Int), vR o], aq_h (o + 1) s F_0 c_3)) rfl rfl ?_
  refine aq_gf (v := vI (2 * (n : Int))) rfl (by omega) y_0 (by decide) rfl ?_
  show am_E _ (45, [vR o, vI (n : Int), vU], [vI (2 * (n : Int)), vI (K : Int), vR o], aq_h (o + 1) s F_0 c_3) _
  refine aq_gst (o := o) (n := K) (w := 2 * n) (a := o + 1) (m2 := o + 2 + K) rfl rfl y_0 (by omega) rfl (by omega) (by omega) (by omega) rfl (by decide) (by omega) (by omega) ?_
  intro s_1 F_1 c_1 es_1 y_1 a_1 r_1 o_1 z_1 u_1
  show am_E _ (52, [vR o, vI (n : Int), vU], [], aq_h (o + 2 + K) s_1 F_1 c_1) _
  have ga1_1 : F_1 (o + 1) = (3, K, fun j => aq_g K j (o + 1 + 1 + j)) := a_1
  have gr1_1 : ∀ b, b < K → F_1 (o + 1 + 1 + b) = (0, 2 * n, fun _ => .inl 0) := r_1
  have f_1 : ∀ b, b < o → F_1 b = F b := fun b hb => (o_1 b (by omega) (by omega)).trans (f_0 b hb)
  have v_1 : ∀ b, b < o → ∀ j, c_1 b j = c b j := fun b hb j => (u_1 b (by omega) j).trans (u_0 b hb j)
  have zz_1 : ∀ b, o < b → b < o + 2 + K → ∀ j, c_1 b j = 0 := fun b hb1 hb2 j => by
    by_cases e : b < o + 1
    · rw [u_1 b (by omega) j]; exact zz_0 b hb1 e j
    · exact z_1 b (by omega) (by omega) j
  refine am_E.go (t2 := (53, [vR o, vI (n : Int), vU], [vR o], aq_h (o + 2 + K) s_1 F_1 c_1)) rfl rfl ?_
  refine am_E.go (t2 := (54, [vR o, vI (n : Int), vU], [vR o, vR o], aq_h (o + 2 + K) s_1 F_1 c_1)) rfl rfl ?_
  refine aq_gf (v := vI ((K : Int))) rfl (by omega) y_1 (by decide) rfl ?_
  show am_E _ (57, [vR o, vI (n : Int), vU], [vI ((K : Int)), vR o], aq_h (o + 2 + K) s_1 F_1 c_1) _
  refine aq_stp (o := o) (n := K) (a := o + 2 + K) (m2 := o + 3 + K) rfl rfl y_1 (by omega) (by decide) (by omega) (by omega) rfl (by decide) (by omega) (by omega) ?_
  intro s_2 F_2 c_2 es_2 y_2 a_2 o_2 z_2 u_2
  show am_E _ (62, [vR o, vI (n : Int), vU], [], aq_h (o + 3 + K) s_2 F_2 c_2) _
  have ga1_2 : F_2 (o + 1) = (3, K, fun j => aq_g K j (o + 1 + 1 + j)) := by rw [o_2 _ (by omega) (by omega)]; exact ga1_1
  have gr1_2 : ∀ b, b < K → F_2 (o + 1 + 1 + b) = (0, 2 * n, fun _ => .inl 0) := fun b hb => by rw [o_2 _ (by omega) (by omega)]; exact gr1_1 b hb
  have ga2_2 : F_2 (o + 2 + K) = (0, K, fun _ => .inl 0) := a_2
  have f_2 : ∀ b, b < o → F_2 b = F b := fun b hb => (o_2 b (by omega) (by omega)).trans (f_1 b hb)
  have v_2 : ∀ b, b < o → ∀ j, c_2 b j = c b j := fun b hb j => (u_2 b (by omega) j).trans (v_1 b hb j)
  have zz_2 : ∀ b, o < b → b < o + 3 + K → ∀ j, c_2 b j = 0 := fun b hb1 hb2 j => by
    by_cases e : b < o + 2 + K
    · rw [u_2 b (by omega) j]; exact zz_1 b hb1 e j
    · obtain rfl : b = o + 2 + K := by omega
      exact z_2 j
  refine am_E.go (t2 := (63, [vR o, vI (n : Int), vU], [vR o], aq_h (o + 3 + K) s_2 F_2 c_2)) rfl rfl ?_
  refine am_E.go (t2 := (64, [vR o, vI (n : Int), vU], [vR o, vR o], aq_h (o + 3 + K) s_2 F_2 c_2)) rfl rfl ?_
  refine aq_gf (v := vI ((K : Int))) rfl (by omega) y_2 (by decide) rfl ?_
  show am_E _ (67, [vR o, vI (n : Int), vU], [vI ((K : Int)), vR o], aq_h (o + 3 + K) s_2 F_2 c_2) _
  refine aq_stp (o := o) (n := K) (a := o + 3 + K) (m2 := o + 4 + K) rfl rfl y_2 (by omega) (by decide) (by omega) (by omega) rfl (by decide) (by omega) (by omega) ?_
  intro s_3 F_3 c_3 es_3 y_3 a_3 o_3 z_3 u_3
  show am_E _ (72, [vR o, vI (n : Int), vU], [], aq_h (o + 4 + K) s_3 F_3 c_3) _
  have ga1_3 : F_3 (o + 1) = (3, K, fun j => aq_g K j (o + 1 + 1 + j)) := by rw [o_3 _ (by omega) (by omega)]; exact ga1_2
  have gr1_3 : ∀ b, b < K → F_3 (o + 1 + 1 + b) = (0, 2 * n, fun _ => .inl 0) := fun b hb => by rw [o_3 _ (by omega) (by omega)]; exact gr1_2 b hb
  have ga2_3 : F_3 (o + 2 + K) = (0, K, fun _ => .inl 0) := by rw [o_3 _ (by omega) (by omega)]; exact ga2_2
  have ga3_3 : F_3 (o + 3 + K) = (0, K, fun _ => .inl 0) := a_3
  have f_3 : ∀ b, b < o → F_3 b = F b := fun b hb => (o_3 b (by omega) (by omega)).trans (f_2 b hb)
  have v_3 : ∀ b, b < o → ∀ j, c_3 b j = c b j := fun b hb j => (u_3 b (by omega) j).trans (v_2 b hb j)
  have zz_3 : ∀ b, o < b → b < o + 4 + K → ∀ j, c_3 b j = 0 := fun b hb1 hb2 j => by
    by_cases e : b < o + 3 + K
    · rw [u_3 b (by omega) j]; exact zz_2 b hb1 e j
    · obtain rfl : b = o + 3 + K := by omega
      exact z_3 j
  refine am_E.go (t2 := (73, [vR o, vI (n : Int), vU], [vR o], aq_h (o + 4 + K) s_3 F_3 c_3)) rfl rfl ?_
  refine am_E.go (t2 := (74, [vR o, vI (n : Int), vU], [vR o, vR o], aq_h (o + 4 + K) s_3 F_3 c_3)) rfl rfl ?_
  refine aq_gf (v := vI ((K : Int))) rfl (by omega) y_3 (by decide) rfl ?_
  show am_E _ (77, [vR o, vI (n : Int), vU], [vI (K : Int), vR o], aq_h (o + 4 + K) s_3 F_3 c_3) _
  refine am_E.go (t2 := (79, [vR o, vI (n : Int), vU], [vI 6, vI (K : Int), vR o], aq_h (o + 4 + K) s_3 F_3 c_3)) rfl rfl ?_
  refine aq_gst (o := o) (n := K) (w := 6) (a := o + 4 + K) (m2 := o + 5 + 2 * K) rfl rfl y_3 (by omega) rfl (by omega) (by omega) (by omega) rfl (by decide) (by omega) (by omega) ?_
  intro s_4 F_4 c_4 es_4 y_4 a_4 r_4 o_4 z_4 u_4
  show am_E _ (86, [vR o, vI (n : Int), vU], [], aq_h (o + 5 + 2 * K) s_4 F_4 c_4) _
  have ga1_4 : F_4 (o + 1) = (3, K, fun j => aq_g K j (o + 1 + 1 + j)) := by rw [o_4 _ (by omega) (by omega)]; exact ga1_3
  have gr1_4 : ∀ b, b < K → F_4 (o + 1 + 1 + b) = (0, 2 * n, fun _ => .inl 0) := fun b hb => by rw [o_4 _ (by omega) (by omega)]; exact gr1_3 b hb
  have ga2_4 : F_4 (o + 2 + K) = (0, K, fun _ => .inl 0) := by rw [o_4 _ (by omega) (by omega)]; exact ga2_3
  have ga3_4 : F_4 (o + 3 + K) = (0, K, fun _ => .inl 0) := by rw [o_4 _ (by omega) (by omega)]; exact ga3_3
  have ga4_4 : F_4 (o + 4 + K) = (3, K, fun j => aq_g K j (o + 4 + K + 1 + j)) := a_4
  have gr4_4 : ∀ b, b < K → F_4 (o + 4 + K + 1 + b) = (0, 6, fun _ => .inl 0) := r_4
  have f_4 : ∀ b, b < o → F_4 b = F b := fun b hb => (o_4 b (by omega) (by omega)).trans (f_3 b hb)
  have v_4 : ∀ b, b < o → ∀ j, c_4 b j = c b j := fun b hb j => (u_4 b (by omega) j).trans (v_3 b hb j)
  have zz_4 : ∀ b, o < b → b < o + 5 + 2 * K → ∀ j, c_4 b j = 0 := fun b hb1 hb2 j => by
    by_cases e : b < o + 4 + K
    · rw [u_4 b (by omega) j]; exact zz_3 b hb1 e j
    · exact z_4 b (by omega) (by omega) j
  refine am_E.go (t2 := (87, [vR o, vI (n : Int), vU], [vR o], aq_h (o + 5 + 2 * K) s_4 F_4 c_4)) rfl rfl ?_
  refine am_E.go (t2 := (88, [vR o, vI (n : Int), vU], [vR o, vR o], aq_h (o + 5 + 2 * K) s_4 F_4 c_4)) rfl rfl ?_
  refine aq_gf (v := vI ((K : Int))) rfl (by omega) y_4 (by decide) rfl ?_
  show am_E _ (91, [vR o, vI (n : Int), vU], [vI (K : Int), vR o], aq_h (o + 5 + 2 * K) s_4 F_4 c_4) _
  refine am_E.go (t2 := (92, [vR o, vI (n : Int), vU], [vR o, vI (K : Int), vR o], aq_h (o + 5 + 2 * K) s_4 F_4 c_4)) rfl rfl ?_
  refine aq_gf (v := vI (2 * (n : Int) - 2)) rfl (by omega) y_4 (by decide) rfl ?_
  show am_E _ (95, [vR o, vI (n : Int), vU], [vI (2 * (n : Int) - 2), vI (K : Int), vR o], aq_h (o + 5 + 2 * K) s_4 F_4 c_4) _
  refine aq_gst (o := o) (n := K) (w := 2 * n - 2) (a := o + 5 + 2 * K) (m2 := o + 6 + 3 * K) rfl rfl y_4 (by omega) rfl (by omega) (by omega) (by omega) rfl (by decide) (by omega) (by omega) ?_
  intro s_5 F_5 c_5 es_5 y_5 a_5 r_5 o_5 z_5 u_5
  show am_E _ (102, [vR o, vI (n : Int), vU], [], aq_h (o + 6 + 3 * K) s_5 F_5 c_5) _
  have ga1_5 : F_5 (o + 1) = (3, K, fun j => aq_g K j (o + 1 + 1 + j)) := by rw [o_5 _ (by omega) (by omega)]; exact ga1_4
  have gr1_5 : ∀ b, b < K → F_5 (o + 1 + 1 + b) = (0, 2 * n, fun _ => .inl 0) := fun b hb => by rw [o_5 _ (by omega) (by omega)]; exact gr1_4 b hb
  have ga2_5 : F_5 (o + 2 + K) = (0, K, fun _ => .inl 0) := by rw [o_5 _ (by omega) (by omega)]; exact ga2_4
  have ga3_5 : F_5 (o + 3 + K) = (0, K, fun _ => .inl 0) := by rw [o_5 _ (by omega) (by omega)]; exact ga3_4
  have ga4_5 : F_5 (o + 4 + K) = (3, K, fun j => aq_g K j (o + 4 + K + 1 + j)) := by rw [o_5 _ (by omega) (by omega)]; exact ga4_4
  have gr4_5 : ∀ b, b < K → F_5 (o + 4 + K + 1 + b) = (0, 6, fun _ => .inl 0) := fun b hb => by rw [o_5 _ (by omega) (by omega)]; exact gr4_4 b hb
  have ga5_5 : F_5 (o + 5 + 2 * K) = (3, K, fun j => aq_g K j (o + 5 + 2 * K + 1 + j)) := a_5
  have gr5_5 : ∀ b, b < K → F_5 (o + 5 + 2 * K + 1 + b) = (0, 2 * n - 2, fun _ => .inl 0) := r_5
  have f_5 : ∀ b, b < o → F_5 b = F b := fun b hb => (o_5 b (by omega) (by omega)).trans (f_4 b hb)
  have v_5 : ∀ b, b < o → ∀ j, c_5 b j = c b j := fun b hb j => (u_5 b (by omega) j).trans (v_4 b hb j)
  have zz_5 : ∀ b, o < b → b < o + 6 + 3 * K → ∀ j, c_5 b j = 0 := fun b hb1 hb2 j => by
    by_cases e : b < o + 5 + 2 * K
    · rw [u_5 b (by omega) j]; exact zz_4 b hb1 e j
    · exact z_5 b (by omega) (by omega) j
  refine am_E.go (t2 := (103, [vR o, vI (n : Int), vU], [vR o], aq_h (o + 6 + 3 * K) s_5 F_5 c_5)) rfl rfl ?_
  refine am_E.go (t2 := (104, [vR o, vI (n : Int), vU], [vR o, vR o], aq_h (o + 6 + 3 * K) s_5 F_5 c_5)) rfl rfl ?_
  refine aq_gf (v := vI (2 * (n : Int))) rfl (by omega) y_5 (by decide) rfl ?_
  show am_E _ (107, [vR o, vI (n : Int), vU], [vI (2 * (n : Int)), vR o], aq_h (o + 6 + 3 * K) s_5 F_5 c_5) _
  refine aq_stp (o := o) (n := 2 * n) (a := o + 6 + 3 * K) (m2 := o + 7 + 3 * K) rfl rfl y_5 (by omega) (by decide) (by omega) (by omega) rfl (by decide) (by omega) (by omega) ?_
  intro s_6 F_6 c_6 es_6 y_6 a_6 o_6 z_6 u_6
  show am_E _ (112, [vR o, vI (n : Int), vU], [], aq_h (o + 7 + 3 * K) s_6 F_6 c_6) _
  have ga1_6 : F_6 (o + 1) = (3, K, fun j => aq_g K j (o + 1 + 1 + j)) := by rw [o_6 _ (by omega) (by omega)]; exact ga1_5
  have gr1_6 : ∀ b, b < K → F_6 (o + 1 + 1 + b) = (0, 2 * n, fun _ => .inl 0) := fun b hb => by rw [o_6 _ (by omega) (by omega)]; exact gr1_5 b hb
  have ga2_6 : F_6 (o + 2 + K) = (0, K, fun _ => .inl 0) := by rw [o_6 _ (by omega) (by omega)]; exact ga2_5
  have ga3_6 : F_6 (o + 3 + K) = (0, K, fun _ => .inl 0) := by rw [o_6 _ (by omega) (by omega)]; exact ga3_5
  have ga4_6 : F_6 (o + 4 + K) = (3, K, fun j => aq_g K j (o + 4 + K + 1 + j)) := by rw [o_6 _ (by omega) (by omega)]; exact ga4_5
  have gr4_6 : ∀ b, b < K → F_6 (o + 4 + K + 1 + b) = (0, 6, fun _ => .inl 0) := fun b hb => by rw [o_6 _ (by omega) (by omega)]; exact gr4_5 b hb
  have ga5_6 : F_6 (o + 5 + 2 * K) = (3, K, fun j => aq_g K j (o + 5 + 2 * K + 1 + j)) := by rw [o_6 _ (by omega) (by omega)]; exact ga5_5
  have gr5_6 : ∀ b, b < K → F_6 (o + 5 + 2 * K + 1 + b) = (0, 2 * n - 2, fun _ => .inl 0) := fun b hb => by rw [o_6 _ (by omega) (by omega)]; exact gr5_5 b hb
  have ga6_6 : F_6 (o + 6 + 3 * K) = (0, 2 * n, fun _ => .inl 0) := a_6
  have f_6 : ∀ b, b < o → F_6 b = F b := fun b hb => (o_6 b (by omega) (by omega)).trans (f_5 b hb)
  have v_6 : ∀ b, b < o → ∀ j, c_6 b j = c b j := fun b hb j => (u_6 b (by omega) j).trans (v_5 b hb j)
  have zz_6 : ∀ b, o < b → b < o + 7 + 3 * K → ∀ j, c_6 b j = 0 := fun b hb1 hb2 j => by
    by_cases e : b < o + 6 + 3 * K
    · rw [u_6 b (by omega) j]; exact zz_5 b hb1 e j
    · obtain rfl : b = o + 6 + 3 * K := by omega
      exact z_6 j
  refine am_E.go (t2 := (113, [vR o, vI (n : Int), vU], [vR o], aq_h (o + 7 + 3 * K) s_6 F_6 c_6)) rfl rfl ?_
  refine am_E.go (t2 := (114, [vR o, vI (n : Int), vU], [vR o, vR o], aq_h (o + 7 + 3 * K) s_6 F_6 c_6)) rfl rfl ?_
  refine aq_gf (v := vI (2 * (n : Int))) rfl (by omega) y_6 (by decide) rfl ?_
  show am_E _ (117, [vR o, vI (n : Int), vU], [vI (2 * (n : Int)), vR o], aq_h (o + 7 + 3 * K) s_6 F_6 c_6) _
  refine aq_stp (o := o) (n := 2 * n) (a := o + 7 + 3 * K) (m2 := o + 8 + 3 * K) rfl rfl y_6 (by omega) (by decide) (by omega) (by omega) rfl (by decide) (by omega) (by omega) ?_
  intro s_7 F_7 c_7 es_7 y_7 a_7 o_7 z_7 u_7
  show am_E _ (122, [vR o, vI (n : Int), vU], [], aq_h (o + 8 + 3 * K) s_7 F_7 c_7) _
  have ga1_7 : F_7 (o + 1) = (3, K, fun j => aq_g K j (o + 1 + 1 + j)) := by rw [o_7 _ (by omega) (by omega)]; exact ga1_6
  have gr1_7 : ∀ b, b < K → F_7 (o + 1 + 1 + b) = (0, 2 * n, fun _ => .inl 0) := fun b hb => by rw [o_7 _ (by omega) (by omega)]; exact gr1_6 b hb
  have ga2_7 : F_7 (o + 2 + K) = (0, K, fun _ => .inl 0) := by rw [o_7 _ (by omega) (by omega)]; exact ga2_6
  have ga3_7 : F_7 (o + 3 + K) = (0, K, fun _ => .inl 0) := by rw [o_7 _ (by omega) (by omega)]; exact ga3_6
  have ga4_7 : F_7 (o + 4 + K) = (3, K, fun j => aq_g K j (o + 4 + K + 1 + j)) := by rw [o_7 _ (by omega) (by omega)]; exact ga4_6
  have gr4_7 : ∀ b, b < K → F_7 (o + 4 + K + 1 + b) = (0, 6, fun _ => .inl 0) := fun b hb => by rw [o_7 _ (by omega) (by omega)]; exact gr4_6 b hb
  have ga5_7 : F_7 (o + 5 + 2 * K) = (3, K, fun j => aq_g K j (o + 5 + 2 * K + 1 + j)) := by rw [o_7 _ (by omega) (by omega)]; exact ga5_6
  have gr5_7 : ∀ b, b < K → F_7 (o + 5 + 2 * K + 1 + b) = (0, 2 * n - 2, fun _ => .inl 0) := fun b hb => by rw [o_7 _ (by omega) (by omega)]; exact gr5_6 b hb
  have ga6_7 : F_7 (o + 6 + 3 * K) = (0, 2 * n, fun _ => .inl 0) := by rw [o_7 _ (by omega) (by omega)]; exact ga6_6
  have ga7_7 : F_7 (o + 7 + 3 * K) = (1, 2 * n, fun _ => .inl 0) := a_7
  have f_7 : ∀ b, b < o → F_7 b = F b := fun b hb => (o_7 b (by omega) (by omega)).trans (f_6 b hb)
  have v_7 : ∀ b, b < o → ∀ j, c_7 b j = c b j := fun b hb j => (u_7 b (by omega) j).trans (v_6 b hb j)
  have zz_7 : ∀ b, o < b → b < o + 8 + 3 * K → ∀ j, c_7 b j = 0 := fun b hb1 hb2 j => by
    by_cases e : b < o + 7 + 3 * K
    · rw [u_7 b (by omega) j]; exact zz_6 b hb1 e j
    · obtain rfl : b = o + 7 + 3 * K := by omega
      exact z_7 j
  have et : am_up (am_up (am_up (am_up (am_up (am_up (am_up (bx_t1 n K) 4 (.inr (vR (o + 1)))) 5 (.inr (vR (o + 2 + K)))) 6 (.inr (vR (o + 3 + K)))) 7 (.inr (vR (o + 4 + K)))) 8 (.inr (vR (o + 5 + 2 * K)))) 9 (.inr (vR (o + 6 + 3 * K)))) 10 (.inr (vR (o + 7 + 3 * K))) = bx_t o n K := by
    funext k
    match k with
    | 0 => rfl
    | 1 => rfl
    | 2 => rfl
    | 3 => rfl
    | 4 => rfl
    | 5 => rfl
    | 6 => rfl
    | 7 => rfl
    | 8 => rfl
    | 9 => rfl
    | 10 => rfl
    | k + 11 =>
      repeat rw [am_up_n (by omega)]
      rfl
  rw [et] at y_7
  have b1 : K * (2 * n) ≤ 105 * 8 := Nat.mul_le_mul hKb.2 (by omega)
  have b2 : K * (2 * n - 2) ≤ 105 * 6 := Nat.mul_le_mul hKb.2 (by omega)
  refine k s_7 F_7 c_7 (by omega) ⟨y_7, ga6_7, ga7_7, ga1_7, fun b hb => ?_, ga2_7, ga3_7, ?_, fun b hb => ?_, ?_, fun b hb => ?_⟩ f_7 v_7 zz_7
  · rw [show o + 2 + b = o + 1 + 1 + b by omega]; exact gr1_7 b hb
  · rw [ga4_7]; exact congrArg (fun f => (3, K, f)) (funext fun j => by rw [show o + 4 + K + 1 + j = o + 5 + K + j by omega])
  · rw [show o + 5 + K + b = o + 4 + K + 1 + b by omega]; exact gr4_7 b hb
  · rw [ga5_7]; exact congrArg (fun f => (3, K, f)) (funext fun j => by rw [show o + 5 + 2 * K + 1 + j = o + 6 + 2 * K + j by omega])
  · rw [show o + 6 + 2 * K + b = o + 5 + 2 * K + 1 + b by omega]; exact gr5_7 b hb
