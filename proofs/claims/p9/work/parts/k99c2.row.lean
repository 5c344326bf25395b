/-! The row of crossings, on both sides: which methods leave it as it is, and what the others do. Printed by wip/p20/law/genF.py. -/
def lq_bd (x y : Nat) : Bool := (x == 1 && (y == 0 || y == 1)) || (x == 5 && (y == 9 || y == 10))
def lq_G (j : Nat) : Bool := !([29, 30, 32, 33, 66, 85, 86, 87, 95, 144, 145, 146]).contains j
set_option maxRecDepth 1000000 in
theorem lq_Gk : (List.range 153).all (fun j => !(lq_G j) || (match ac_L[j]? with
  | some M => fr_C lq_bd lq_G M.1
  | none => true)) = true := by decide +kernel
theorem lq_Gok : ∀ j, lq_G j = true → ∀ M, ac_P.2[j]? = some M → fr_C lq_bd lq_G M.1 = true := by
  intro j hj M hM
  have hM : ac_L[j]? = some M := hM
  have hlt : j < 153 := (List.getElem?_eq_some_iff.mp hM).1
  have h := List.all_eq_true.mp lq_Gk j (List.mem_range.mpr hlt)
  rw [hj, hM] at h
  exact h
/-- the row's strands and its size stay -/
def lq_e (c d : aq_C) : Prop := d 8 0 = c 8 0 ∧ d 8 1 = c 8 1 ∧ d 527 9 = c 527 9 ∧ d 527 10 = c 527 10
/-- both sides have the same row's strands and size -/
def lq_J (c : aq_C) : Prop := c 8 0 = c 527 9 ∧ c 8 1 = c 527 10
theorem lq_J.e {c d : aq_C} (h : lq_J c) (e : lq_e c d) : lq_J d := by
  obtain ⟨e1, e2, e3, e4⟩ := e
  exact ⟨by rw [e1, e3]; exact h.1, by rw [e2, e4]; exact h.2⟩
theorem lq_fe {z : Nat} {F : aq_F} {c d : aq_C} (hC : sb_C 551 F) (hM : mo_C 551 F 527) (h : fr_k lq_bd (aq_h 551 z F c) (aq_h 551 z F d)) : lq_e c d := by
  have h8 : F 8 = (11, 5, cr_t 8) := hC.2.2.2.2.2.2.1.2.1
  have h5 : F 527 = (15, 27, mo_t 527) := hM.1.2.1
  have k8 : ((aq_h 551 z F c).2.2 8).1 = 11 := by rw [aq_hc h8]
  have k5 : ((aq_h 551 z F c).2.2 527).1 = 15 := by rw [aq_hc h5]
  have a8 := (h.2 8 (show 8 < 551 by omega) (by rw [k8]; decide)).2
  have a5 := (h.2 527 (show 527 < 551 by omega) (by rw [k5]; decide)).2
  rw [k8, aq_hc h8, aq_hc h8] at a8
  rw [k5, aq_hc h5, aq_hc h5] at a5
  have b0 := a8 0 rfl
  have b1 := a8 1 rfl
  have b9 := a5 9 rfl
  have b10 := a5 10 rfl
  exact ⟨Sum.inl.inj (Sum.inl.inj b0), Sum.inl.inj (Sum.inl.inj b1), Sum.inl.inj (Sum.inl.inj b9), Sum.inl.inj (Sum.inl.inj b10)⟩
/-- answers, strands and sizes: of row, cross, back -/
def ro_a (l : Int) : Int := if 2 ≤ l ∧ l ≤ 4 then 0 else -1
def ro_s (l s : Int) : Int := if 2 ≤ l ∧ l ≤ 4 then l else s
def ro_z (l z : Int) : Int := if 2 ≤ l ∧ l ≤ 4 then 0 else z
def co_a (l s z : Int) : Int := if l ≠ 0 ∧ -s < l ∧ l < s then (if 8 ≤ z then -3 else z + 1) else -1
def co_z (l s z : Int) : Int := if (l ≠ 0 ∧ -s < l ∧ l < s) ∧ z < 8 then z + 1 else z
def bo_a (z : Int) : Int := if z ≤ 0 then -2 else z - 1
def bo_z (z : Int) : Int := if z ≤ 0 then z else z - 1
theorem lx_row {m s : Nat} {F : aq_F} {c : aq_C} (hC : sb_C m F) (hI : cl_I c) {l : Int} : am_E ac_X4_row (0, [vR 0, vI l], [], aq_h m s F c) (aq_Z m s F (fun a => a < 527) c (fun r d => (r = some (vI (ro_a l)) ∧ d 8 0 = ro_s l (c 8 0) ∧ d 8 1 = ro_z l (c 8 1)) ∧ cl_I d)) := by
  refine (qn_X4_row hC hI).imp ?_
  rintro r h2 ⟨d, e1, e2, e3, e4⟩
  refine ⟨d, e1, e2, ?_, e3⟩
  unfold ro_a ro_s ro_z
  rcases e4 with ⟨q1, q2, q3, q4, q5⟩ | ⟨q1, q2, q3⟩
  · rw [if_pos ⟨q1, q2⟩, if_pos ⟨q1, q2⟩, if_pos ⟨q1, q2⟩]
    exact ⟨q3, q4, q5⟩
  · rw [if_neg q1, if_neg q1, if_neg q1, q3]
    exact ⟨q2, rfl, rfl⟩
theorem lm_row {m s : Nat} {F : aq_F} {c : aq_C} {y : Nat} (hC : mo_C m F y) (hI : mo_I y c) {l : Int} : am_E ac_X5_row (0, [vR y, vI l], [], aq_h m s F c) (aq_Z m s F (fun a => y ≤ a ∧ a < y + 24) c (fun r d => (r = some (vI (ro_a l)) ∧ d y 9 = ro_s l (c y 9) ∧ d y 10 = ro_z l (c y 10)) ∧ mo_I y d)) := by
  refine (qm_X5_row hC hI).imp ?_
  rintro r h2 ⟨d, e1, e2, e3, e4⟩
  refine ⟨d, e1, e2, ?_, e3⟩
  unfold ro_a ro_s ro_z
  rcases e4 with ⟨q1, q2, q3, q4, q5⟩ | ⟨q1, q2, q3⟩
  · rw [if_pos ⟨q1, q2⟩, if_pos ⟨q1, q2⟩, if_pos ⟨q1, q2⟩]
    exact ⟨q3, q4, q5⟩
  · rw [if_neg q1, if_neg q1, if_neg q1, q3]
    exact ⟨q2, rfl, rfl⟩
theorem lx_cross {m s : Nat} {F : aq_F} {c : aq_C} (hC : sb_C m F) (hI : cl_I c) {l : Int} : am_E ac_X4_cross (0, [vR 0, vI l], [], aq_h m s F c) (aq_Z m s F (fun a => a < 527) c (fun r d => (r = some (vI (co_a l (c 8 0) (c 8 1))) ∧ d 8 0 = c 8 0 ∧ d 8 1 = co_z l (c 8 0) (c 8 1)) ∧ cl_I d)) := by
  refine (qn_X4_cross hC hI).imp ?_
  rintro r h2 ⟨d, e1, e2, e3, e4⟩
  refine ⟨d, e1, e2, ?_, e3⟩
  unfold co_a co_z
  rcases e4 with ⟨q1, q2, q3⟩ | ⟨q1, q2, q3, q4⟩ | ⟨q1, q2, q3, q4, q5⟩
  · rw [if_neg q1, if_neg (fun q => q1 q.1), q3]
    exact ⟨q2, rfl, rfl⟩
  · rw [if_pos q1, if_pos q2, if_neg (by omega), q4]
    exact ⟨q3, rfl, rfl⟩
  · rw [if_pos q1, if_neg (by omega), if_pos ⟨q1, q2⟩]
    exact ⟨q3, q4, q5⟩
theorem lm_cross {m s : Nat} {F : aq_F} {c : aq_C} {y : Nat} (hC : mo_C m F y) (hI : mo_I y c) {l : Int} (hr : am_r32 l) : am_E ac_X5_cross (0, [vR y, vI l, vU], [], aq_h m s F c) (aq_Z m s F (fun a => y ≤ a ∧ a < y + 24) c (fun r d => (r = some (vI (co_a l (c y 9) (c y 10))) ∧ d y 9 = c y 9 ∧ d y 10 = co_z l (c y 9) (c y 10)) ∧ mo_I y d)) := by
  refine (qm_X5_cross hC hI (by have := hr.1; omega) (by have := hr.2; omega)).imp ?_
  rintro r h2 ⟨d, e1, e2, e3, e4⟩
  refine ⟨d, e1, e2, ?_, e3⟩
  unfold co_a co_z
  rcases e4 with ⟨q1, q2, q3⟩ | ⟨q1, q2, q3, q4⟩ | ⟨q1, q2, q3, q4, q5⟩
  · rw [if_neg q1, if_neg (fun q => q1 q.1), q3]
    exact ⟨q2, rfl, rfl⟩
  · rw [if_pos q1, if_pos q2, if_neg (by omega), q4]
    exact ⟨q3, rfl, rfl⟩
  · rw [if_pos q1, if_neg (by omega), if_pos ⟨q1, q2⟩]
    exact ⟨q3, q4, q5⟩
theorem lx_back {m s : Nat} {F : aq_F} {c : aq_C} (hC : sb_C m F) (hI : cl_I c) : am_E ac_X4_back (0, [vR 0], [], aq_h m s F c) (aq_Z m s F (fun a => a < 527) c (fun r d => (r = some (vI (bo_a (c 8 1))) ∧ d 8 0 = c 8 0 ∧ d 8 1 = bo_z (c 8 1)) ∧ cl_I d)) := by
  refine (qn_X4_back hC hI).imp ?_
  rintro r h2 ⟨d, e1, e2, e3, e4⟩
  refine ⟨d, e1, e2, ?_, e3⟩
  unfold bo_a bo_z
  rcases e4 with ⟨q1, q2, q3⟩ | ⟨q1, q2, q3, q4⟩
  · rw [if_pos q1, if_pos q1, q3]
    exact ⟨q2, rfl, rfl⟩
  · rw [if_neg (by omega), if_neg (by omega)]
    exact ⟨q2, q3, q4⟩
theorem lm_back {m s : Nat} {F : aq_F} {c : aq_C} {y : Nat} (hC : mo_C m F y) (hI : mo_I y c) : am_E ac_X5_back (0, [vR y], [], aq_h m s F c) (aq_Z m s F (fun a => y ≤ a ∧ a < y + 24) c (fun r d => (r = some (vI (bo_a (c y 10))) ∧ d y 9 = c y 9 ∧ d y 10 = bo_z (c y 10)) ∧ mo_I y d)) := by
  refine (qm_X5_back hC hI).imp ?_
  rintro r h2 ⟨d, e1, e2, e3, e4⟩
  refine ⟨d, e1, e2, ?_, e3⟩
  unfold bo_a bo_z
  rcases e4 with ⟨q1, q2, q3⟩ | ⟨q1, q2, q3, q4⟩
  · rw [if_pos q1, if_pos q1, q3]
    exact ⟨q2, rfl, rfl⟩
  · rw [if_neg (by omega), if_neg (by omega)]
    exact ⟨q2, q3, q4⟩
