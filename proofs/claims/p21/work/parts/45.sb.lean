/-! The class's cells: where its objects lie, and what holds of their contents between public calls. -/
def sb_o (j : Nat) : Nat := if j = 0 then 11 else if j = 1 then 42 else if j = 2 then 79 else 152
def sb_K (j : Nat) : Nat := if j = 0 then 1 else if j = 1 then 3 else if j = 2 then 15 else 105
def sb_h (j : Nat) : Nat := if j = 0 then 24 else if j = 1 then 61 else if j = 2 then 134 else 477
def sb_t : Nat → aq_T := fun y => match y with
  | 0 => .inr (vR 1)
  | 1 => .inr (vR 2)
  | 2 => .inr (vR 3)
  | 3 => .inr (vR 4)
  | 4 => .inr (vR 8)
  | _ => .inl 0
def sb_B (m : Nat) (F : aq_F) (o n K : Nat) : Prop := ∃ (tP tG tN : Int → Int → Int) (tR tL : Int → Int), bx_0 m F o n K ∧ bx_p F o n K tP ∧ bx_w F o n K tL tG tN ∧ bx_r F o K tR ∧ 0 ≤ nu_o (bx_ol n 0) (2 * (n : Int)) 9 0 0 (2 * (n : Int) - 1) ∧ nu_o (bx_ol n 0) (2 * (n : Int)) 9 0 0 (2 * (n : Int) - 1) < (K : Int)
def sb_H (m : Nat) (F : aq_F) (o n : Nat) : Prop := ∃ (z : Nat) (tl : Int → Int) (th : Int → Int → Int), hv_0 m F o n z tl th
def sb_C (m : Nat) (F : aq_F) : Prop := 527 ≤ m ∧ F 0 = (14, 5, sb_t) ∧ F 1 = (4, 4, fun j => aq_g 4 j (sb_o j)) ∧ F 2 = (5, 4, fun j => aq_g 4 j (sb_h j)) ∧ F 3 = (6, 8, fun j => aq_g 8 j (495 + 4 * j)) ∧ su_0 m F 4 ∧ cr_0 m F 8 ∧ (∀ j, j < 8 → su_0 m F (495 + 4 * j)) ∧ (∀ j, j < 4 → sb_B m F (sb_o j) (j + 1) (sb_K j)) ∧ ∀ j, j < 4 → sb_H m F (sb_h j) (j + 1)
/-- a sum between public calls -/
def sb_u (a : Nat) (c : aq_C) : Prop := 1 ≤ c a 0 ∧ c a 0 ≤ 4 ∧ su_k a (bx_K (c a 0)) c
def cl_I (c : aq_C) : Prop := (∀ j, j < 4 → aq_rg (sb_o j + 6 + 3 * sb_K j) (2 * ((j + 1 : Nat) : Int)) 0 (2 * ((j + 1 : Nat) : Int)) c) ∧ cr_l 8 c ∧ ∀ j, j < 8 → sb_u (495 + 4 * j) c
theorem sb_box {m : Nat} {F : aq_F} (hC : sb_C m F) {i : Int} (h0 : 0 ≤ i) (h4 : i < 4) : ∃ o n K : Nat, sb_o i.toNat = o ∧ (n : Int) = i + 1 ∧ (K : Int) = bx_K (i + 1) ∧ n = i.toNat + 1 ∧ sb_K i.toNat = K ∧ sb_B m F o n K := by
  refine ⟨_, i.toNat + 1, _, rfl, by omega, ?_, rfl, rfl, hC.2.2.2.2.2.2.2.2.1 i.toNat (by omega)⟩
  have h : i = 0 ∨ i = 1 ∨ i = 2 ∨ i = 3 := by omega
  rcases h with h | h | h | h <;> subst h <;> decide
theorem sb_half {m : Nat} {F : aq_F} (hC : sb_C m F) {i : Int} (h0 : 0 ≤ i) (h4 : i < 4) : ∃ o n : Nat, sb_h i.toNat = o ∧ (n : Int) = i + 1 ∧ sb_H m F o n :=
  ⟨_, i.toNat + 1, rfl, by omega, hC.2.2.2.2.2.2.2.2.2 i.toNat (by omega)⟩
theorem sb_dis : ∀ i, i < 4 → ∀ j, j < 4 → i ≠ j → sb_o i + 6 + 3 * sb_K i ≠ sb_o j + 6 + 3 * sb_K j ∧ sb_o i + 6 + 3 * sb_K i ≠ sb_o j + 7 + 3 * sb_K j := by decide
theorem sb_bnd : ∀ j, j < 4 → 20 ≤ sb_o j + 6 + 3 * sb_K j ∧ sb_o j + 7 + 3 * sb_K j < 495 := by decide
theorem sb_hnd : ∀ i, i < 4 → ∀ j, j < 4 → 20 ≤ sb_h j ∧ sb_h j + 18 ≤ 495 ∧ (sb_o i + 7 + 3 * sb_K i < sb_h j ∨ sb_h j + 18 ≤ sb_o i) := by decide
theorem cr_lc {x : Nat} {c d : aq_C} (h0 : ∀ i, d x i = c x i) (h1 : ∀ i, d (x + 1) i = c (x + 1) i) (h : cr_l x c) : cr_l x d := by
  unfold cr_l at *
  simp only [h0, h1]
  exact h
theorem su_kc {a : Nat} {k : Int} {c d : aq_C} (h0 : ∀ i, d a i = c a i) (h1 : ∀ i, d (a + 1) i = c (a + 1) i) (h3 : ∀ i, d (a + 3) i = c (a + 3) i) (h : su_k a k c) : su_k a k d := by
  unfold su_k at *
  simp only [h0, h1, h3]
  exact h
theorem sb_uc {a : Nat} {c d : aq_C} (h0 : ∀ i, d a i = c a i) (h1 : ∀ i, d (a + 1) i = c (a + 1) i) (h3 : ∀ i, d (a + 3) i = c (a + 3) i) (h : sb_u a c) : sb_u a d := by
  refine ⟨by rw [h0]; exact h.1, by rw [h0]; exact h.2.1, ?_⟩
  rw [h0]
  exact su_kc h0 h1 h3 h.2.2
/-- contents that differ on cells that hold nothing of the invariant -/
theorem cl_s {S : Nat → Prop} {c d : aq_C} (hI : cl_I c) (hs : aq_sm S c d) (h1 : ∀ j, j < 4 → ¬ S (sb_o j + 6 + 3 * sb_K j)) (h2 : ¬ S 8 ∧ ¬ S 9) (h3 : ∀ a, 495 ≤ a → ¬ S a) : cl_I d :=
  ⟨fun j hj => aq_rgs (hI.1 j hj) hs (h1 j hj), cr_lc (hs 8 h2.1) (hs 9 h2.2) hI.2.1, fun j hj => sb_uc (hs _ (h3 _ (by omega))) (hs _ (h3 _ (by omega))) (hs _ (h3 _ (by omega))) (hI.2.2 j hj)⟩
/-- draft and seen of one of the Boxes -/
theorem cl_b {c d : aq_C} {j : Nat} (hI : cl_I c) (hj : j < 4) (hs : aq_sm (fun a => a = sb_o j + 6 + 3 * sb_K j ∨ a = sb_o j + 7 + 3 * sb_K j) c d) (hr : aq_rg (sb_o j + 6 + 3 * sb_K j) (2 * ((j + 1 : Nat) : Int)) 0 (2 * ((j + 1 : Nat) : Int)) d) : cl_I d := by
  have hb := sb_bnd j hj
  refine ⟨fun i hi => ?_, cr_lc (hs 8 (by omega)) (hs 9 (by omega)) hI.2.1, fun i hi => sb_uc (hs _ (by omega)) (hs _ (by omega)) (hs _ (by omega)) (hI.2.2 i hi)⟩
  by_cases e : i = j
  · subst e
    exact hr
  · have h5 := sb_dis i hi j hj e
    exact aq_rgs (hI.1 i hi) hs (by omega)
/-- seen and table of one of the Halves -/
theorem cl_h {c d : aq_C} {j : Nat} (hI : cl_I c) (hj : j < 4) (hs : aq_sm (fun a => sb_h j ≤ a ∧ a < sb_h j + 18) c d) : cl_I d := by
  refine cl_s hI hs (fun i hi => ?_) ?_ (fun a ha => ?_)
  · have := sb_hnd i hi j hj
    omega
  · have := sb_hnd 0 (by omega) j hj
    omega
  · have := sb_hnd 0 (by omega) j hj
    omega
/-- the row of crossings -/
theorem cl_x {c d : aq_C} (hI : cl_I c) (hs : aq_sm (fun a => a = 8 ∨ a = 8 + 1) c d) (hl : cr_l 8 d) : cl_I d := by
  refine ⟨fun i hi => ?_, hl, fun i hi => sb_uc (hs _ (by omega)) (hs _ (by omega)) (hs _ (by omega)) (hI.2.2 i hi)⟩
  have hb := sb_bnd i hi
  exact aq_rgs (hI.1 i hi) hs (by omega)
/-- one of the sums -/
theorem cl_u {c d : aq_C} {j : Nat} (hI : cl_I c) (hj : j < 8) (hs : aq_sm (fun b => b = 495 + 4 * j ∨ b = 495 + 4 * j + 1 ∨ b = 495 + 4 * j + 2 ∨ b = 495 + 4 * j + 3) c d) (hu : sb_u (495 + 4 * j) d) : cl_I d := by
  refine ⟨fun i hi => ?_, cr_lc (hs 8 (by omega)) (hs 9 (by omega)) hI.2.1, fun i hi => ?_⟩
  · have hb := sb_bnd i hi
    exact aq_rgs (hI.1 i hi) hs (by omega)
  · by_cases e : i = j
    · subst e
      exact hu
    · exact sb_uc (hs _ (by omega)) (hs _ (by omega)) (hs _ (by omega)) (hI.2.2 i hi)
/-- the sum that is made -/
theorem cl_m {c d : aq_C} (hI : cl_I c) (hs : aq_sm (fun b => b = 4 ∨ b = 4 + 1 ∨ b = 4 + 2 ∨ b = 4 + 3) c d) : cl_I d := by
  refine cl_s hI hs (fun i hi => ?_) (by omega) (fun a ha => by omega)
  have hb := sb_bnd i hi
  omega
def aq_vl (r : Option am_V) : Prop := ∃ v, r = some (vL v)
theorem am_sq {d : Int} (h0 : 2 ≤ d) (h1 : d ≤ 32) : 0 ≤ d * d ∧ d * d ≤ 1024 := by
  refine ⟨Int.mul_nonneg (by omega) (by omega), ?_⟩
  exact Int.mul_le_mul h1 h1 (by omega) (by omega)
theorem ae_swd {C : am_C} {pc : Nat} {ls st : List am_V} {h : am_H} {Z : Option am_V → am_H → Prop} {d lo hi a : Int} {offs : Array Int} {len x y : Nat} (hrow : am_row C pc = some (.tableswitch d lo hi offs, len, x, y)) (ha : a < lo ∨ hi < a) (k : am_E C (((pc : Int) + d).toNat, ls, st, h) Z) : am_E C (pc, ls, vI a :: st, h) Z := by
  refine am_E.go hrow ?_ k
  show am_sw d lo hi offs len x y (pc, ls, vI a :: st, h) = _
  unfold am_sw
  simp only []
  rw [if_pos ha]
