/-! The reference's sums: the row in which it works. -/
def mo_q (y : Nat) (c d : aq_C) : Prop := d y 9 = c y 9 ∧ d y 10 = c y 10
theorem mo_q0 {y : Nat} {c : aq_C} : mo_q y c c := ⟨rfl, rfl⟩
theorem mo_qt {y : Nat} {c d e : aq_C} (h1 : mo_q y c d) (h2 : mo_q y d e) : mo_q y c e := ⟨by rw [h2.1, h1.1], by rw [h2.2, h1.2]⟩
theorem mo_qs {S : Nat → Prop} {y : Nat} {c d e : aq_C} (h1 : mo_q y c d) (hs : aq_sm S d e) (hy : ¬ S y) : mo_q y c e := ⟨by rw [hs y hy, h1.1], by rw [hs y hy, h1.2]⟩
theorem mo_qu {y a : Nat} {i x : Int} {c d e : aq_C} (h1 : mo_q y c d) (he : aq_u d a i x = e) (h : y ≠ a ∨ (i ≠ 9 ∧ i ≠ 10)) : mo_q y c e := by
  subst he
  exact ⟨by rw [aq_un (by omega), h1.1], by rw [aq_un (by omega), h1.2]⟩
theorem mo_qk {y : Nat} {c d : aq_C} (h : mo_k y c d) : mo_q y c d := ⟨h.1, h.2.1⟩
/-- place j of the row is a term -/
def mo_v (y : Nat) (K : Int) (c : aq_C) (j : Int) : Prop := 0 ≤ c (y + 15) j ∧ c (y + 15) j < K ∧ c (y + 17) j ≠ 0 ∧ -1000000000000 ≤ c (y + 17) j ∧ c (y + 17) j ≤ 1000000000000
def mo_R (y : Nat) (K : Int) (c : aq_C) : Prop := 0 ≤ c y 17 ∧ c y 17 ≤ 40 ∧ ∀ j, 0 ≤ j → j < c y 17 → mo_v y K c j
theorem mo_vc {y : Nat} {K j i : Int} {c d : aq_C} (h15 : d (y + 15) j = c (y + 15) i) (h17 : d (y + 17) j = c (y + 17) i) (h : mo_v y K c i) : mo_v y K d j := by
  unfold mo_v at *
  rw [h15, h17]
  exact h
theorem mo_Rc {y : Nat} {K : Int} {c d : aq_C} (h0 : d y 17 = c y 17) (h15 : ∀ i, d (y + 15) i = c (y + 15) i) (h17 : ∀ i, d (y + 17) i = c (y + 17) i) (h : mo_R y K c) : mo_R y K d :=
  ⟨by rw [h0]; exact h.1, by rw [h0]; exact h.2.1, fun j h1 h2 => mo_vc (h15 j) (h17 j) (h.2.2 j h1 (by rw [← h0]; exact h2))⟩
