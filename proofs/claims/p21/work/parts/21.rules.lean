/-! Runs of the small machine over the claim's code, backwards: rules. -/
/-- from t, in a method with code C, the run ends, and Z holds of its answer and heap -/
def am_E (C : am_C) (t : am_S) (Z : Option am_V → am_H → Prop) : Prop := ∃ (n : Nat) (r : Option am_V) (h2 : am_H), am_x ac_P n C t = some (r, h2) ∧ Z r h2
theorem am_x_s {P : am_P} {n : Nat} {C : am_C} {t t2 : am_S} (h : am_1 P.1 C t = some (.inl t2)) : am_x P (n + 1) C t = am_x P n C t2 := by
  rw [am_x, h]
theorem am_x_r {P : am_P} {n : Nat} {C : am_C} {t : am_S} {q : Option am_V × am_H} (h : am_1 P.1 C t = some (.inr (.inr q))) : am_x P (n + 1) C t = some q := by
  rw [am_x, h]
theorem am_x_up {P : am_P} : ∀ (n : Nat) {C : am_C} {t : am_S} {q : Option am_V × am_H}, am_x P n C t = some q → am_x P (n + 1) C t = some q
  | 0, C, t, q, h => by cases h
  | n + 1, C, t, q, h => by
    rw [am_x] at h ⊢
    split at h
    · cases h
    · rename_i t2 e1
      exact am_x_up n h
    · rename_i q2 e1
      split at h
      · cases h
      · rename_i M hM
        split at h
        · rename_i hc
          split at h
          · cases h
          · rename_i r2 h3
            have e5 := am_x_up n h3
            have e6 := am_x_up n h
            simp only [e1, hM, if_pos hc, e5]
            exact e6
        · cases h
    · rename_i q2 e1
      exact h
theorem am_x_le {P : am_P} {n : Nat} {C : am_C} {t : am_S} {q : Option am_V × am_H} (h : am_x P n C t = some q) : ∀ k, am_x P (n + k) C t = some q
  | 0 => h
  | k + 1 => am_x_up (n + k) (am_x_le h k)
theorem am_E.imp {C : am_C} {t : am_S} {Z Z2 : Option am_V → am_H → Prop} (h : am_E C t Z) (hz : ∀ r h2, Z r h2 → Z2 r h2) : am_E C t Z2 := by
  obtain ⟨n, r, h2, h3, h4⟩ := h
  exact ⟨n, r, h2, h3, hz r h2 h4⟩
theorem am_E.go {C : am_C} {pc : Nat} {ls st : List am_V} {h : am_H} {row : am_I} {t2 : am_S} {Z : Option am_V → am_H → Prop} (hrow : am_row C pc = some row) (hs : am_sem ac_ft row.1 row.2.1 row.2.2.1 row.2.2.2 (pc, ls, st, h) = some (.inl t2)) (k : am_E C t2 Z) : am_E C (pc, ls, st, h) Z := by
  obtain ⟨n, r, h2, h3, h4⟩ := k
  refine ⟨n + 1, r, h2, ?_, h4⟩
  rw [am_x_s (t2 := t2)]
  · exact h3
  · unfold am_1
    rw [hrow]
    exact hs
theorem am_E.ret {C : am_C} {pc : Nat} {ls st : List am_V} {h : am_H} {row : am_I} {r : Option am_V} {h2 : am_H} {Z : Option am_V → am_H → Prop} (hrow : am_row C pc = some row) (hs : am_sem ac_ft row.1 row.2.1 row.2.2.1 row.2.2.2 (pc, ls, st, h) = some (.inr (.inr (r, h2)))) (k : Z r h2) : am_E C (pc, ls, st, h) Z := by
  refine ⟨1, r, h2, am_x_r ?_, k⟩
  unfold am_1
  rw [hrow]
  exact hs
theorem am_E.call {C : am_C} {pc : Nat} {ls st : List am_V} {h : am_H} {row : am_I} {q : Nat × List am_V × am_S} {M : am_C × Nat} {Z Z2 : Option am_V → am_H → Prop} (hrow : am_row C pc = some row) (hs : am_sem ac_ft row.1 row.2.1 row.2.2.1 row.2.2.2 (pc, ls, st, h) = some (.inr (.inl q))) (hM : ac_L[q.1]? = some M) (hc : (q.2.1.map am_cat).sum ≤ M.2)
    (hk : am_E M.1 (0, am_pad M.2 q.2.1, [], q.2.2.2.2.2) Z2) (k : ∀ r h2, Z2 r h2 → am_E C (q.2.2.1, q.2.2.2.1, r.toList ++ q.2.2.2.2.1, h2) Z) : am_E C (pc, ls, st, h) Z := by
  obtain ⟨n, r, h2, h3, h4⟩ := hk
  obtain ⟨n5, r5, h5, h6, h7⟩ := k r h2 h4
  refine ⟨(n + n5) + 1, r5, h5, ?_, h7⟩
  have e1 : am_1 ac_P.1 C (pc, ls, st, h) = some (.inr (.inl q)) := by
    unfold am_1
    rw [hrow]
    exact hs
  have e2 : ac_P.2[q.1]? = some M := hM
  have e3 := am_x_le h3 n5
  have e4 := am_x_le h6 n
  rw [Nat.add_comm n5 n] at e4
  rw [am_x, e1]
  simp only []
  rw [e2]
  simp only []
  rw [if_pos hc, e3]
  exact e4
