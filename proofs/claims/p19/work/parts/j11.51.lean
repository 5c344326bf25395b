theorem pr_l1 {F : Int → Int} {v0 v1 : Int} (k : Nat) (h0 : F 0 = v0) (h1 : F 1 = v1) (hk : pr_1.getD k [] = [v0, v1]) (hk2 : k < 1) : ∃ b : Int, 0 ≤ b ∧ b < 1 ∧ ∀ p, 0 ≤ p → p < 2 → prt 1 b p = F p := by
  refine ⟨(k : Int), by omega, by omega, fun p h8 h9 => ?_⟩
  have e : ((pr_n 1).getD ((k : Int)).toNat []) = [v0, v1] := by
    rw [Int.toNat_natCast]
    exact hk
  unfold prt
  rw [e]
  have h : p = 0 ∨ p = 1 := by omega
  rcases h with h | h
  · subst h
    rw [h0]
    rfl
  · subst h
    rw [h1]
    rfl
theorem pr_c1 {F : Int → Int} (h : fi 1 F) : ∃ b : Int, 0 ≤ b ∧ b < 1 ∧ ∀ p, 0 ≤ p → p < 2 → prt 1 b p = F p := by
  have t0 := h 0 (by decide) (by decide)
  have t1 := h 1 (by decide) (by decide)
  have e0 : F 0 = 1 := by omega
  have e1 : F 1 = 0 := by have u := t0.2.2.2; rw [e0] at u; exact u
  exact pr_l1 0 e0 e1 rfl (by decide)
theorem pr_l2 {F : Int → Int} {v0 v1 v2 v3 : Int} (k : Nat) (h0 : F 0 = v0) (h1 : F 1 = v1) (h2 : F 2 = v2) (h3 : F 3 = v3) (hk : pr_2.getD k [] = [v0, v1, v2, v3]) (hk2 : k < 3) : ∃ b : Int, 0 ≤ b ∧ b < 3 ∧ ∀ p, 0 ≤ p → p < 4 → prt 2 b p = F p := by
  refine ⟨(k : Int), by omega, by omega, fun p h8 h9 => ?_⟩
  have e : ((pr_n 2).getD ((k : Int)).toNat []) = [v0, v1, v2, v3] := by
    rw [Int.toNat_natCast]
    exact hk
  unfold prt
  rw [e]
  have h : p = 0 ∨ p = 1 ∨ p = 2 ∨ p = 3 := by omega
  rcases h with h | h | h | h
  · subst h
    rw [h0]
    rfl
  · subst h
    rw [h1]
    rfl
  · subst h
    rw [h2]
    rfl
  · subst h
    rw [h3]
    rfl
theorem pr_c2 {F : Int → Int} (h : fi 2 F) : ∃ b : Int, 0 ≤ b ∧ b < 3 ∧ ∀ p, 0 ≤ p → p < 4 → prt 2 b p = F p := by
  have t0 := h 0 (by decide) (by decide)
  have t1 := h 1 (by decide) (by decide)
  have t2 := h 2 (by decide) (by decide)
  have t3 := h 3 (by decide) (by decide)
  have s : F 0 = 1 ∨ F 0 = 2 ∨ F 0 = 3 := by omega
  rcases s with e0 | e0 | e0
  · have e1 : F 1 = 0 := by have u := t0.2.2.2; rw [e0] at u; exact u
    have n0 : F 2 ≠ 0 := fun q => by
      have u := t2.2.2.2
      rw [q, e0] at u
      exact absurd u (by decide)
    have n1 : F 2 ≠ 1 := fun q => by
      have u := t2.2.2.2
      rw [q, e1] at u
      exact absurd u (by decide)
    have e2 : F 2 = 3 := by omega
    have e3 : F 3 = 2 := by have u := t2.2.2.2; rw [e2] at u; exact u
    exact pr_l2 0 e0 e1 e2 e3 rfl (by decide)
  · have e2 : F 2 = 0 := by have u := t0.2.2.2; rw [e0] at u; exact u
    have n0 : F 1 ≠ 0 := fun q => by
      have u := t1.2.2.2
      rw [q, e0] at u
      exact absurd u (by decide)
    have n2 : F 1 ≠ 2 := fun q => by
      have u := t1.2.2.2
      rw [q, e2] at u
      exact absurd u (by decide)
    have e1 : F 1 = 3 := by omega
    have e3 : F 3 = 1 := by have u := t1.2.2.2; rw [e1] at u; exact u
    exact pr_l2 1 e0 e1 e2 e3 rfl (by decide)
  · have e3 : F 3 = 0 := by have u := t0.2.2.2; rw [e0] at u; exact u
    have n0 : F 1 ≠ 0 := fun q => by
      have u := t1.2.2.2
      rw [q, e0] at u
      exact absurd u (by decide)
    have n3 : F 1 ≠ 3 := fun q => by
      have u := t1.2.2.2
      rw [q, e3] at u
      exact absurd u (by decide)
    have e1 : F 1 = 2 := by omega
    have e2 : F 2 = 1 := by have u := t1.2.2.2; rw [e1] at u; exact u
    exact pr_l2 2 e0 e1 e2 e3 rfl (by decide)
theorem pr_l3 {F : Int → Int} {v0 v1 v2 v3 v4 v5 : Int} (k : Nat) (h0 : F 0 = v0) (h1 : F 1 = v1) (h2 : F 2 = v2) (h3 : F 3 = v3) (h4 : F 4 = v4) (h5 : F 5 = v5) (hk : pr_3.getD k [] = [v0, v1, v2, v3, v4, v5]) (hk2 : k < 15) : ∃ b : Int, 0 ≤ b ∧ b < 15 ∧ ∀ p, 0 ≤ p → p < 6 → prt 3 b p = F p := by
  refine ⟨(k : Int), by omega, by omega, fun p h8 h9 => ?_⟩
  have e : ((pr_n 3).getD ((k : Int)).toNat []) = [v0, v1, v2, v3, v4, v5] := by
    rw [Int.toNat_natCast]
    exact hk
  unfold prt
  rw [e]
  have h : p = 0 ∨ p = 1 ∨ p = 2 ∨ p = 3 ∨ p = 4 ∨ p = 5 := by omega
  rcases h with h | h | h | h | h | h
  · subst h
    rw [h0]
    rfl
  · subst h
    rw [h1]
    rfl
  · subst h
    rw [h2]
    rfl
  · subst h
    rw [h3]
    rfl
  · subst h
    rw [h4]
    rfl
  · subst h
    rw [h5]
    rfl
theorem pr_c3 {F : Int → Int} (h : fi 3 F) : ∃ b : Int, 0 ≤ b ∧ b < 15 ∧ ∀ p, 0 ≤ p → p < 6 → prt 3 b p = F p := by
  have t0 := h 0 (by decide) (by decide)
  have t1 := h 1 (by decide) (by decide)
  have t2 := h 2 (by decide) (by decide)
  have t3 := h 3 (by decide) (by decide)
  have t4 := h 4 (by decide) (by decide)
  have t5 := h 5 (by decide) (by decide)
  have s : F 0 = 1 ∨ F 0 = 2 ∨ F 0 = 3 ∨ F 0 = 4 ∨ F 0 = 5 := by omega
  rcases s with e0 | e0 | e0 | e0 | e0
  · have e1 : F 1 = 0 := by have u := t0.2.2.2; rw [e0] at u; exact u
    have n0 : F 2 ≠ 0 := fun q => by
      have u := t2.2.2.2
      rw [q, e0] at u
      exact absurd u (by decide)
    have n1 : F 2 ≠ 1 := fun q => by
      have u := t2.2.2.2
      rw [q, e1] at u
      exact absurd u (by decide)
    have s : F 2 = 3 ∨ F 2 = 4 ∨ F 2 = 5 := by omega
    rcases s with e2 | e2 | e2
    · have e3 : F 3 = 2 := by have u := t2.2.2.2; rw [e2] at u; exact u
      have n0 : F 4 ≠ 0 := fun q => by
        have u := t4.2.2.2
        rw [q, e0] at u
        exact absurd u (by decide)
      have n1 : F 4 ≠ 1 := fun q => by
        have u := t4.2.2.2
        rw [q, e1] at u
        exact absurd u (by decide)
      have n2 : F 4 ≠ 2 := fun q => by
        have u := t4.2.2.2
        rw [q, e2] at u
        exact absurd u (by decide)
      have n3 : F 4 ≠ 3 := fun q => by
        have u := t4.2.2.2
        rw [q, e3] at u
        exact absurd u (by decide)
      have e4 : F 4 = 5 := by omega
      have e5 : F 5 = 4 := by have u := t4.2.2.2; rw [e4] at u; exact u
      exact pr_l3 0 e0 e1 e2 e3 e4 e5 rfl (by decide)
    · have e4 : F 4 = 2 := by have u := t2.2.2.2; rw [e2] at u; exact u
      have n0 : F 3 ≠ 0 := fun q => by
        have u := t3.2.2.2
        rw [q, e0] at u
        exact absurd u (by decide)
      have n1 : F 3 ≠ 1 := fun q => by
        have u := t3.2.2.2
        rw [q, e1] at u
        exact absurd u (by decide)
      have n2 : F 3 ≠ 2 := fun q => by
        have u := t3.2.2.2
        rw [q, e2] at u
        exact absurd u (by decide)
      have n4 : F 3 ≠ 4 := fun q => by
        have u := t3.2.2.2
        rw [q, e4] at u
        exact absurd u (by decide)
      have e3 : F 3 = 5 := by omega
      have e5 : F 5 = 3 := by have u := t3.2.2.2; rw [e3] at u; exact u
      exact pr_l3 1 e0 e1 e2 e3 e4 e5 rfl (by decide)
    · have e5 : F 5 = 2 := by have u := t2.2.2.2; rw [e2] at u; exact u
      have n0 : F 3 ≠ 0 := fun q => by
        have u := t3.2.2.2
        rw [q, e0] at u
        exact absurd u (by decide)
      have n1 : F 3 ≠ 1 := fun q => by
        have u := t3.2.2.2
        rw [q, e1] at u
        exact absurd u (by decide)
      have n2 : F 3 ≠ 2 := fun q => by
        have u := t3.2.2.2
        rw [q, e2] at u
        exact absurd u (by decide)
      have n5 : F 3 ≠ 5 := fun q => by
        have u := t3.2.2.2
        rw [q, e5] at u
        exact absurd u (by decide)
      have e3 : F 3 = 4 := by omega
      have e4 : F 4 = 3 := by have u := t3.2.2.2; rw [e3] at u; exact u
      exact pr_l3 2 e0 e1 e2 e3 e4 e5 rfl (by decide)
  · have e2 : F 2 = 0 := by have u := t0.2.2.2; rw [e0] at u; exact u
    have n0 : F 1 ≠ 0 := fun q => by
      have u := t1.2.2.2
      rw [q, e0] at u
      exact absurd u (by decide)
    have n2 : F 1 ≠ 2 := fun q => by
      have u := t1.2.2.2
      rw [q, e2] at u
      exact absurd u (by decide)
    have s : F 1 = 3 ∨ F 1 = 4 ∨ F 1 = 5 := by omega
    rcases s with e1 | e1 | e1
    · have e3 : F 3 = 1 := by have u := t1.2.2.2; rw [e1] at u; exact u
      have n0 : F 4 ≠ 0 := fun q => by
        have u := t4.2.2.2
        rw [q, e0] at u
        exact absurd u (by decide)
      have n1 : F 4 ≠ 1 := fun q => by
        have u := t4.2.2.2
        rw [q, e1] at u
        exact absurd u (by decide)
      have n2 : F 4 ≠ 2 := fun q => by
        have u := t4.2.2.2
        rw [q, e2] at u
        exact absurd u (by decide)
      have n3 : F 4 ≠ 3 := fun q => by
        have u := t4.2.2.2
        rw [q, e3] at u
        exact absurd u (by decide)
      have e4 : F 4 = 5 := by omega
      have e5 : F 5 = 4 := by have u := t4.2.2.2; rw [e4] at u; exact u
      exact pr_l3 3 e0 e1 e2 e3 e4 e5 rfl (by decide)
    · have e4 : F 4 = 1 := by have u := t1.2.2.2; rw [e1] at u; exact u
      have n0 : F 3 ≠ 0 := fun q => by
        have u := t3.2.2.2
        rw [q, e0] at u
        exact absurd u (by decide)
      have n1 : F 3 ≠ 1 := fun q => by
        have u := t3.2.2.2
        rw [q, e1] at u
        exact absurd u (by decide)
      have n2 : F 3 ≠ 2 := fun q => by
        have u := t3.2.2.2
        rw [q, e2] at u
        exact absurd u (by decide)
      have n4 : F 3 ≠ 4 := fun q => by
        have u := t3.2.2.2
        rw [q, e4] at u
        exact absurd u (by decide)
      have e3 : F 3 = 5 := by omega
      have e5 : F 5 = 3 := by have u := t3.2.2.2; rw [e3] at u; exact u
      exact pr_l3 4 e0 e1 e2 e3 e4 e5 rfl (by decide)
    · have e5 : F 5 = 1 := by have u := t1.2.2.2; rw [e1] at u; exact u
      have n0 : F 3 ≠ 0 := fun q => by
        have u := t3.2.2.2
        rw [q, e0] at u
        exact absurd u (by decide)
      have n1 : F 3 ≠ 1 := fun q => by
        have u := t3.2.2.2
        rw [q, e1] at u
        exact absurd u (by decide)
      have n2 : F 3 ≠ 2 := fun q => by
        have u := t3.2.2.2
        rw [q, e2] at u
        exact absurd u (by decide)
      have n5 : F 3 ≠ 5 := fun q => by
        have u := t3.2.2.2
        rw [q, e5] at u
        exact absurd u (by decide)
      have e3 : F 3 = 4 := by omega
      have e4 : F 4 = 3 := by have u := t3.2.2.2; rw [e3] at u; exact u
      exact pr_l3 5 e0 e1 e2 e3 e4 e5 rfl (by decide)
  · have e3 : F 3 = 0 := by have u := t0.2.2.2; rw [e0] at u; exact u
    have n0 : F 1 ≠ 0 := fun q => by
      have u := t1.2.2.2
      rw [q, e0] at u
      exact absurd u (by decide)
    have n3 : F 1 ≠ 3 := fun q => by
      have u := t1.2.2.2
      rw [q, e3] at u
      exact absurd u (by decide)
    have s : F 1 = 2 ∨ F 1 = 4 ∨ F 1 = 5 := by omega
    rcases s with e1 | e1 | e1
    · have e2 : F 2 = 1 := by have u := t1.2.2.2; rw [e1] at u; exact u
      have n0 : F 4 ≠ 0 := fun q => by
        have u := t4.2.2.2
        rw [q, e0] at u
        exact absurd u (by decide)
      have n1 : F 4 ≠ 1 := fun q => by
        have u := t4.2.2.2
        rw [q, e1] at u
        exact absurd u (by decide)
      have n2 : F 4 ≠ 2 := fun q => by
        have u := t4.2.2.2
        rw [q, e2] at u
        exact absurd u (by decide)
      have n3 : F 4 ≠ 3 := fun q => by
        have u := t4.2.2.2
        rw [q, e3] at u
        exact absurd u (by decide)
      have e4 : F 4 = 5 := by omega
      have e5 : F 5 = 4 := by have u := t4.2.2.2; rw [e4] at u; exact u
      exact pr_l3 6 e0 e1 e2 e3 e4 e5 rfl (by decide)
    · have e4 : F 4 = 1 := by have u := t1.2.2.2; rw [e1] at u; exact u
      have n0 : F 2 ≠ 0 := fun q => by
        have u := t2.2.2.2
        rw [q, e0] at u
        exact absurd u (by decide)
      have n1 : F 2 ≠ 1 := fun q => by
        have u := t2.2.2.2
        rw [q, e1] at u
        exact absurd u (by decide)
      have n3 : F 2 ≠ 3 := fun q => by
        have u := t2.2.2.2
        rw [q, e3] at u
        exact absurd u (by decide)
      have n4 : F 2 ≠ 4 := fun q => by
        have u := t2.2.2.2
        rw [q, e4] at u
        exact absurd u (by decide)
      have e2 : F 2 = 5 := by omega
      have e5 : F 5 = 2 := by have u := t2.2.2.2; rw [e2] at u; exact u
      exact pr_l3 7 e0 e1 e2 e3 e4 e5 rfl (by decide)
    · have e5 : F 5 = 1 := by have u := t1.2.2.2; rw [e1] at u; exact u
      have n0 : F 2 ≠ 0 := fun q => by
        have u := t2.2.2.2
        rw [q, e0] at u
        exact absurd u (by decide)
      have n1 : F 2 ≠ 1 := fun q => by
        have u := t2.2.2.2
        rw [q, e1] at u
        exact absurd u (by decide)
      have n3 : F 2 ≠ 3 := fun q => by
        have u := t2.2.2.2
        rw [q, e3] at u
        exact absurd u (by decide)
      have n5 : F 2 ≠ 5 := fun q => by
        have u := t2.2.2.2
        rw [q, e5] at u
        exact absurd u (by decide)
      have e2 : F 2 = 4 := by omega
      have e4 : F 4 = 2 := by have u := t2.2.2.2; rw [e2] at u; exact u
      exact pr_l3 8 e0 e1 e2 e3 e4 e5 rfl (by decide)
  · have e4 : F 4 = 0 := by have u := t0.2.2.2; rw [e0] at u; exact u
    have n0 : F 1 ≠ 0 := fun q => by
      have u := t1.2.2.2
      rw [q, e0] at u
      exact absurd u (by decide)
    have n4 : F 1 ≠ 4 := fun q => by
      have u := t1.2.2.2
      rw [q, e4] at u
      exact absurd u (by decide)
    have s : F 1 = 2 ∨ F 1 = 3 ∨ F 1 = 5 := by omega
    rcases s with e1 | e1 | e1
    · have e2 : F 2 = 1 := by have u := t1.2.2.2; rw [e1] at u; exact u
      have n0 : F 3 ≠ 0 := fun q => by
        have u := t3.2.2.2
        rw [q, e0] at u
        exact absurd u (by decide)
      have n1 : F 3 ≠ 1 := fun q => by
        have u := t3.2.2.2
        rw [q, e1] at u
        exact absurd u (by decide)
      have n2 : F 3 ≠ 2 := fun q => by
        have u := t3.2.2.2
        rw [q, e2] at u
        exact absurd u (by decide)
      have n4 : F 3 ≠ 4 := fun q => by
        have u := t3.2.2.2
        rw [q, e4] at u
        exact absurd u (by decide)
      have e3 : F 3 = 5 := by omega
      have e5 : F 5 = 3 := by have u := t3.2.2.2; rw [e3] at u; exact u
      exact pr_l3 9 e0 e1 e2 e3 e4 e5 rfl (by decide)
    · have e3 : F 3 = 1 := by have u := t1.2.2.2; rw [e1] at u; exact u
      have n0 : F 2 ≠ 0 := fun q => by
        have u := t2.2.2.2
        rw [q, e0] at u
        exact absurd u (by decide)
      have n1 : F 2 ≠ 1 := fun q => by
        have u := t2.2.2.2
        rw [q, e1] at u
        exact absurd u (by decide)
      have n3 : F 2 ≠ 3 := fun q => by
        have u := t2.2.2.2
        rw [q, e3] at u
        exact absurd u (by decide)
      have n4 : F 2 ≠ 4 := fun q => by
        have u := t2.2.2.2
        rw [q, e4] at u
        exact absurd u (by decide)
      have e2 : F 2 = 5 := by omega
      have e5 : F 5 = 2 := by have u := t2.2.2.2; rw [e2] at u; exact u
      exact pr_l3 10 e0 e1 e2 e3 e4 e5 rfl (by decide)
    · have e5 : F 5 = 1 := by have u := t1.2.2.2; rw [e1] at u; exact u
      have n0 : F 2 ≠ 0 := fun q => by
        have u := t2.2.2.2
        rw [q, e0] at u
        exact absurd u (by decide)
      have n1 : F 2 ≠ 1 := fun q => by
        have u := t2.2.2.2
        rw [q, e1] at u
        exact absurd u (by decide)
      have n4 : F 2 ≠ 4 := fun q => by
        have u := t2.2.2.2
        rw [q, e4] at u
        exact absurd u (by decide)
      have n5 : F 2 ≠ 5 := fun q => by
        have u := t2.2.2.2
        rw [q, e5] at u
        exact absurd u (by decide)
      have e2 : F 2 = 3 := by omega
      have e3 : F 3 = 2 := by have u := t2.2.2.2; rw [e2] at u; exact u
      exact pr_l3 11 e0 e1 e2 e3 e4 e5 rfl (by decide)
  · have e5 : F 5 = 0 := by have u := t0.2.2.2; rw [e0] at u; exact u
    have n0 : F 1 ≠ 0 := fun q => by
      have u := t1.2.2.2
      rw [q, e0] at u
      exact absurd u (by decide)
    have n5 : F 1 ≠ 5 := fun q => by
      have u := t1.2.2.2
      rw [q, e5] at u
      exact absurd u (by decide)
    have s : F 1 = 2 ∨ F 1 = 3 ∨ F 1 = 4 := by omega
    rcases s with e1 | e1 | e1
    · have e2 : F 2 = 1 := by have u := t1.2.2.2; rw [e1] at u; exact u
      have n0 : F 3 ≠ 0 := fun q => by
        have u := t3.2.2.2
        rw [q, e0] at u
        exact absurd u (by decide)
      have n1 : F 3 ≠ 1 := fun q => by
        have u := t3.2.2.2
        rw [q, e1] at u
        exact absurd u (by decide)
      have n2 : F 3 ≠ 2 := fun q => by
        have u := t3.2.2.2
        rw [q, e2] at u
        exact absurd u (by decide)
      have n5 : F 3 ≠ 5 := fun q => by
        have u := t3.2.2.2
        rw [q, e5] at u
        exact absurd u (by decide)
      have e3 : F 3 = 4 := by omega
      have e4 : F 4 = 3 := by have u := t3.2.2.2; rw [e3] at u; exact u
      exact pr_l3 12 e0 e1 e2 e3 e4 e5 rfl (by decide)
    · have e3 : F 3 = 1 := by have u := t1.2.2.2; rw [e1] at u; exact u
      have n0 : F 2 ≠ 0 := fun q => by
        have u := t2.2.2.2
        rw [q, e0] at u
        exact absurd u (by decide)
      have n1 : F 2 ≠ 1 := fun q => by
        have u := t2.2.2.2
        rw [q, e1] at u
        exact absurd u (by decide)
      have n3 : F 2 ≠ 3 := fun q => by
        have u := t2.2.2.2
        rw [q, e3] at u
        exact absurd u (by decide)
      have n5 : F 2 ≠ 5 := fun q => by
        have u := t2.2.2.2
        rw [q, e5] at u
        exact absurd u (by decide)
      have e2 : F 2 = 4 := by omega
      have e4 : F 4 = 2 := by have u := t2.2.2.2; rw [e2] at u; exact u
      exact pr_l3 13 e0 e1 e2 e3 e4 e5 rfl (by decide)
    · have e4 : F 4 = 1 := by have u := t1.2.2.2; rw [e1] at u; exact u
      have n0 : F 2 ≠ 0 := fun q => by
        have u := t2.2.2.2
        rw [q, e0] at u
        exact absurd u (by decide)
      have n1 : F 2 ≠ 1 := fun q => by
        have u := t2.2.2.2
        rw [q, e1] at u
        exact absurd u (by decide)
      have n4 : F 2 ≠ 4 := fun q => by
        have u := t2.2.2.2
        rw [q, e4] at u
        exact absurd u (by decide)
      have n5 : F 2 ≠ 5 := fun q => by
        have u := t2.2.2.2
        rw [q, e5] at u
        exact absurd u (by decide)
      have e2 : F 2 = 3 := by omega
      have e3 : F 3 = 2 := by have u := t2.2.2.2; rw [e2] at u; exact u
      exact pr_l3 14 e0 e1 e2 e3 e4 e5 rfl (by decide)
theorem pr_l4 {F : Int → Int} {v0 v1 v2 v3 v4 v5 v6 v7 : Int} (k : Nat) (h0 : F 0 = v0) (h1 : F 1 = v1) (h2 : F 2 = v2) (h3 : F 3 = v3) (h4 : F 4 = v4) (h5 : F 5 = v5) (h6 : F 6 = v6) (h7 : F 7 = v7) (hk : pr_4.getD k [] = [v0, v1, v2, v3, v4, v5, v6, v7]) (hk2 : k < 105) : ∃ b : Int, 0 ≤ b ∧ b < 105 ∧ ∀ p, 0 ≤ p → p < 8 → prt 4 b p = F p := by
  refine ⟨(k : Int), by omega, by omega, fun p h8 h9 => ?_⟩
  have e : ((pr_n 4).getD ((k : Int)).toNat []) = [v0, v1, v2, v3, v4, v5, v6, v7] := by
    rw [Int.toNat_natCast]
    exact hk
  unfold prt
  rw [e]
  have h : p = 0 ∨ p = 1 ∨ p = 2 ∨ p = 3 ∨ p = 4 ∨ p = 5 ∨ p = 6 ∨ p = 7 := by omega
  rcases h with h | h | h | h | h | h | h | h
  · subst h
    rw [h0]
    rfl
  · subst h
    rw [h1]
    rfl
  · subst h
    rw [h2]
    rfl
  · subst h
    rw [h3]
    rfl
  · subst h
    rw [h4]
    rfl
  · subst h
    rw [h5]
    rfl
  · subst h
    rw [h6]
    rfl
  · subst h
    rw [h7]
    rfl
theorem pr_c4 {F : Int → Int} (h : fi 4 F) : ∃ b : Int, 0 ≤ b ∧ b < 105 ∧ ∀ p, 0 ≤ p → p < 8 → prt 4 b p = F p := by
  have t0 := h 0 (by decide) (by decide)
  have t1 := h 1 (by decide) (by decide)
  have t2 := h 2 (by decide) (by decide)
  have t3 := h 3 (by decide) (by decide)
  have t4 := h 4 (by decide) (by decide)
  have t5 := h 5 (by decide) (by decide)
  have t6 := h 6 (by decide) (by decide)
  have t7 := h 7 (by decide) (by decide)
  have s : F 0 = 1 ∨ F 0 = 2 ∨ F 0 = 3 ∨ F 0 = 4 ∨ F 0 = 5 ∨ F 0 = 6 ∨ F 0 = 7 := by omega
  rcases s with e0 | e0 | e0 | e0 | e0 | e0 | e0
  · have e1 : F 1 = 0 := by have u := t0.2.2.2; rw [e0] at u; exact u
    have n0 : F 2 ≠ 0 := fun q => by
      have u := t2.2.2.2
      rw [q, e0] at u
      exact absurd u (by decide)
    have n1 : F 2 ≠ 1 := fun q => by
      have u := t2.2.2.2
      rw [q, e1] at u
      exact absurd u (by decide)
    have s : F 2 = 3 ∨ F 2 = 4 ∨ F 2 = 5 ∨ F 2 = 6 ∨ F 2 = 7 := by omega
    rcases s with e2 | e2 | e2 | e2 | e2
    · have e3 : F 3 = 2 := by have u := t2.2.2.2; rw [e2] at u; exact u
      have n0 : F 4 ≠ 0 := fun q => by
        have u := t4.2.2.2
        rw [q, e0] at u
        exact absurd u (by decide)
      have n1 : F 4 ≠ 1 := fun q => by
        have u := t4.2.2.2
        rw [q, e1] at u
        exact absurd u (by decide)
      have n2 : F 4 ≠ 2 := fun q => by
        have u := t4.2.2.2
        rw [q, e2] at u
        exact absurd u (by decide)
      have n3 : F 4 ≠ 3 := fun q => by
        have u := t4.2.2.2
        rw [q, e3] at u
        exact absurd u (by decide)
      have s : F 4 = 5 ∨ F 4 = 6 ∨ F 4 = 7 := by omega
      rcases s with e4 | e4 | e4
      · have e5 : F 5 = 4 := by have u := t4.2.2.2; rw [e4] at u; exact u
        have n0 : F 6 ≠ 0 := fun q => by
          have u := t6.2.2.2
          rw [q, e0] at u
          exact absurd u (by decide)
        have n1 : F 6 ≠ 1 := fun q => by
          have u := t6.2.2.2
          rw [q, e1] at u
          exact absurd u (by decide)
        have n2 : F 6 ≠ 2 := fun q => by
          have u := t6.2.2.2
          rw [q, e2] at u
          exact absurd u (by decide)
        have n3 : F 6 ≠ 3 := fun q => by
          have u := t6.2.2.2
          rw [q, e3] at u
          exact absurd u (by decide)
        have n4 : F 6 ≠ 4 := fun q => by
          have u := t6.2.2.2
          rw [q, e4] at u
          exact absurd u (by decide)
        have n5 : F 6 ≠ 5 := fun q => by
          have u := t6.2.2.2
          rw [q, e5] at u
          exact absurd u (by decide)
        have e6 : F 6 = 7 := by omega
        have e7 : F 7 = 6 := by have u := t6.2.2.2; rw [e6] at u; exact u
        exact pr_l4 0 e0 e1 e2 e3 e4 e5 e6 e7 rfl (by decide)
      · have e6 : F 6 = 4 := by have u := t4.2.2.2; rw [e4] at u; exact u
        have n0 : F 5 ≠ 0 := fun q => by
          have u := t5.2.2.2
          rw [q, e0] at u
          exact absurd u (by decide)
        have n1 : F 5 ≠ 1 := fun q => by
          have u := t5.2.2.2
          rw [q, e1] at u
          exact absurd u (by decide)
        have n2 : F 5 ≠ 2 := fun q => by
          have u := t5.2.2.2
          rw [q, e2] at u
          exact absurd u (by decide)
        have n3 : F 5 ≠ 3 := fun q => by
          have u := t5.2.2.2
          rw [q, e3] at u
          exact absurd u (by decide)
        have n4 : F 5 ≠ 4 := fun q => by
          have u := t5.2.2.2
          rw [q, e4] at u
          exact absurd u (by decide)
        have n6 : F 5 ≠ 6 := fun q => by
          have u := t5.2.2.2
          rw [q, e6] at u
          exact absurd u (by decide)
        have e5 : F 5 = 7 := by omega
        have e7 : F 7 = 5 := by have u := t5.2.2.2; rw [e5] at u; exact u
        exact pr_l4 1 e0 e1 e2 e3 e4 e5 e6 e7 rfl (by decide)
      · have e7 : F 7 = 4 := by have u := t4.2.2.2; rw [e4] at u; exact u
        have n0 : F 5 ≠ 0 := fun q => by
          have u := t5.2.2.2
          rw [q, e0] at u
          exact absurd u (by decide)
        have n1 : F 5 ≠ 1 := fun q => by
          have u := t5.2.2.2
          rw [q, e1] at u
          exact absurd u (by decide)
        have n2 : F 5 ≠ 2 := fun q => by
          have u := t5.2.2.2
          rw [q, e2] at u
          exact absurd u (by decide)
        have n3 : F 5 ≠ 3 := fun q => by
          have u := t5.2.2.2
          rw [q, e3] at u
          exact absurd u (by decide)
        have n4 : F 5 ≠ 4 := fun q => by
          have u := t5.2.2.2
          rw [q, e4] at u
          exact absurd u (by decide)
        have n7 : F 5 ≠ 7 := fun q => by
          have u := t5.2.2.2
          rw [q, e7] at u
          exact absurd u (by decide)
        have e5 : F 5 = 6 := by omega
        have e6 : F 6 = 5 := by have u := t5.2.2.2; rw [e5] at u; exact u
        exact pr_l4 2 e0 e1 e2 e3 e4 e5 e6 e7 rfl (by decide)
    · have e4 : F 4 = 2 := by have u := t2.2.2.2; rw [e2] at u; exact u
      have n0 : F 3 ≠ 0 := fun q => by
        have u := t3.2.2.2
        rw [q, e0] at u
        exact absurd u (by decide)
      have n1 : F 3 ≠ 1 := fun q => by
        have u := t3.2.2.2
        rw [q, e1] at u
        exact absurd u (by decide)
      have n2 : F 3 ≠ 2 := fun q => by
        have u := t3.2.2.2
        rw [q, e2] at u
        exact absurd u (by decide)
      have n4 : F 3 ≠ 4 := fun q => by
        have u := t3.2.2.2
        rw [q, e4] at u
        exact absurd u (by decide)
      have s : F 3 = 5 ∨ F 3 = 6 ∨ F 3 = 7 := by omega
      rcases s with e3 | e3 | e3
      · have e5 : F 5 = 3 := by have u := t3.2.2.2; rw [e3] at u; exact u
        have n0 : F 6 ≠ 0 := fun q => by
          have u := t6.2.2.2
          rw [q, e0] at u
          exact absurd u (by decide)
        have n1 : F 6 ≠ 1 := fun q => by
          have u := t6.2.2.2
          rw [q, e1] at u
          exact absurd u (by decide)
        have n2 : F 6 ≠ 2 := fun q => by
          have u := t6.2.2.2
          rw [q, e2] at u
          exact absurd u (by decide)
        have n3 : F 6 ≠ 3 := fun q => by
          have u := t6.2.2.2
          rw [q, e3] at u
          exact absurd u (by decide)
        have n4 : F 6 ≠ 4 := fun q => by
          have u := t6.2.2.2
          rw [q, e4] at u
          exact absurd u (by decide)
        have n5 : F 6 ≠ 5 := fun q => by
          have u := t6.2.2.2
          rw [q, e5] at u
          exact absurd u (by decide)
        have e6 : F 6 = 7 := by omega
        have e7 : F 7 = 6 := by have u := t6.2.2.2; rw [e6] at u; exact u
        exact pr_l4 3 e0 e1 e2 e3 e4 e5 e6 e7 rfl (by decide)
      · have e6 : F 6 = 3 := by have u := t3.2.2.2; rw [e3] at u; exact u
        have n0 : F 5 ≠ 0 := fun q => by
          have u := t5.2.2.2
          rw [q, e0] at u
          exact absurd u (by decide)
        have n1 : F 5 ≠ 1 := fun q => by
          have u := t5.2.2.2
          rw [q, e1] at u
          exact absurd u (by decide)
        have n2 : F 5 ≠ 2 := fun q => by
          have u := t5.2.2.2
          rw [q, e2] at u
          exact absurd u (by decide)
        have n3 : F 5 ≠ 3 := fun q => by
          have u := t5.2.2.2
          rw [q, e3] at u
          exact absurd u (by decide)
        have n4 : F 5 ≠ 4 := fun q => by
          have u := t5.2.2.2
          rw [q, e4] at u
          exact absurd u (by decide)
        have n6 : F 5 ≠ 6 := fun q => by
          have u := t5.2.2.2
          rw [q, e6] at u
          exact absurd u (by decide)
        have e5 : F 5 = 7 := by omega
        have e7 : F 7 = 5 := by have u := t5.2.2.2; rw [e5] at u; exact u
        exact pr_l4 4 e0 e1 e2 e3 e4 e5 e6 e7 rfl (by decide)
      · have e7 : F 7 = 3 := by have u := t3.2.2.2; rw [e3] at u; exact u
        have n0 : F 5 ≠ 0 := fun q => by
          have u := t5.2.2.2
          rw [q, e0] at u
          exact absurd u (by decide)
        have n1 : F 5 ≠ 1 := fun q => by
          have u := t5.2.2.2
          rw [q, e1] at u
          exact absurd u (by decide)
        have n2 : F 5 ≠ 2 := fun q => by
          have u := t5.2.2.2
          rw [q, e2] at u
          exact absurd u (by decide)
        have n3 : F 5 ≠ 3 := fun q => by
          have u := t5.2.2.2
          rw [q, e3] at u
          exact absurd u (by decide)
        have n4 : F 5 ≠ 4 := fun q => by
          have u := t5.2.2.2
          rw [q, e4] at u
          exact absurd u (by decide)
        have n7 : F 5 ≠ 7 := fun q => by
          have u := t5.2.2.2
          rw [q, e7] at u
          exact absurd u (by decide)
        have e5 : F 5 = 6 := by omega
        have e6 : F 6 = 5 := by have u := t5.2.2.2; rw [e5] at u; exact u
        exact pr_l4 5 e0 e1 e2 e3 e4 e5 e6 e7 rfl (by decide)
    · have e5 : F 5 = 2 := by have u := t2.2.2.2; rw [e2] at u; exact u
      have n0 : F 3 ≠ 0 := fun q => by
        have u := t3.2.2.2
        rw [q, e0] at u
        exact absurd u (by decide)
      have n1 : F 3 ≠ 1 := fun q => by
        have u := t3.2.2.2
        rw [q, e1] at u
        exact absurd u (by decide)
      have n2 : F 3 ≠ 2 := fun q => by
        have u := t3.2.2.2
        rw [q, e2] at u
        exact absurd u (by decide)
      have n5 : F 3 ≠ 5 := fun q => by
        have u := t3.2.2.2
        rw [q, e5] at u
        exact absurd u (by decide)
      have s : F 3 = 4 ∨ F 3 = 6 ∨ F 3 = 7 := by omega
      rcases s with e3 | e3 | e3
      · have e4 : F 4 = 3 := by have u := t3.2.2.2; rw [e3] at u; exact u
        have n0 : F 6 ≠ 0 := fun q => by
          have u := t6.2.2.2
          rw [q, e0] at u
          exact absurd u (by decide)
        have n1 : F 6 ≠ 1 := fun q => by
          have u := t6.2.2.2
          rw [q, e1] at u
          exact absurd u (by decide)
        have n2 : F 6 ≠ 2 := fun q => by
          have u := t6.2.2.2
          rw [q, e2] at u
          exact absurd u (by decide)
        have n3 : F 6 ≠ 3 := fun q => by
          have u := t6.2.2.2
          rw [q, e3] at u
          exact absurd u (by decide)
        have n4 : F 6 ≠ 4 := fun q => by
          have u := t6.2.2.2
          rw [q, e4] at u
          exact absurd u (by decide)
        have n5 : F 6 ≠ 5 := fun q => by
          have u := t6.2.2.2
          rw [q, e5] at u
          exact absurd u (by decide)
        have e6 : F 6 = 7 := by omega
        have e7 : F 7 = 6 := by have u := t6.2.2.2; rw [e6] at u; exact u
        exact pr_l4 6 e0 e1 e2 e3 e4 e5 e6 e7 rfl (by decide)
      · have e6 : F 6 = 3 := by have u := t3.2.2.2; rw [e3] at u; exact u
        have n0 : F 4 ≠ 0 := fun q => by
          have u := t4.2.2.2
          rw [q, e0] at u
          exact absurd u (by decide)
        have n1 : F 4 ≠ 1 := fun q => by
          have u := t4.2.2.2
          rw [q, e1] at u
          exact absurd u (by decide)
        have n2 : F 4 ≠ 2 := fun q => by
          have u := t4.2.2.2
          rw [q, e2] at u
          exact absurd u (by decide)
        have n3 : F 4 ≠ 3 := fun q => by
          have u := t4.2.2.2
          rw [q, e3] at u
          exact absurd u (by decide)
        have n5 : F 4 ≠ 5 := fun q => by
          have u := t4.2.2.2
          rw [q, e5] at u
          exact absurd u (by decide)
        have n6 : F 4 ≠ 6 := fun q => by
          have u := t4.2.2.2
          rw [q, e6] at u
          exact absurd u (by decide)
        have e4 : F 4 = 7 := by omega
        have e7 : F 7 = 4 := by have u := t4.2.2.2; rw [e4] at u; exact u
        exact pr_l4 7 e0 e1 e2 e3 e4 e5 e6 e7 rfl (by decide)
      · have e7 : F 7 = 3 := by have u := t3.2.2.2; rw [e3] at u; exact u
        have n0 : F 4 ≠ 0 := fun q => by
          have u := t4.2.2.2
          rw [q, e0] at u
          exact absurd u (by decide)
        have n1 : F 4 ≠ 1 := fun q => by
          have u := t4.2.2.2
          rw [q, e1] at u
          exact absurd u (by decide)
        have n2 : F 4 ≠ 2 := fun q => by
          have u := t4.2.2.2
          rw [q, e2] at u
          exact absurd u (by decide)
        have n3 : F 4 ≠ 3 := fun q => by
          have u := t4.2.2.2
          rw [q, e3] at u
          exact absurd u (by decide)
        have n5 : F 4 ≠ 5 := fun q => by
          have u := t4.2.2.2
          rw [q, e5] at u
          exact absurd u (by decide)
        have n7 : F 4 ≠ 7 := fun q => by
          have u := t4.2.2.2
          rw [q, e7] at u
          exact absurd u (by decide)
        have e4 : F 4 = 6 := by omega
        have e6 : F 6 = 4 := by have u := t4.2.2.2; rw [e4] at u; exact u
        exact pr_l4 8 e0 e1 e2 e3 e4 e5 e6 e7 rfl (by decide)
    · have e6 : F 6 = 2 := by have u := t2.2.2.2; rw [e2] at u; exact u
      have n0 : F 3 ≠ 0 := fun q => by
        have u := t3.2.2.2
        rw [q, e0] at u
        exact absurd u (by decide)
      have n1 : F 3 ≠ 1 := fun q => by
        have u := t3.2.2.2
        rw [q, e1] at u
        exact absurd u (by decide)
      have n2 : F 3 ≠ 2 := fun q => by
        have u := t3.2.2.2
        rw [q, e2] at u
        exact absurd u (by decide)
      have n6 : F 3 ≠ 6 := fun q => by
        have u := t3.2.2.2
        rw [q, e6] at u
        exact absurd u (by decide)
      have s : F 3 = 4 ∨ F 3 = 5 ∨ F 3 = 7 := by omega
      rcases s with e3 | e3 | e3
      · have e4 : F 4 = 3 := by have u := t3.2.2.2; rw [e3] at u; exact u
        have n0 : F 5 ≠ 0 := fun q => by
          have u := t5.2.2.2
          rw [q, e0] at u
          exact absurd u (by decide)
        have n1 : F 5 ≠ 1 := fun q => by
          have u := t5.2.2.2
          rw [q, e1] at u
          exact absurd u (by decide)
        have n2 : F 5 ≠ 2 := fun q => by
          have u := t5.2.2.2
          rw [q, e2] at u
          exact absurd u (by decide)
        have n3 : F 5 ≠ 3 := fun q => by
          have u := t5.2.2.2
          rw [q, e3] at u
          exact absurd u (by decide)
        have n4 : F 5 ≠ 4 := fun q => by
          have u := t5.2.2.2
          rw [q, e4] at u
          exact absurd u (by decide)
        have n6 : F 5 ≠ 6 := fun q => by
          have u := t5.2.2.2
          rw [q, e6] at u
          exact absurd u (by decide)
        have e5 : F 5 = 7 := by omega
        have e7 : F 7 = 5 := by have u := t5.2.2.2; rw [e5] at u; exact u
        exact pr_l4 9 e0 e1 e2 e3 e4 e5 e6 e7 rfl (by decide)
      · have e5 : F 5 = 3 := by have u := t3.2.2.2; rw [e3] at u; exact u
        have n0 : F 4 ≠ 0 := fun q => by
          have u := t4.2.2.2
          rw [q, e0] at u
          exact absurd u (by decide)
        have n1 : F 4 ≠ 1 := fun q => by
          have u := t4.2.2.2
          rw [q, e1] at u
          exact absurd u (by decide)
        have n2 : F 4 ≠ 2 := fun q => by
          have u := t4.2.2.2
          rw [q, e2] at u
          exact absurd u (by decide)
        have n3 : F 4 ≠ 3 := fun q => by
          have u := t4.2.2.2
          rw [q, e3] at u
          exact absurd u (by decide)
        have n5 : F 4 ≠ 5 := fun q => by
          have u := t4.2.2.2
          rw [q, e5] at u
          exact absurd u (by decide)
        have n6 : F 4 ≠ 6 := fun q => by
          have u := t4.2.2.2
          rw [q, e6] at u
          exact absurd u (by decide)
        have e4 : F 4 = 7 := by omega
        have e7 : F 7 = 4 := by have u := t4.2.2.2; rw [e4] at u; exact u
        exact pr_l4 10 e0 e1 e2 e3 e4 e5 e6 e7 rfl (by decide)
      · have e7 : F 7 = 3 := by have u := t3.2.2.2; rw [e3] at u; exact u
        have n0 : F 4 ≠ 0 := fun q => by
          have u := t4.2.2.2
          rw [q, e0] at u
          exact absurd u (by decide)
        have n1 : F 4 ≠ 1 := fun q => by
          have u := t4.2.2.2
          rw [q, e1] at u
          exact absurd u (by decide)
        have n2 : F 4 ≠ 2 := fun q => by
          have u := t4.2.2.2
          rw [q, e2] at u
          exact absurd u (by decide)
        have n3 : F 4 ≠ 3 := fun q => by
          have u := t4.2.2.2
          rw [q, e3] at u
          exact absurd u (by decide)
        have n6 : F 4 ≠ 6 := fun q => by
          have u := t4.2.2.2
          rw [q, e6] at u
          exact absurd u (by decide)
        have n7 : F 4 ≠ 7 := fun q => by
          have u := t4.2.2.2
          rw [q, e7] at u
          exact absurd u (by decide)
        have e4 : F 4 = 5 := by omega
        have e5 : F 5 = 4 := by have u := t4.2.2.2; rw [e4] at u; exact u
        exact pr_l4 11 e0 e1 e2 e3 e4 e5 e6 e7 rfl (by decide)
    · have e7 : F 7 = 2 := by have u := t2.2.2.2; rw [e2] at u; exact u
      have n0 : F 3 ≠ 0 := fun q => by
        have u := t3.2.2.2
        rw [q, e0] at u
        exact absurd u (by decide)
      have n1 : F 3 ≠ 1 := fun q => by
        have u := t3.2.2.2
        rw [q, e1] at u
        exact absurd u (by decide)
      have n2 : F 3 ≠ 2 := fun q => by
        have u := t3.2.2.2
        rw [q, e2] at u
        exact absurd u (by decide)
      have n7 : F 3 ≠ 7 := fun q => by
        have u := t3.2.2.2
        rw [q, e7] at u
        exact absurd u (by decide)
      have s : F 3 = 4 ∨ F 3 = 5 ∨ F 3 = 6 := by omega
      rcases s with e3 | e3 | e3
      · have e4 : F 4 = 3 := by have u := t3.2.2.2; rw [e3] at u; exact u
        have n0 : F 5 ≠ 0 := fun q => by
          have u := t5.2.2.2
          rw [q, e0] at u
          exact absurd u (by decide)
        have n1 : F 5 ≠ 1 := fun q => by
          have u := t5.2.2.2
          rw [q, e1] at u
          exact absurd u (by decide)
        have n2 : F 5 ≠ 2 := fun q => by
          have u := t5.2.2.2
          rw [q, e2] at u
          exact absurd u (by decide)
        have n3 : F 5 ≠ 3 := fun q => by
          have u := t5.2.2.2
          rw [q, e3] at u
          exact absurd u (by decide)
        have n4 : F 5 ≠ 4 := fun q => by
          have u := t5.2.2.2
          rw [q, e4] at u
          exact absurd u (by decide)
        have n7 : F 5 ≠ 7 := fun q => by
          have u := t5.2.2.2
          rw [q, e7] at u
          exact absurd u (by decide)
        have e5 : F 5 = 6 := by omega
        have e6 : F 6 = 5 := by have u := t5.2.2.2; rw [e5] at u; exact u
        exact pr_l4 12 e0 e1 e2 e3 e4 e5 e6 e7 rfl (by decide)
      · have e5 : F 5 = 3 := by have u := t3.2.2.2; rw [e3] at u; exact u
        have n0 : F 4 ≠ 0 := fun q => by
          have u := t4.2.2.2
          rw [q, e0] at u
          exact absurd u (by decide)
        have n1 : F 4 ≠ 1 := fun q => by
          have u := t4.2.2.2
          rw [q, e1] at u
          exact absurd u (by decide)
        have n2 : F 4 ≠ 2 := fun q => by
          have u := t4.2.2.2
          rw [q, e2] at u
          exact absurd u (by decide)
        have n3 : F 4 ≠ 3 := fun q => by
          have u := t4.2.2.2
          rw [q, e3] at u
          exact absurd u (by decide)
        have n5 : F 4 ≠ 5 := fun q => by
          have u := t4.2.2.2
          rw [q, e5] at u
          exact absurd u (by decide)
        have n7 : F 4 ≠ 7 := fun q => by
          have u := t4.2.2.2
          rw [q, e7] at u
          exact absurd u (by decide)
        have e4 : F 4 = 6 := by omega
        have e6 : F 6 = 4 := by have u := t4.2.2.2; rw [e4] at u; exact u
        exact pr_l4 13 e0 e1 e2 e3 e4 e5 e6 e7 rfl (by decide)
      · have e6 : F 6 = 3 := by have u := t3.2.2.2; rw [e3] at u; exact u
        have n0 : F 4 ≠ 0 := fun q => by
          have u := t4.2.2.2
          rw [q, e0] at u
          exact absurd u (by decide)
        have n1 : F 4 ≠ 1 := fun q => by
          have u := t4.2.2.2
          rw [q, e1] at u
          exact absurd u (by decide)
        have n2 : F 4 ≠ 2 := fun q => by
          have u := t4.2.2.2
          rw [q, e2] at u
          exact absurd u (by decide)
        have n3 : F 4 ≠ 3 := fun q => by
          have u := t4.2.2.2
          rw [q, e3] at u
          exact absurd u (by decide)
        have n6 : F 4 ≠ 6 := fun q => by
          have u := t4.2.2.2
          rw [q, e6] at u
          exact absurd u (by decide)
        have n7 : F 4 ≠ 7 := fun q => by
          have u := t4.2.2.2
          rw [q, e7] at u
          exact absurd u (by decide)
        have e4 : F 4 = 5 := by omega
        have e5 : F 5 = 4 := by have u := t4.2.2.2; rw [e4] at u; exact u
        exact pr_l4 14 e0 e1 e2 e3 e4 e5 e6 e7 rfl (by decide)
  · have e2 : F 2 = 0 := by have u := t0.2.2.2; rw [e0] at u; exact u
    have n0 : F 1 ≠ 0 := fun q => by
      have u := t1.2.2.2
      rw [q, e0] at u
      exact absurd u (by decide)
    have n2 : F 1 ≠ 2 := fun q => by
      have u := t1.2.2.2
      rw [q, e2] at u
      exact absurd u (by decide)
    have s : F 1 = 3 ∨ F 1 = 4 ∨ F 1 = 5 ∨ F 1 = 6 ∨ F 1 = 7 := by omega
    rcases s with e1 | e1 | e1 | e1 | e1
    · have e3 : F 3 = 1 := by have u := t1.2.2.2; rw [e1] at u; exact u
      have n0 : F 4 ≠ 0 := fun q => by
        have u := t4.2.2.2
        rw [q, e0] at u
        exact absurd u (by decide)
      have n1 : F 4 ≠ 1 := fun q => by
        have u := t4.2.2.2
        rw [q, e1] at u
        exact absurd u (by decide)
      have n2 : F 4 ≠ 2 := fun q => by
        have u := t4.2.2.2
        rw [q, e2] at u
        exact absurd u (by decide)
      have n3 : F 4 ≠ 3 := fun q => by
        have u := t4.2.2.2
        rw [q, e3] at u
        exact absurd u (by decide)
      have s : F 4 = 5 ∨ F 4 = 6 ∨ F 4 = 7 := by omega
      rcases s with e4 | e4 | e4
      · have e5 : F 5 = 4 := by have u := t4.2.2.2; rw [e4] at u; exact u
        have n0 : F 6 ≠ 0 := fun q => by
          have u := t6.2.2.2
          rw [q, e0] at u
          exact absurd u (by decide)
        have n1 : F 6 ≠ 1 := fun q => by
          have u := t6.2.2.2
          rw [q, e1] at u
          exact absurd u (by decide)
        have n2 : F 6 ≠ 2 := fun q => by
          have u := t6.2.2.2
          rw [q, e2] at u
          exact absurd u (by decide)
        have n3 : F 6 ≠ 3 := fun q => by
          have u := t6.2.2.2
          rw [q, e3] at u
          exact absurd u (by decide)
        have n4 : F 6 ≠ 4 := fun q => by
          have u := t6.2.2.2
          rw [q, e4] at u
          exact absurd u (by decide)
        have n5 : F 6 ≠ 5 := fun q => by
          have u := t6.2.2.2
          rw [q, e5] at u
          exact absurd u (by decide)
        have e6 : F 6 = 7 := by omega
        have e7 : F 7 = 6 := by have u := t6.2.2.2; rw [e6] at u; exact u
        exact pr_l4 15 e0 e1 e2 e3 e4 e5 e6 e7 rfl (by decide)
      · have e6 : F 6 = 4 := by have u := t4.2.2.2; rw [e4] at u; exact u
        have n0 : F 5 ≠ 0 := fun q => by
          have u := t5.2.2.2
          rw [q, e0] at u
          exact absurd u (by decide)
        have n1 : F 5 ≠ 1 := fun q => by
          have u := t5.2.2.2
          rw [q, e1] at u
          exact absurd u (by decide)
        have n2 : F 5 ≠ 2 := fun q => by
          have u := t5.2.2.2
          rw [q, e2] at u
          exact absurd u (by decide)
        have n3 : F 5 ≠ 3 := fun q => by
          have u := t5.2.2.2
          rw [q, e3] at u
          exact absurd u (by decide)
        have n4 : F 5 ≠ 4 := fun q => by
          have u := t5.2.2.2
          rw [q, e4] at u
          exact absurd u (by decide)
        have n6 : F 5 ≠ 6 := fun q => by
          have u := t5.2.2.2
          rw [q, e6] at u
          exact absurd u (by decide)
        have e5 : F 5 = 7 := by omega
        have e7 : F 7 = 5 := by have u := t5.2.2.2; rw [e5] at u; exact u
        exact pr_l4 16 e0 e1 e2 e3 e4 e5 e6 e7 rfl (by decide)
      · have e7 : F 7 = 4 := by have u := t4.2.2.2; rw [e4] at u; exact u
        have n0 : F 5 ≠ 0 := fun q => by
          have u := t5.2.2.2
          rw [q, e0] at u
          exact absurd u (by decide)
        have n1 : F 5 ≠ 1 := fun q => by
          have u := t5.2.2.2
          rw [q, e1] at u
          exact absurd u (by decide)
        have n2 : F 5 ≠ 2 := fun q => by
          have u := t5.2.2.2
          rw [q, e2] at u
          exact absurd u (by decide)
        have n3 : F 5 ≠ 3 := fun q => by
          have u := t5.2.2.2
          rw [q, e3] at u
          exact absurd u (by decide)
        have n4 : F 5 ≠ 4 := fun q => by
          have u := t5.2.2.2
          rw [q, e4] at u
          exact absurd u (by decide)
        have n7 : F 5 ≠ 7 := fun q => by
          have u := t5.2.2.2
          rw [q, e7] at u
          exact absurd u (by decide)
        have e5 : F 5 = 6 := by omega
        have e6 : F 6 = 5 := by have u := t5.2.2.2; rw [e5] at u; exact u
        exact pr_l4 17 e0 e1 e2 e3 e4 e5 e6 e7 rfl (by decide)
    · have e4 : F 4 = 1 := by have u := t1.2.2.2; rw [e1] at u; exact u
      have n0 : F 3 ≠ 0 := fun q => by
        have u := t3.2.2.2
        rw [q, e0] at u
        exact absurd u (by decide)
      have n1 : F 3 ≠ 1 := fun q => by
        have u := t3.2.2.2
        rw [q, e1] at u
        exact absurd u (by decide)
      have n2 : F 3 ≠ 2 := fun q => by
        have u := t3.2.2.2
        rw [q, e2] at u
        exact absurd u (by decide)
      have n4 : F 3 ≠ 4 := fun q => by
        have u := t3.2.2.2
        rw [q, e4] at u
        exact absurd u (by decide)
      have s : F 3 = 5 ∨ F 3 = 6 ∨ F 3 = 7 := by omega
      rcases s with e3 | e3 | e3
      · have e5 : F 5 = 3 := by have u := t3.2.2.2; rw [e3] at u; exact u
        have n0 : F 6 ≠ 0 := fun q => by
          have u := t6.2.2.2
          rw [q, e0] at u
          exact absurd u (by decide)
        have n1 : F 6 ≠ 1 := fun q => by
          have u := t6.2.2.2
          rw [q, e1] at u
          exact absurd u (by decide)
        have n2 : F 6 ≠ 2 := fun q => by
          have u := t6.2.2.2
          rw [q, e2] at u
          exact absurd u (by decide)
        have n3 : F 6 ≠ 3 := fun q => by
          have u := t6.2.2.2
          rw [q, e3] at u
          exact absurd u (by decide)
        have n4 : F 6 ≠ 4 := fun q => by
          have u := t6.2.2.2
          rw [q, e4] at u
          exact absurd u (by decide)
        have n5 : F 6 ≠ 5 := fun q => by
          have u := t6.2.2.2
          rw [q, e5] at u
          exact absurd u (by decide)
        have e6 : F 6 = 7 := by omega
        have e7 : F 7 = 6 := by have u := t6.2.2.2; rw [e6] at u; exact u
        exact pr_l4 18 e0 e1 e2 e3 e4 e5 e6 e7 rfl (by decide)
      · have e6 : F 6 = 3 := by have u := t3.2.2.2; rw [e3] at u; exact u
        have n0 : F 5 ≠ 0 := fun q => by
          have u := t5.2.2.2
          rw [q, e0] at u
          exact absurd u (by decide)
        have n1 : F 5 ≠ 1 := fun q => by
          have u := t5.2.2.2
          rw [q, e1] at u
          exact absurd u (by decide)
        have n2 : F 5 ≠ 2 := fun q => by
          have u := t5.2.2.2
          rw [q, e2] at u
          exact absurd u (by decide)
        have n3 : F 5 ≠ 3 := fun q => by
          have u := t5.2.2.2
          rw [q, e3] at u
          exact absurd u (by decide)
        have n4 : F 5 ≠ 4 := fun q => by
          have u := t5.2.2.2
          rw [q, e4] at u
          exact absurd u (by decide)
        have n6 : F 5 ≠ 6 := fun q => by
          have u := t5.2.2.2
          rw [q, e6] at u
          exact absurd u (by decide)
        have e5 : F 5 = 7 := by omega
        have e7 : F 7 = 5 := by have u := t5.2.2.2; rw [e5] at u; exact u
        exact pr_l4 19 e0 e1 e2 e3 e4 e5 e6 e7 rfl (by decide)
      · have e7 : F 7 = 3 := by have u := t3.2.2.2; rw [e3] at u; exact u
        have n0 : F 5 ≠ 0 := fun q => by
          have u := t5.2.2.2
          rw [q, e0] at u
          exact absurd u (by decide)
        have n1 : F 5 ≠ 1 := fun q => by
          have u := t5.2.2.2
          rw [q, e1] at u
          exact absurd u (by decide)
        have n2 : F 5 ≠ 2 := fun q => by
          have u := t5.2.2.2
          rw [q, e2] at u
          exact absurd u (by decide)
        have n3 : F 5 ≠ 3 := fun q => by
          have u := t5.2.2.2
          rw [q, e3] at u
          exact absurd u (by decide)
        have n4 : F 5 ≠ 4 := fun q => by
          have u := t5.2.2.2
          rw [q, e4] at u
          exact absurd u (by decide)
        have n7 : F 5 ≠ 7 := fun q => by
          have u := t5.2.2.2
          rw [q, e7] at u
          exact absurd u (by decide)
        have e5 : F 5 = 6 := by omega
        have e6 : F 6 = 5 := by have u := t5.2.2.2; rw [e5] at u; exact u
        exact pr_l4 20 e0 e1 e2 e3 e4 e5 e6 e7 rfl (by decide)
    · have e5 : F 5 = 1 := by have u := t1.2.2.2; rw [e1] at u; exact u
      have n0 : F 3 ≠ 0 := fun q => by
        have u := t3.2.2.2
        rw [q, e0] at u
        exact absurd u (by decide)
      have n1 : F 3 ≠ 1 := fun q => by
        have u := t3.2.2.2
        rw [q, e1] at u
        exact absurd u (by decide)
      have n2 : F 3 ≠ 2 := fun q => by
        have u := t3.2.2.2
        rw [q, e2] at u
        exact absurd u (by decide)
      have n5 : F 3 ≠ 5 := fun q => by
        have u := t3.2.2.2
        rw [q, e5] at u
        exact absurd u (by decide)
      have s : F 3 = 4 ∨ F 3 = 6 ∨ F 3 = 7 := by omega
      rcases s with e3 | e3 | e3
      · have e4 : F 4 = 3 := by have u := t3.2.2.2; rw [e3] at u; exact u
        have n0 : F 6 ≠ 0 := fun q => by
          have u := t6.2.2.2
          rw [q, e0] at u
          exact absurd u (by decide)
        have n1 : F 6 ≠ 1 := fun q => by
          have u := t6.2.2.2
          rw [q, e1] at u
          exact absurd u (by decide)
        have n2 : F 6 ≠ 2 := fun q => by
          have u := t6.2.2.2
          rw [q, e2] at u
          exact absurd u (by decide)
        have n3 : F 6 ≠ 3 := fun q => by
          have u := t6.2.2.2
          rw [q, e3] at u
          exact absurd u (by decide)
        have n4 : F 6 ≠ 4 := fun q => by
          have u := t6.2.2.2
          rw [q, e4] at u
          exact absurd u (by decide)
        have n5 : F 6 ≠ 5 := fun q => by
          have u := t6.2.2.2
          rw [q, e5] at u
          exact absurd u (by decide)
        have e6 : F 6 = 7 := by omega
        have e7 : F 7 = 6 := by have u := t6.2.2.2; rw [e6] at u; exact u
        exact pr_l4 21 e0 e1 e2 e3 e4 e5 e6 e7 rfl (by decide)
      · have e6 : F 6 = 3 := by have u := t3.2.2.2; rw [e3] at u; exact u
        have n0 : F 4 ≠ 0 := fun q => by
          have u := t4.2.2.2
          rw [q, e0] at u
          exact absurd u (by decide)
        have n1 : F 4 ≠ 1 := fun q => by
          have u := t4.2.2.2
          rw [q, e1] at u
          exact absurd u (by decide)
        have n2 : F 4 ≠ 2 := fun q => by
          have u := t4.2.2.2
          rw [q, e2] at u
          exact absurd u (by decide)
        have n3 : F 4 ≠ 3 := fun q => by
          have u := t4.2.2.2
          rw [q, e3] at u
          exact absurd u (by decide)
        have n5 : F 4 ≠ 5 := fun q => by
          have u := t4.2.2.2
          rw [q, e5] at u
          exact absurd u (by decide)
        have n6 : F 4 ≠ 6 := fun q => by
          have u := t4.2.2.2
          rw [q, e6] at u
          exact absurd u (by decide)
        have e4 : F 4 = 7 := by omega
        have e7 : F 7 = 4 := by have u := t4.2.2.2; rw [e4] at u; exact u
        exact pr_l4 22 e0 e1 e2 e3 e4 e5 e6 e7 rfl (by decide)
      · have e7 : F 7 = 3 := by have u := t3.2.2.2; rw [e3] at u; exact u
        have n0 : F 4 ≠ 0 := fun q => by
          have u := t4.2.2.2
          rw [q, e0] at u
          exact absurd u (by decide)
        have n1 : F 4 ≠ 1 := fun q => by
          have u := t4.2.2.2
          rw [q, e1] at u
          exact absurd u (by decide)
        have n2 : F 4 ≠ 2 := fun q => by
          have u := t4.2.2.2
          rw [q, e2] at u
          exact absurd u (by decide)
        have n3 : F 4 ≠ 3 := fun q => by
          have u := t4.2.2.2
          rw [q, e3] at u
          exact absurd u (by decide)
        have n5 : F 4 ≠ 5 := fun q => by
          have u := t4.2.2.2
          rw [q, e5] at u
          exact absurd u (by decide)
        have n7 : F 4 ≠ 7 := fun q => by
          have u := t4.2.2.2
          rw [q, e7] at u
          exact absurd u (by decide)
        have e4 : F 4 = 6 := by omega
        have e6 : F 6 = 4 := by have u := t4.2.2.2; rw [e4] at u; exact u
        exact pr_l4 23 e0 e1 e2 e3 e4 e5 e6 e7 rfl (by decide)
    · have e6 : F 6 = 1 := by have u := t1.2.2.2; rw [e1] at u; exact u
      have n0 : F 3 ≠ 0 := fun q => by
        have u := t3.2.2.2
        rw [q, e0] at u
        exact absurd u (by decide)
      have n1 : F 3 ≠ 1 := fun q => by
        have u := t3.2.2.2
        rw [q, e1] at u
        exact absurd u (by decide)
      have n2 : F 3 ≠ 2 := fun q => by
        have u := t3.2.2.2
        rw [q, e2] at u
        exact absurd u (by decide)
      have n6 : F 3 ≠ 6 := fun q => by
        have u := t3.2.2.2
        rw [q, e6] at u
        exact absurd u (by decide)
      have s : F 3 = 4 ∨ F 3 = 5 ∨ F 3 = 7 := by omega
      rcases s with e3 | e3 | e3
      · have e4 : F 4 = 3 := by have u := t3.2.2.2; rw [e3] at u; exact u
        have n0 : F 5 ≠ 0 := fun q => by
          have u := t5.2.2.2
          rw [q, e0] at u
          exact absurd u (by decide)
        have n1 : F 5 ≠ 1 := fun q => by
          have u := t5.2.2.2
          rw [q, e1] at u
          exact absurd u (by decide)
        have n2 : F 5 ≠ 2 := fun q => by
          have u := t5.2.2.2
          rw [q, e2] at u
          exact absurd u (by decide)
        have n3 : F 5 ≠ 3 := fun q => by
          have u := t5.2.2.2
          rw [q, e3] at u
          exact absurd u (by decide)
        have n4 : F 5 ≠ 4 := fun q => by
          have u := t5.2.2.2
          rw [q, e4] at u
          exact absurd u (by decide)
        have n6 : F 5 ≠ 6 := fun q => by
          have u := t5.2.2.2
          rw [q, e6] at u
          exact absurd u (by decide)
        have e5 : F 5 = 7 := by omega
        have e7 : F 7 = 5 := by have u := t5.2.2.2; rw [e5] at u; exact u
        exact pr_l4 24 e0 e1 e2 e3 e4 e5 e6 e7 rfl (by decide)
      · have e5 : F 5 = 3 := by have u := t3.2.2.2; rw [e3] at u; exact u
        have n0 : F 4 ≠ 0 := fun q => by
          have u := t4.2.2.2
          rw [q, e0] at u
          exact absurd u (by decide)
        have n1 : F 4 ≠ 1 := fun q => by
          have u := t4.2.2.2
          rw [q, e1] at u
          exact absurd u (by decide)
        have n2 : F 4 ≠ 2 := fun q => by
          have u := t4.2.2.2
          rw [q, e2] at u
          exact absurd u (by decide)
        have n3 : F 4 ≠ 3 := fun q => by
          have u := t4.2.2.2
          rw [q, e3] at u
          exact absurd u (by decide)
        have n5 : F 4 ≠ 5 := fun q => by
          have u := t4.2.2.2
          rw [q, e5] at u
          exact absurd u (by decide)
        have n6 : F 4 ≠ 6 := fun q => by
          have u := t4.2.2.2
          rw [q, e6] at u
          exact absurd u (by decide)
        have e4 : F 4 = 7 := by omega
        have e7 : F 7 = 4 := by have u := t4.2.2.2; rw [e4] at u; exact u
        exact pr_l4 25 e0 e1 e2 e3 e4 e5 e6 e7 rfl (by decide)
      · have e7 : F 7 = 3 := by have u := t3.2.2.2; rw [e3] at u; exact u
        have n0 : F 4 ≠ 0 := fun q => by
          have u := t4.2.2.2
          rw [q, e0] at u
          exact absurd u (by decide)
        have n1 : F 4 ≠ 1 := fun q => by
          have u := t4.2.2.2
          rw [q, e1] at u
          exact absurd u (by decide)
        have n2 : F 4 ≠ 2 := fun q => by
          have u := t4.2.2.2
          rw [q, e2] at u
          exact absurd u (by decide)
        have n3 : F 4 ≠ 3 := fun q => by
          have u := t4.2.2.2
          rw [q, e3] at u
          exact absurd u (by decide)
        have n6 : F 4 ≠ 6 := fun q => by
          have u := t4.2.2.2
          rw [q, e6] at u
          exact absurd u (by decide)
        have n7 : F 4 ≠ 7 := fun q => by
          have u := t4.2.2.2
          rw [q, e7] at u
          exact absurd u (by decide)
        have e4 : F 4 = 5 := by omega
        have e5 : F 5 = 4 := by have u := t4.2.2.2; rw [e4] at u; exact u
        exact pr_l4 26 e0 e1 e2 e3 e4 e5 e6 e7 rfl (by decide)
    · have e7 : F 7 = 1 := by have u := t1.2.2.2; rw [e1] at u; exact u
      have n0 : F 3 ≠ 0 := fun q => by
        have u := t3.2.2.2
        rw [q, e0] at u
        exact absurd u (by decide)
      have n1 : F 3 ≠ 1 := fun q => by
        have u := t3.2.2.2
        rw [q, e1] at u
        exact absurd u (by decide)
      have n2 : F 3 ≠ 2 := fun q => by
        have u := t3.2.2.2
        rw [q, e2] at u
        exact absurd u (by decide)
      have n7 : F 3 ≠ 7 := fun q => by
        have u := t3.2.2.2
        rw [q, e7] at u
        exact absurd u (by decide)
      have s : F 3 = 4 ∨ F 3 = 5 ∨ F 3 = 6 := by omega
      rcases s with e3 | e3 | e3
      · have e4 : F 4 = 3 := by have u := t3.2.2.2; rw [e3] at u; exact u
        have n0 : F 5 ≠ 0 := fun q => by
          have u := t5.2.2.2
          rw [q, e0] at u
          exact absurd u (by decide)
        have n1 : F 5 ≠ 1 := fun q => by
          have u := t5.2.2.2
          rw [q, e1] at u
          exact absurd u (by decide)
        have n2 : F 5 ≠ 2 := fun q => by
          have u := t5.2.2.2
          rw [q, e2] at u
          exact absurd u (by decide)
        have n3 : F 5 ≠ 3 := fun q => by
          have u := t5.2.2.2
          rw [q, e3] at u
          exact absurd u (by decide)
        have n4 : F 5 ≠ 4 := fun q => by
          have u := t5.2.2.2
          rw [q, e4] at u
          exact absurd u (by decide)
        have n7 : F 5 ≠ 7 := fun q => by
          have u := t5.2.2.2
          rw [q, e7] at u
          exact absurd u (by decide)
        have e5 : F 5 = 6 := by omega
        have e6 : F 6 = 5 := by have u := t5.2.2.2; rw [e5] at u; exact u
        exact pr_l4 27 e0 e1 e2 e3 e4 e5 e6 e7 rfl (by decide)
      · have e5 : F 5 = 3 := by have u := t3.2.2.2; rw [e3] at u; exact u
        have n0 : F 4 ≠ 0 := fun q => by
          have u := t4.2.2.2
          rw [q, e0] at u
          exact absurd u (by decide)
        have n1 : F 4 ≠ 1 := fun q => by
          have u := t4.2.2.2
          rw [q, e1] at u
          exact absurd u (by decide)
        have n2 : F 4 ≠ 2 := fun q => by
          have u := t4.2.2.2
          rw [q, e2] at u
          exact absurd u (by decide)
        have n3 : F 4 ≠ 3 := fun q => by
          have u := t4.2.2.2
          rw [q, e3] at u
          exact absurd u (by decide)
        have n5 : F 4 ≠ 5 := fun q => by
          have u := t4.2.2.2
          rw [q, e5] at u
          exact absurd u (by decide)
        have n7 : F 4 ≠ 7 := fun q => by
          have u := t4.2.2.2
          rw [q, e7] at u
          exact absurd u (by decide)
        have e4 : F 4 = 6 := by omega
        have e6 : F 6 = 4 := by have u := t4.2.2.2; rw [e4] at u; exact u
        exact pr_l4 28 e0 e1 e2 e3 e4 e5 e6 e7 rfl (by decide)
      · have e6 : F 6 = 3 := by have u := t3.2.2.2; rw [e3] at u; exact u
        have n0 : F 4 ≠ 0 := fun q => by
          have u := t4.2.2.2
          rw [q, e0] at u
          exact absurd u (by decide)
        have n1 : F 4 ≠ 1 := fun q => by
          have u := t4.2.2.2
          rw [q, e1] at u
          exact absurd u (by decide)
        have n2 : F 4 ≠ 2 := fun q => by
          have u := t4.2.2.2
          rw [q, e2] at u
          exact absurd u (by decide)
        have n3 : F 4 ≠ 3 := fun q => by
          have u := t4.2.2.2
          rw [q, e3] at u
          exact absurd u (by decide)
        have n6 : F 4 ≠ 6 := fun q => by
          have u := t4.2.2.2
          rw [q, e6] at u
          exact absurd u (by decide)
        have n7 : F 4 ≠ 7 := fun q => by
          have u := t4.2.2.2
          rw [q, e7] at u
          exact absurd u (by decide)
        have e4 : F 4 = 5 := by omega
        have e5 : F 5 = 4 := by have u := t4.2.2.2; rw [e4] at u; exact u
        exact pr_l4 29 e0 e1 e2 e3 e4 e5 e6 e7 rfl (by decide)
  · have e3 : F 3 = 0 := by have u := t0.2.2.2; rw [e0] at u; exact u
    have n0 : F 1 ≠ 0 := fun q => by
      have u := t1.2.2.2
      rw [q, e0] at u
      exact absurd u (by decide)
    have n3 : F 1 ≠ 3 := fun q => by
      have u := t1.2.2.2
      rw [q, e3] at u
      exact absurd u (by decide)
    have s : F 1 = 2 ∨ F 1 = 4 ∨ F 1 = 5 ∨ F 1 = 6 ∨ F 1 = 7 := by omega
    rcases s with e1 | e1 | e1 | e1 | e1
    · have e2 : F 2 = 1 := by have u := t1.2.2.2; rw [e1] at u; exact u
      have n0 : F 4 ≠ 0 := fun q => by
        have u := t4.2.2.2
        rw [q, e0] at u
        exact absurd u (by decide)
      have n1 : F 4 ≠ 1 := fun q => by
        have u := t4.2.2.2
        rw [q, e1] at u
        exact absurd u (by decide)
      have n2 : F 4 ≠ 2 := fun q => by
        have u := t4.2.2.2
        rw [q, e2] at u
        exact absurd u (by decide)
      have n3 : F 4 ≠ 3 := fun q => by
        have u := t4.2.2.2
        rw [q, e3] at u
        exact absurd u (by decide)
      have s : F 4 = 5 ∨ F 4 = 6 ∨ F 4 = 7 := by omega
      rcases s with e4 | e4 | e4
      · have e5 : F 5 = 4 := by have u := t4.2.2.2; rw [e4] at u; exact u
        have n0 : F 6 ≠ 0 := fun q => by
          have u := t6.2.2.2
          rw [q, e0] at u
          exact absurd u (by decide)
        have n1 : F 6 ≠ 1 := fun q => by
          have u := t6.2.2.2
          rw [q, e1] at u
          exact absurd u (by decide)
        have n2 : F 6 ≠ 2 := fun q => by
          have u := t6.2.2.2
          rw [q, e2] at u
          exact absurd u (by decide)
        have n3 : F 6 ≠ 3 := fun q => by
          have u := t6.2.2.2
          rw [q, e3] at u
          exact absurd u (by decide)
        have n4 : F 6 ≠ 4 := fun q => by
          have u := t6.2.2.2
          rw [q, e4] at u
          exact absurd u (by decide)
        have n5 : F 6 ≠ 5 := fun q => by
          have u := t6.2.2.2
          rw [q, e5] at u
          exact absurd u (by decide)
        have e6 : F 6 = 7 := by omega
        have e7 : F 7 = 6 := by have u := t6.2.2.2; rw [e6] at u; exact u
        exact pr_l4 30 e0 e1 e2 e3 e4 e5 e6 e7 rfl (by decide)
      · have e6 : F 6 = 4 := by have u := t4.2.2.2; rw [e4] at u; exact u
        have n0 : F 5 ≠ 0 := fun q => by
          have u := t5.2.2.2
          rw [q, e0] at u
          exact absurd u (by decide)
        have n1 : F 5 ≠ 1 := fun q => by
          have u := t5.2.2.2
          rw [q, e1] at u
          exact absurd u (by decide)
        have n2 : F 5 ≠ 2 := fun q => by
          have u := t5.2.2.2
          rw [q, e2] at u
          exact absurd u (by decide)
        have n3 : F 5 ≠ 3 := fun q => by
          have u := t5.2.2.2
          rw [q, e3] at u
          exact absurd u (by decide)
        have n4 : F 5 ≠ 4 := fun q => by
          have u := t5.2.2.2
          rw [q, e4] at u
          exact absurd u (by decide)
        have n6 : F 5 ≠ 6 := fun q => by
          have u := t5.2.2.2
          rw [q, e6] at u
          exact absurd u (by decide)
        have e5 : F 5 = 7 := by omega
        have e7 : F 7 = 5 := by have u := t5.2.2.2; rw [e5] at u; exact u
        exact pr_l4 31 e0 e1 e2 e3 e4 e5 e6 e7 rfl (by decide)
      · have e7 : F 7 = 4 := by have u := t4.2.2.2; rw [e4] at u; exact u
        have n0 : F 5 ≠ 0 := fun q => by
          have u := t5.2.2.2
          rw [q, e0] at u
          exact absurd u (by decide)
        have n1 : F 5 ≠ 1 := fun q => by
          have u := t5.2.2.2
          rw [q, e1] at u
          exact absurd u (by decide)
        have n2 : F 5 ≠ 2 := fun q => by
          have u := t5.2.2.2
          rw [q, e2] at u
          exact absurd u (by decide)
        have n3 : F 5 ≠ 3 := fun q => by
          have u := t5.2.2.2
          rw [q, e3] at u
          exact absurd u (by decide)
        have n4 : F 5 ≠ 4 := fun q => by
          have u := t5.2.2.2
          rw [q, e4] at u
          exact absurd u (by decide)
        have n7 : F 5 ≠ 7 := fun q => by
          have u := t5.2.2.2
          rw [q, e7] at u
          exact absurd u (by decide)
        have e5 : F 5 = 6 := by omega
        have e6 : F 6 = 5 := by have u := t5.2.2.2; rw [e5] at u; exact u
        exact pr_l4 32 e0 e1 e2 e3 e4 e5 e6 e7 rfl (by decide)
    · have e4 : F 4 = 1 := by have u := t1.2.2.2; rw [e1] at u; exact u
      have n0 : F 2 ≠ 0 := fun q => by
        have u := t2.2.2.2
        rw [q, e0] at u
        exact absurd u (by decide)
      have n1 : F 2 ≠ 1 := fun q => by
        have u := t2.2.2.2
        rw [q, e1] at u
        exact absurd u (by decide)
      have n3 : F 2 ≠ 3 := fun q => by
        have u := t2.2.2.2
        rw [q, e3] at u
        exact absurd u (by decide)
      have n4 : F 2 ≠ 4 := fun q => by
        have u := t2.2.2.2
        rw [q, e4] at u
        exact absurd u (by decide)
      have s : F 2 = 5 ∨ F 2 = 6 ∨ F 2 = 7 := by omega
      rcases s with e2 | e2 | e2
      · have e5 : F 5 = 2 := by have u := t2.2.2.2; rw [e2] at u; exact u
        have n0 : F 6 ≠ 0 := fun q => by
          have u := t6.2.2.2
          rw [q, e0] at u
          exact absurd u (by decide)
        have n1 : F 6 ≠ 1 := fun q => by
          have u := t6.2.2.2
          rw [q, e1] at u
          exact absurd u (by decide)
        have n2 : F 6 ≠ 2 := fun q => by
          have u := t6.2.2.2
          rw [q, e2] at u
          exact absurd u (by decide)
        have n3 : F 6 ≠ 3 := fun q => by
          have u := t6.2.2.2
          rw [q, e3] at u
          exact absurd u (by decide)
        have n4 : F 6 ≠ 4 := fun q => by
          have u := t6.2.2.2
          rw [q, e4] at u
          exact absurd u (by decide)
        have n5 : F 6 ≠ 5 := fun q => by
          have u := t6.2.2.2
          rw [q, e5] at u
          exact absurd u (by decide)
        have e6 : F 6 = 7 := by omega
        have e7 : F 7 = 6 := by have u := t6.2.2.2; rw [e6] at u; exact u
        exact pr_l4 33 e0 e1 e2 e3 e4 e5 e6 e7 rfl (by decide)
      · have e6 : F 6 = 2 := by have u := t2.2.2.2; rw [e2] at u; exact u
        have n0 : F 5 ≠ 0 := fun q => by
          have u := t5.2.2.2
          rw [q, e0] at u
          exact absurd u (by decide)
        have n1 : F 5 ≠ 1 := fun q => by
          have u := t5.2.2.2
          rw [q, e1] at u
          exact absurd u (by decide)
        have n2 : F 5 ≠ 2 := fun q => by
          have u := t5.2.2.2
          rw [q, e2] at u
          exact absurd u (by decide)
        have n3 : F 5 ≠ 3 := fun q => by
          have u := t5.2.2.2
          rw [q, e3] at u
          exact absurd u (by decide)
        have n4 : F 5 ≠ 4 := fun q => by
          have u := t5.2.2.2
          rw [q, e4] at u
          exact absurd u (by decide)
        have n6 : F 5 ≠ 6 := fun q => by
          have u := t5.2.2.2
          rw [q, e6] at u
          exact absurd u (by decide)
        have e5 : F 5 = 7 := by omega
        have e7 : F 7 = 5 := by have u := t5.2.2.2; rw [e5] at u; exact u
        exact pr_l4 34 e0 e1 e2 e3 e4 e5 e6 e7 rfl (by decide)
      · have e7 : F 7 = 2 := by have u := t2.2.2.2; rw [e2] at u; exact u
        have n0 : F 5 ≠ 0 := fun q => by
          have u := t5.2.2.2
          rw [q, e0] at u
          exact absurd u (by decide)
        have n1 : F 5 ≠ 1 := fun q => by
          have u := t5.2.2.2
          rw [q, e1] at u
          exact absurd u (by decide)
        have n2 : F 5 ≠ 2 := fun q => by
          have u := t5.2.2.2
          rw [q, e2] at u
          exact absurd u (by decide)
        have n3 : F 5 ≠ 3 := fun q => by
          have u := t5.2.2.2
          rw [q, e3] at u
          exact absurd u (by decide)
        have n4 : F 5 ≠ 4 := fun q => by
          have u := t5.2.2.2
          rw [q, e4] at u
          exact absurd u (by decide)
        have n7 : F 5 ≠ 7 := fun q => by
          have u := t5.2.2.2
          rw [q, e7] at u
          exact absurd u (by decide)
        have e5 : F 5 = 6 := by omega
        have e6 : F 6 = 5 := by have u := t5.2.2.2; rw [e5] at u; exact u
        exact pr_l4 35 e0 e1 e2 e3 e4 e5 e6 e7 rfl (by decide)
    · have e5 : F 5 = 1 := by have u := t1.2.2.2; rw [e1] at u; exact u
      have n0 : F 2 ≠ 0 := fun q => by
        have u := t2.2.2.2
        rw [q, e0] at u
        exact absurd u (by decide)
      have n1 : F 2 ≠ 1 := fun q => by
        have u := t2.2.2.2
        rw [q, e1] at u
        exact absurd u (by decide)
      have n3 : F 2 ≠ 3 := fun q => by
        have u := t2.2.2.2
        rw [q, e3] at u
        exact absurd u (by decide)
      have n5 : F 2 ≠ 5 := fun q => by
        have u := t2.2.2.2
        rw [q, e5] at u
        exact absurd u (by decide)
      have s : F 2 = 4 ∨ F 2 = 6 ∨ F 2 = 7 := by omega
      rcases s with e2 | e2 | e2
      · have e4 : F 4 = 2 := by have u := t2.2.2.2; rw [e2] at u; exact u
        have n0 : F 6 ≠ 0 := fun q => by
          have u := t6.2.2.2
          rw [q, e0] at u
          exact absurd u (by decide)
        have n1 : F 6 ≠ 1 := fun q => by
          have u := t6.2.2.2
          rw [q, e1] at u
          exact absurd u (by decide)
        have n2 : F 6 ≠ 2 := fun q => by
          have u := t6.2.2.2
          rw [q, e2] at u
          exact absurd u (by decide)
        have n3 : F 6 ≠ 3 := fun q => by
          have u := t6.2.2.2
          rw [q, e3] at u
          exact absurd u (by decide)
        have n4 : F 6 ≠ 4 := fun q => by
          have u := t6.2.2.2
          rw [q, e4] at u
          exact absurd u (by decide)
        have n5 : F 6 ≠ 5 := fun q => by
          have u := t6.2.2.2
          rw [q, e5] at u
          exact absurd u (by decide)
        have e6 : F 6 = 7 := by omega
        have e7 : F 7 = 6 := by have u := t6.2.2.2; rw [e6] at u; exact u
        exact pr_l4 36 e0 e1 e2 e3 e4 e5 e6 e7 rfl (by decide)
      · have e6 : F 6 = 2 := by have u := t2.2.2.2; rw [e2] at u; exact u
        have n0 : F 4 ≠ 0 := fun q => by
          have u := t4.2.2.2
          rw [q, e0] at u
          exact absurd u (by decide)
        have n1 : F 4 ≠ 1 := fun q => by
          have u := t4.2.2.2
          rw [q, e1] at u
          exact absurd u (by decide)
        have n2 : F 4 ≠ 2 := fun q => by
          have u := t4.2.2.2
          rw [q, e2] at u
          exact absurd u (by decide)
        have n3 : F 4 ≠ 3 := fun q => by
          have u := t4.2.2.2
          rw [q, e3] at u
          exact absurd u (by decide)
        have n5 : F 4 ≠ 5 := fun q => by
          have u := t4.2.2.2
          rw [q, e5] at u
          exact absurd u (by decide)
        have n6 : F 4 ≠ 6 := fun q => by
          have u := t4.2.2.2
          rw [q, e6] at u
          exact absurd u (by decide)
        have e4 : F 4 = 7 := by omega
        have e7 : F 7 = 4 := by have u := t4.2.2.2; rw [e4] at u; exact u
        exact pr_l4 37 e0 e1 e2 e3 e4 e5 e6 e7 rfl (by decide)
      · have e7 : F 7 = 2 := by have u := t2.2.2.2; rw [e2] at u; exact u
        have n0 : F 4 ≠ 0 := fun q => by
          have u := t4.2.2.2
          rw [q, e0] at u
          exact absurd u (by decide)
        have n1 : F 4 ≠ 1 := fun q => by
          have u := t4.2.2.2
          rw [q, e1] at u
          exact absurd u (by decide)
        have n2 : F 4 ≠ 2 := fun q => by
          have u := t4.2.2.2
          rw [q, e2] at u
          exact absurd u (by decide)
        have n3 : F 4 ≠ 3 := fun q => by
          have u := t4.2.2.2
          rw [q, e3] at u
          exact absurd u (by decide)
        have n5 : F 4 ≠ 5 := fun q => by
          have u := t4.2.2.2
          rw [q, e5] at u
          exact absurd u (by decide)
        have n7 : F 4 ≠ 7 := fun q => by
          have u := t4.2.2.2
          rw [q, e7] at u
          exact absurd u (by decide)
        have e4 : F 4 = 6 := by omega
        have e6 : F 6 = 4 := by have u := t4.2.2.2; rw [e4] at u; exact u
        exact pr_l4 38 e0 e1 e2 e3 e4 e5 e6 e7 rfl (by decide)
    · have e6 : F 6 = 1 := by have u := t1.2.2.2; rw [e1] at u; exact u
      have n0 : F 2 ≠ 0 := fun q => by
        have u := t2.2.2.2
        rw [q, e0] at u
        exact absurd u (by decide)
      have n1 : F 2 ≠ 1 := fun q => by
        have u := t2.2.2.2
        rw [q, e1] at u
        exact absurd u (by decide)
      have n3 : F 2 ≠ 3 := fun q => by
        have u := t2.2.2.2
        rw [q, e3] at u
        exact absurd u (by decide)
      have n6 : F 2 ≠ 6 := fun q => by
        have u := t2.2.2.2
        rw [q, e6] at u
        exact absurd u (by decide)
      have s : F 2 = 4 ∨ F 2 = 5 ∨ F 2 = 7 := by omega
      rcases s with e2 | e2 | e2
      · have e4 : F 4 = 2 := by have u := t2.2.2.2; rw [e2] at u; exact u
        have n0 : F 5 ≠ 0 := fun q => by
          have u := t5.2.2.2
          rw [q, e0] at u
          exact absurd u (by decide)
        have n1 : F 5 ≠ 1 := fun q => by
          have u := t5.2.2.2
          rw [q, e1] at u
          exact absurd u (by decide)
        have n2 : F 5 ≠ 2 := fun q => by
          have u := t5.2.2.2
          rw [q, e2] at u
          exact absurd u (by decide)
        have n3 : F 5 ≠ 3 := fun q => by
          have u := t5.2.2.2
          rw [q, e3] at u
          exact absurd u (by decide)
        have n4 : F 5 ≠ 4 := fun q => by
          have u := t5.2.2.2
          rw [q, e4] at u
          exact absurd u (by decide)
        have n6 : F 5 ≠ 6 := fun q => by
          have u := t5.2.2.2
          rw [q, e6] at u
          exact absurd u (by decide)
        have e5 : F 5 = 7 := by omega
        have e7 : F 7 = 5 := by have u := t5.2.2.2; rw [e5] at u; exact u
        exact pr_l4 39 e0 e1 e2 e3 e4 e5 e6 e7 rfl (by decide)
      · have e5 : F 5 = 2 := by have u := t2.2.2.2; rw [e2] at u; exact u
        have n0 : F 4 ≠ 0 := fun q => by
          have u := t4.2.2.2
          rw [q, e0] at u
          exact absurd u (by decide)
        have n1 : F 4 ≠ 1 := fun q => by
          have u := t4.2.2.2
          rw [q, e1] at u
          exact absurd u (by decide)
        have n2 : F 4 ≠ 2 := fun q => by
          have u := t4.2.2.2
          rw [q, e2] at u
          exact absurd u (by decide)
        have n3 : F 4 ≠ 3 := fun q => by
          have u := t4.2.2.2
          rw [q, e3] at u
          exact absurd u (by decide)
        have n5 : F 4 ≠ 5 := fun q => by
          have u := t4.2.2.2
          rw [q, e5] at u
          exact absurd u (by decide)
        have n6 : F 4 ≠ 6 := fun q => by
          have u := t4.2.2.2
          rw [q, e6] at u
          exact absurd u (by decide)
        have e4 : F 4 = 7 := by omega
        have e7 : F 7 = 4 := by have u := t4.2.2.2; rw [e4] at u; exact u
        exact pr_l4 40 e0 e1 e2 e3 e4 e5 e6 e7 rfl (by decide)
      · have e7 : F 7 = 2 := by have u := t2.2.2.2; rw [e2] at u; exact u
        have n0 : F 4 ≠ 0 := fun q => by
          have u := t4.2.2.2
          rw [q, e0] at u
          exact absurd u (by decide)
        have n1 : F 4 ≠ 1 := fun q => by
          have u := t4.2.2.2
          rw [q, e1] at u
          exact absurd u (by decide)
        have n2 : F 4 ≠ 2 := fun q => by
          have u := t4.2.2.2
          rw [q, e2] at u
          exact absurd u (by decide)
        have n3 : F 4 ≠ 3 := fun q => by
          have u := t4.2.2.2
          rw [q, e3] at u
          exact absurd u (by decide)
        have n6 : F 4 ≠ 6 := fun q => by
          have u := t4.2.2.2
          rw [q, e6] at u
          exact absurd u (by decide)
        have n7 : F 4 ≠ 7 := fun q => by
          have u := t4.2.2.2
          rw [q, e7] at u
          exact absurd u (by decide)
        have e4 : F 4 = 5 := by omega
        have e5 : F 5 = 4 := by have u := t4.2.2.2; rw [e4] at u; exact u
        exact pr_l4 41 e0 e1 e2 e3 e4 e5 e6 e7 rfl (by decide)
    · have e7 : F 7 = 1 := by have u := t1.2.2.2; rw [e1] at u; exact u
      have n0 : F 2 ≠ 0 := fun q => by
        have u := t2.2.2.2
        rw [q, e0] at u
        exact absurd u (by decide)
      have n1 : F 2 ≠ 1 := fun q => by
        have u := t2.2.2.2
        rw [q, e1] at u
        exact absurd u (by decide)
      have n3 : F 2 ≠ 3 := fun q => by
        have u := t2.2.2.2
        rw [q, e3] at u
        exact absurd u (by decide)
      have n7 : F 2 ≠ 7 := fun q => by
        have u := t2.2.2.2
        rw [q, e7] at u
        exact absurd u (by decide)
      have s : F 2 = 4 ∨ F 2 = 5 ∨ F 2 = 6 := by omega
      rcases s with e2 | e2 | e2
      · have e4 : F 4 = 2 := by have u := t2.2.2.2; rw [e2] at u; exact u
        have n0 : F 5 ≠ 0 := fun q => by
          have u := t5.2.2.2
          rw [q, e0] at u
          exact absurd u (by decide)
        have n1 : F 5 ≠ 1 := fun q => by
          have u := t5.2.2.2
          rw [q, e1] at u
          exact absurd u (by decide)
        have n2 : F 5 ≠ 2 := fun q => by
          have u := t5.2.2.2
          rw [q, e2] at u
          exact absurd u (by decide)
        have n3 : F 5 ≠ 3 := fun q => by
          have u := t5.2.2.2
          rw [q, e3] at u
          exact absurd u (by decide)
        have n4 : F 5 ≠ 4 := fun q => by
          have u := t5.2.2.2
          rw [q, e4] at u
          exact absurd u (by decide)
        have n7 : F 5 ≠ 7 := fun q => by
          have u := t5.2.2.2
          rw [q, e7] at u
          exact absurd u (by decide)
        have e5 : F 5 = 6 := by omega
        have e6 : F 6 = 5 := by have u := t5.2.2.2; rw [e5] at u; exact u
        exact pr_l4 42 e0 e1 e2 e3 e4 e5 e6 e7 rfl (by decide)
      · have e5 : F 5 = 2 := by have u := t2.2.2.2; rw [e2] at u; exact u
        have n0 : F 4 ≠ 0 := fun q => by
          have u := t4.2.2.2
          rw [q, e0] at u
          exact absurd u (by decide)
        have n1 : F 4 ≠ 1 := fun q => by
          have u := t4.2.2.2
          rw [q, e1] at u
          exact absurd u (by decide)
        have n2 : F 4 ≠ 2 := fun q => by
          have u := t4.2.2.2
          rw [q, e2] at u
          exact absurd u (by decide)
        have n3 : F 4 ≠ 3 := fun q => by
          have u := t4.2.2.2
          rw [q, e3] at u
          exact absurd u (by decide)
        have n5 : F 4 ≠ 5 := fun q => by
          have u := t4.2.2.2
          rw [q, e5] at u
          exact absurd u (by decide)
        have n7 : F 4 ≠ 7 := fun q => by
          have u := t4.2.2.2
          rw [q, e7] at u
          exact absurd u (by decide)
        have e4 : F 4 = 6 := by omega
        have e6 : F 6 = 4 := by have u := t4.2.2.2; rw [e4] at u; exact u
        exact pr_l4 43 e0 e1 e2 e3 e4 e5 e6 e7 rfl (by decide)
      · have e6 : F 6 = 2 := by have u := t2.2.2.2; rw [e2] at u; exact u
        have n0 : F 4 ≠ 0 := fun q => by
          have u := t4.2.2.2
          rw [q, e0] at u
          exact absurd u (by decide)
        have n1 : F 4 ≠ 1 := fun q => by
          have u := t4.2.2.2
          rw [q, e1] at u
          exact absurd u (by decide)
        have n2 : F 4 ≠ 2 := fun q => by
          have u := t4.2.2.2
          rw [q, e2] at u
          exact absurd u (by decide)
        have n3 : F 4 ≠ 3 := fun q => by
          have u := t4.2.2.2
          rw [q, e3] at u
          exact absurd u (by decide)
        have n6 : F 4 ≠ 6 := fun q => by
          have u := t4.2.2.2
          rw [q, e6] at u
          exact absurd u (by decide)
        have n7 : F 4 ≠ 7 := fun q => by
          have u := t4.2.2.2
          rw [q, e7] at u
          exact absurd u (by decide)
        have e4 : F 4 = 5 := by omega
        have e5 : F 5 = 4 := by have u := t4.2.2.2; rw [e4] at u; exact u
        exact pr_l4 44 e0 e1 e2 e3 e4 e5 e6 e7 rfl (by decide)
  · have e4 : F 4 = 0 := by have u := t0.2.2.2; rw [e0] at u; exact u
    have n0 : F 1 ≠ 0 := fun q => by
      have u := t1.2.2.2
      rw [q, e0] at u
      exact absurd u (by decide)
    have n4 : F 1 ≠ 4 := fun q => by
      have u := t1.2.2.2
      rw [q, e4] at u
      exact absurd u (by decide)
    have s : F 1 = 2 ∨ F 1 = 3 ∨ F 1 = 5 ∨ F 1 = 6 ∨ F 1 = 7 := by omega
    rcases s with e1 | e1 | e1 | e1 | e1
    · have e2 : F 2 = 1 := by have u := t1.2.2.2; rw [e1] at u; exact u
      have n0 : F 3 ≠ 0 := fun q => by
        have u := t3.2.2.2
        rw [q, e0] at u
        exact absurd u (by decide)
      have n1 : F 3 ≠ 1 := fun q => by
        have u := t3.2.2.2
        rw [q, e1] at u
        exact absurd u (by decide)
      have n2 : F 3 ≠ 2 := fun q => by
        have u := t3.2.2.2
        rw [q, e2] at u
        exact absurd u (by decide)
      have n4 : F 3 ≠ 4 := fun q => by
        have u := t3.2.2.2
        rw [q, e4] at u
        exact absurd u (by decide)
      have s : F 3 = 5 ∨ F 3 = 6 ∨ F 3 = 7 := by omega
      rcases s with e3 | e3 | e3
      · have e5 : F 5 = 3 := by have u := t3.2.2.2; rw [e3] at u; exact u
        have n0 : F 6 ≠ 0 := fun q => by
          have u := t6.2.2.2
          rw [q, e0] at u
          exact absurd u (by decide)
        have n1 : F 6 ≠ 1 := fun q => by
          have u := t6.2.2.2
          rw [q, e1] at u
          exact absurd u (by decide)
        have n2 : F 6 ≠ 2 := fun q => by
          have u := t6.2.2.2
          rw [q, e2] at u
          exact absurd u (by decide)
        have n3 : F 6 ≠ 3 := fun q => by
          have u := t6.2.2.2
          rw [q, e3] at u
          exact absurd u (by decide)
        have n4 : F 6 ≠ 4 := fun q => by
          have u := t6.2.2.2
          rw [q, e4] at u
          exact absurd u (by decide)
        have n5 : F 6 ≠ 5 := fun q => by
          have u := t6.2.2.2
          rw [q, e5] at u
          exact absurd u (by decide)
        have e6 : F 6 = 7 := by omega
        have e7 : F 7 = 6 := by have u := t6.2.2.2; rw [e6] at u; exact u
        exact pr_l4 45 e0 e1 e2 e3 e4 e5 e6 e7 rfl (by decide)
      · have e6 : F 6 = 3 := by have u := t3.2.2.2; rw [e3] at u; exact u
        have n0 : F 5 ≠ 0 := fun q => by
          have u := t5.2.2.2
          rw [q, e0] at u
          exact absurd u (by decide)
        have n1 : F 5 ≠ 1 := fun q => by
          have u := t5.2.2.2
          rw [q, e1] at u
          exact absurd u (by decide)
        have n2 : F 5 ≠ 2 := fun q => by
          have u := t5.2.2.2
          rw [q, e2] at u
          exact absurd u (by decide)
        have n3 : F 5 ≠ 3 := fun q => by
          have u := t5.2.2.2
          rw [q, e3] at u
          exact absurd u (by decide)
        have n4 : F 5 ≠ 4 := fun q => by
          have u := t5.2.2.2
          rw [q, e4] at u
          exact absurd u (by decide)
        have n6 : F 5 ≠ 6 := fun q => by
          have u := t5.2.2.2
          rw [q, e6] at u
          exact absurd u (by decide)
        have e5 : F 5 = 7 := by omega
        have e7 : F 7 = 5 := by have u := t5.2.2.2; rw [e5] at u; exact u
        exact pr_l4 46 e0 e1 e2 e3 e4 e5 e6 e7 rfl (by decide)
      · have e7 : F 7 = 3 := by have u := t3.2.2.2; rw [e3] at u; exact u
        have n0 : F 5 ≠ 0 := fun q => by
          have u := t5.2.2.2
          rw [q, e0] at u
          exact absurd u (by decide)
        have n1 : F 5 ≠ 1 := fun q => by
          have u := t5.2.2.2
          rw [q, e1] at u
          exact absurd u (by decide)
        have n2 : F 5 ≠ 2 := fun q => by
          have u := t5.2.2.2
          rw [q, e2] at u
          exact absurd u (by decide)
        have n3 : F 5 ≠ 3 := fun q => by
          have u := t5.2.2.2
          rw [q, e3] at u
          exact absurd u (by decide)
        have n4 : F 5 ≠ 4 := fun q => by
          have u := t5.2.2.2
          rw [q, e4] at u
          exact absurd u (by decide)
        have n7 : F 5 ≠ 7 := fun q => by
          have u := t5.2.2.2
          rw [q, e7] at u
          exact absurd u (by decide)
        have e5 : F 5 = 6 := by omega
        have e6 : F 6 = 5 := by have u := t5.2.2.2; rw [e5] at u; exact u
        exact pr_l4 47 e0 e1 e2 e3 e4 e5 e6 e7 rfl (by decide)
    · have e3 : F 3 = 1 := by have u := t1.2.2.2; rw [e1] at u; exact u
      have n0 : F 2 ≠ 0 := fun q => by
        have u := t2.2.2.2
        rw [q, e0] at u
        exact absurd u (by decide)
      have n1 : F 2 ≠ 1 := fun q => by
        have u := t2.2.2.2
        rw [q, e1] at u
        exact absurd u (by decide)
      have n3 : F 2 ≠ 3 := fun q => by
        have u := t2.2.2.2
        rw [q, e3] at u
        exact absurd u (by decide)
      have n4 : F 2 ≠ 4 := fun q => by
        have u := t2.2.2.2
        rw [q, e4] at u
        exact absurd u (by decide)
      have s : F 2 = 5 ∨ F 2 = 6 ∨ F 2 = 7 := by omega
      rcases s with e2 | e2 | e2
      · have e5 : F 5 = 2 := by have u := t2.2.2.2; rw [e2] at u; exact u
        have n0 : F 6 ≠ 0 := fun q => by
          have u := t6.2.2.2
          rw [q, e0] at u
          exact absurd u (by decide)
        have n1 : F 6 ≠ 1 := fun q => by
          have u := t6.2.2.2
          rw [q, e1] at u
          exact absurd u (by decide)
        have n2 : F 6 ≠ 2 := fun q => by
          have u := t6.2.2.2
          rw [q, e2] at u
          exact absurd u (by decide)
        have n3 : F 6 ≠ 3 := fun q => by
          have u := t6.2.2.2
          rw [q, e3] at u
          exact absurd u (by decide)
        have n4 : F 6 ≠ 4 := fun q => by
          have u := t6.2.2.2
          rw [q, e4] at u
          exact absurd u (by decide)
        have n5 : F 6 ≠ 5 := fun q => by
          have u := t6.2.2.2
          rw [q, e5] at u
          exact absurd u (by decide)
        have e6 : F 6 = 7 := by omega
        have e7 : F 7 = 6 := by have u := t6.2.2.2; rw [e6] at u; exact u
        exact pr_l4 48 e0 e1 e2 e3 e4 e5 e6 e7 rfl (by decide)
      · have e6 : F 6 = 2 := by have u := t2.2.2.2; rw [e2] at u; exact u
        have n0 : F 5 ≠ 0 := fun q => by
          have u := t5.2.2.2
          rw [q, e0] at u
          exact absurd u (by decide)
        have n1 : F 5 ≠ 1 := fun q => by
          have u := t5.2.2.2
          rw [q, e1] at u
          exact absurd u (by decide)
        have n2 : F 5 ≠ 2 := fun q => by
          have u := t5.2.2.2
          rw [q, e2] at u
          exact absurd u (by decide)
        have n3 : F 5 ≠ 3 := fun q => by
          have u := t5.2.2.2
          rw [q, e3] at u
          exact absurd u (by decide)
        have n4 : F 5 ≠ 4 := fun q => by
          have u := t5.2.2.2
          rw [q, e4] at u
          exact absurd u (by decide)
        have n6 : F 5 ≠ 6 := fun q => by
          have u := t5.2.2.2
          rw [q, e6] at u
          exact absurd u (by decide)
        have e5 : F 5 = 7 := by omega
        have e7 : F 7 = 5 := by have u := t5.2.2.2; rw [e5] at u; exact u
        exact pr_l4 49 e0 e1 e2 e3 e4 e5 e6 e7 rfl (by decide)
      · have e7 : F 7 = 2 := by have u := t2.2.2.2; rw [e2] at u; exact u
        have n0 : F 5 ≠ 0 := fun q => by
          have u := t5.2.2.2
          rw [q, e0] at u
          exact absurd u (by decide)
        have n1 : F 5 ≠ 1 := fun q => by
          have u := t5.2.2.2
          rw [q, e1] at u
          exact absurd u (by decide)
        have n2 : F 5 ≠ 2 := fun q => by
          have u := t5.2.2.2
          rw [q, e2] at u
          exact absurd u (by decide)
        have n3 : F 5 ≠ 3 := fun q => by
          have u := t5.2.2.2
          rw [q, e3] at u
          exact absurd u (by decide)
        have n4 : F 5 ≠ 4 := fun q => by
          have u := t5.2.2.2
          rw [q, e4] at u
          exact absurd u (by decide)
        have n7 : F 5 ≠ 7 := fun q => by
          have u := t5.2.2.2
          rw [q, e7] at u
          exact absurd u (by decide)
        have e5 : F 5 = 6 := by omega
        have e6 : F 6 = 5 := by have u := t5.2.2.2; rw [e5] at u; exact u
        exact pr_l4 50 e0 e1 e2 e3 e4 e5 e6 e7 rfl (by decide)
    · have e5 : F 5 = 1 := by have u := t1.2.2.2; rw [e1] at u; exact u
      have n0 : F 2 ≠ 0 := fun q => by
        have u := t2.2.2.2
        rw [q, e0] at u
        exact absurd u (by decide)
      have n1 : F 2 ≠ 1 := fun q => by
        have u := t2.2.2.2
        rw [q, e1] at u
        exact absurd u (by decide)
      have n4 : F 2 ≠ 4 := fun q => by
        have u := t2.2.2.2
        rw [q, e4] at u
        exact absurd u (by decide)
      have n5 : F 2 ≠ 5 := fun q => by
        have u := t2.2.2.2
        rw [q, e5] at u
        exact absurd u (by decide)
      have s : F 2 = 3 ∨ F 2 = 6 ∨ F 2 = 7 := by omega
      rcases s with e2 | e2 | e2
      · have e3 : F 3 = 2 := by have u := t2.2.2.2; rw [e2] at u; exact u
        have n0 : F 6 ≠ 0 := fun q => by
          have u := t6.2.2.2
          rw [q, e0] at u
          exact absurd u (by decide)
        have n1 : F 6 ≠ 1 := fun q => by
          have u := t6.2.2.2
          rw [q, e1] at u
          exact absurd u (by decide)
        have n2 : F 6 ≠ 2 := fun q => by
          have u := t6.2.2.2
          rw [q, e2] at u
          exact absurd u (by decide)
        have n3 : F 6 ≠ 3 := fun q => by
          have u := t6.2.2.2
          rw [q, e3] at u
          exact absurd u (by decide)
        have n4 : F 6 ≠ 4 := fun q => by
          have u := t6.2.2.2
          rw [q, e4] at u
          exact absurd u (by decide)
        have n5 : F 6 ≠ 5 := fun q => by
          have u := t6.2.2.2
          rw [q, e5] at u
          exact absurd u (by decide)
        have e6 : F 6 = 7 := by omega
        have e7 : F 7 = 6 := by have u := t6.2.2.2; rw [e6] at u; exact u
        exact pr_l4 51 e0 e1 e2 e3 e4 e5 e6 e7 rfl (by decide)
      · have e6 : F 6 = 2 := by have u := t2.2.2.2; rw [e2] at u; exact u
        have n0 : F 3 ≠ 0 := fun q => by
          have u := t3.2.2.2
          rw [q, e0] at u
          exact absurd u (by decide)
        have n1 : F 3 ≠ 1 := fun q => by
          have u := t3.2.2.2
          rw [q, e1] at u
          exact absurd u (by decide)
        have n2 : F 3 ≠ 2 := fun q => by
          have u := t3.2.2.2
          rw [q, e2] at u
          exact absurd u (by decide)
        have n4 : F 3 ≠ 4 := fun q => by
          have u := t3.2.2.2
          rw [q, e4] at u
          exact absurd u (by decide)
        have n5 : F 3 ≠ 5 := fun q => by
          have u := t3.2.2.2
          rw [q, e5] at u
          exact absurd u (by decide)
        have n6 : F 3 ≠ 6 := fun q => by
          have u := t3.2.2.2
          rw [q, e6] at u
          exact absurd u (by decide)
        have e3 : F 3 = 7 := by omega
        have e7 : F 7 = 3 := by have u := t3.2.2.2; rw [e3] at u; exact u
        exact pr_l4 52 e0 e1 e2 e3 e4 e5 e6 e7 rfl (by decide)
      · have e7 : F 7 = 2 := by have u := t2.2.2.2; rw [e2] at u; exact u
        have n0 : F 3 ≠ 0 := fun q => by
          have u := t3.2.2.2
          rw [q, e0] at u
          exact absurd u (by decide)
        have n1 : F 3 ≠ 1 := fun q => by
          have u := t3.2.2.2
          rw [q, e1] at u
          exact absurd u (by decide)
        have n2 : F 3 ≠ 2 := fun q => by
          have u := t3.2.2.2
          rw [q, e2] at u
          exact absurd u (by decide)
        have n4 : F 3 ≠ 4 := fun q => by
          have u := t3.2.2.2
          rw [q, e4] at u
          exact absurd u (by decide)
        have n5 : F 3 ≠ 5 := fun q => by
          have u := t3.2.2.2
          rw [q, e5] at u
          exact absurd u (by decide)
        have n7 : F 3 ≠ 7 := fun q => by
          have u := t3.2.2.2
          rw [q, e7] at u
          exact absurd u (by decide)
        have e3 : F 3 = 6 := by omega
        have e6 : F 6 = 3 := by have u := t3.2.2.2; rw [e3] at u; exact u
        exact pr_l4 53 e0 e1 e2 e3 e4 e5 e6 e7 rfl (by decide)
    · have e6 : F 6 = 1 := by have u := t1.2.2.2; rw [e1] at u; exact u
      have n0 : F 2 ≠ 0 := fun q => by
        have u := t2.2.2.2
        rw [q, e0] at u
        exact absurd u (by decide)
      have n1 : F 2 ≠ 1 := fun q => by
        have u := t2.2.2.2
        rw [q, e1] at u
        exact absurd u (by decide)
      have n4 : F 2 ≠ 4 := fun q => by
        have u := t2.2.2.2
        rw [q, e4] at u
        exact absurd u (by decide)
      have n6 : F 2 ≠ 6 := fun q => by
        have u := t2.2.2.2
        rw [q, e6] at u
        exact absurd u (by decide)
      have s : F 2 = 3 ∨ F 2 = 5 ∨ F 2 = 7 := by omega
      rcases s with e2 | e2 | e2
      · have e3 : F 3 = 2 := by have u := t2.2.2.2; rw [e2] at u; exact u
        have n0 : F 5 ≠ 0 := fun q => by
          have u := t5.2.2.2
          rw [q, e0] at u
          exact absurd u (by decide)
        have n1 : F 5 ≠ 1 := fun q => by
          have u := t5.2.2.2
          rw [q, e1] at u
          exact absurd u (by decide)
        have n2 : F 5 ≠ 2 := fun q => by
          have u := t5.2.2.2
          rw [q, e2] at u
          exact absurd u (by decide)
        have n3 : F 5 ≠ 3 := fun q => by
          have u := t5.2.2.2
          rw [q, e3] at u
          exact absurd u (by decide)
        have n4 : F 5 ≠ 4 := fun q => by
          have u := t5.2.2.2
          rw [q, e4] at u
          exact absurd u (by decide)
        have n6 : F 5 ≠ 6 := fun q => by
          have u := t5.2.2.2
          rw [q, e6] at u
          exact absurd u (by decide)
        have e5 : F 5 = 7 := by omega
        have e7 : F 7 = 5 := by have u := t5.2.2.2; rw [e5] at u; exact u
        exact pr_l4 54 e0 e1 e2 e3 e4 e5 e6 e7 rfl (by decide)
      · have e5 : F 5 = 2 := by have u := t2.2.2.2; rw [e2] at u; exact u
        have n0 : F 3 ≠ 0 := fun q => by
          have u := t3.2.2.2
          rw [q, e0] at u
          exact absurd u (by decide)
        have n1 : F 3 ≠ 1 := fun q => by
          have u := t3.2.2.2
          rw [q, e1] at u
          exact absurd u (by decide)
        have n2 : F 3 ≠ 2 := fun q => by
          have u := t3.2.2.2
          rw [q, e2] at u
          exact absurd u (by decide)
        have n4 : F 3 ≠ 4 := fun q => by
          have u := t3.2.2.2
          rw [q, e4] at u
          exact absurd u (by decide)
        have n5 : F 3 ≠ 5 := fun q => by
          have u := t3.2.2.2
          rw [q, e5] at u
          exact absurd u (by decide)
        have n6 : F 3 ≠ 6 := fun q => by
          have u := t3.2.2.2
          rw [q, e6] at u
          exact absurd u (by decide)
        have e3 : F 3 = 7 := by omega
        have e7 : F 7 = 3 := by have u := t3.2.2.2; rw [e3] at u; exact u
        exact pr_l4 55 e0 e1 e2 e3 e4 e5 e6 e7 rfl (by decide)
      · have e7 : F 7 = 2 := by have u := t2.2.2.2; rw [e2] at u; exact u
        have n0 : F 3 ≠ 0 := fun q => by
          have u := t3.2.2.2
          rw [q, e0] at u
          exact absurd u (by decide)
        have n1 : F 3 ≠ 1 := fun q => by
          have u := t3.2.2.2
          rw [q, e1] at u
          exact absurd u (by decide)
        have n2 : F 3 ≠ 2 := fun q => by
          have u := t3.2.2.2
          rw [q, e2] at u
          exact absurd u (by decide)
        have n4 : F 3 ≠ 4 := fun q => by
          have u := t3.2.2.2
          rw [q, e4] at u
          exact absurd u (by decide)
        have n6 : F 3 ≠ 6 := fun q => by
          have u := t3.2.2.2
          rw [q, e6] at u
          exact absurd u (by decide)
        have n7 : F 3 ≠ 7 := fun q => by
          have u := t3.2.2.2
          rw [q, e7] at u
          exact absurd u (by decide)
        have e3 : F 3 = 5 := by omega
        have e5 : F 5 = 3 := by have u := t3.2.2.2; rw [e3] at u; exact u
        exact pr_l4 56 e0 e1 e2 e3 e4 e5 e6 e7 rfl (by decide)
    · have e7 : F 7 = 1 := by have u := t1.2.2.2; rw [e1] at u; exact u
      have n0 : F 2 ≠ 0 := fun q => by
        have u := t2.2.2.2
        rw [q, e0] at u
        exact absurd u (by decide)
      have n1 : F 2 ≠ 1 := fun q => by
        have u := t2.2.2.2
        rw [q, e1] at u
        exact absurd u (by decide)
      have n4 : F 2 ≠ 4 := fun q => by
        have u := t2.2.2.2
        rw [q, e4] at u
        exact absurd u (by decide)
      have n7 : F 2 ≠ 7 := fun q => by
        have u := t2.2.2.2
        rw [q, e7] at u
        exact absurd u (by decide)
      have s : F 2 = 3 ∨ F 2 = 5 ∨ F 2 = 6 := by omega
      rcases s with e2 | e2 | e2
      · have e3 : F 3 = 2 := by have u := t2.2.2.2; rw [e2] at u; exact u
        have n0 : F 5 ≠ 0 := fun q => by
          have u := t5.2.2.2
          rw [q, e0] at u
          exact absurd u (by decide)
        have n1 : F 5 ≠ 1 := fun q => by
          have u := t5.2.2.2
          rw [q, e1] at u
          exact absurd u (by decide)
        have n2 : F 5 ≠ 2 := fun q => by
          have u := t5.2.2.2
          rw [q, e2] at u
          exact absurd u (by decide)
        have n3 : F 5 ≠ 3 := fun q => by
          have u := t5.2.2.2
          rw [q, e3] at u
          exact absurd u (by decide)
        have n4 : F 5 ≠ 4 := fun q => by
          have u := t5.2.2.2
          rw [q, e4] at u
          exact absurd u (by decide)
        have n7 : F 5 ≠ 7 := fun q => by
          have u := t5.2.2.2
          rw [q, e7] at u
          exact absurd u (by decide)
        have e5 : F 5 = 6 := by omega
        have e6 : F 6 = 5 := by have u := t5.2.2.2; rw [e5] at u; exact u
        exact pr_l4 57 e0 e1 e2 e3 e4 e5 e6 e7 rfl (by decide)
      · have e5 : F 5 = 2 := by have u := t2.2.2.2; rw [e2] at u; exact u
        have n0 : F 3 ≠ 0 := fun q => by
          have u := t3.2.2.2
          rw [q, e0] at u
          exact absurd u (by decide)
        have n1 : F 3 ≠ 1 := fun q => by
          have u := t3.2.2.2
          rw [q, e1] at u
          exact absurd u (by decide)
        have n2 : F 3 ≠ 2 := fun q => by
          have u := t3.2.2.2
          rw [q, e2] at u
          exact absurd u (by decide)
        have n4 : F 3 ≠ 4 := fun q => by
          have u := t3.2.2.2
          rw [q, e4] at u
          exact absurd u (by decide)
        have n5 : F 3 ≠ 5 := fun q => by
          have u := t3.2.2.2
          rw [q, e5] at u
          exact absurd u (by decide)
        have n7 : F 3 ≠ 7 := fun q => by
          have u := t3.2.2.2
          rw [q, e7] at u
          exact absurd u (by decide)
        have e3 : F 3 = 6 := by omega
        have e6 : F 6 = 3 := by have u := t3.2.2.2; rw [e3] at u; exact u
        exact pr_l4 58 e0 e1 e2 e3 e4 e5 e6 e7 rfl (by decide)
      · have e6 : F 6 = 2 := by have u := t2.2.2.2; rw [e2] at u; exact u
        have n0 : F 3 ≠ 0 := fun q => by
          have u := t3.2.2.2
          rw [q, e0] at u
          exact absurd u (by decide)
        have n1 : F 3 ≠ 1 := fun q => by
          have u := t3.2.2.2
          rw [q, e1] at u
          exact absurd u (by decide)
        have n2 : F 3 ≠ 2 := fun q => by
          have u := t3.2.2.2
          rw [q, e2] at u
          exact absurd u (by decide)
        have n4 : F 3 ≠ 4 := fun q => by
          have u := t3.2.2.2
          rw [q, e4] at u
          exact absurd u (by decide)
        have n6 : F 3 ≠ 6 := fun q => by
          have u := t3.2.2.2
          rw [q, e6] at u
          exact absurd u (by decide)
        have n7 : F 3 ≠ 7 := fun q => by
          have u := t3.2.2.2
          rw [q, e7] at u
          exact absurd u (by decide)
        have e3 : F 3 = 5 := by omega
        have e5 : F 5 = 3 := by have u := t3.2.2.2; rw [e3] at u; exact u
        exact pr_l4 59 e0 e1 e2 e3 e4 e5 e6 e7 rfl (by decide)
  · have e5 : F 5 = 0 := by have u := t0.2.2.2; rw [e0] at u; exact u
    have n0 : F 1 ≠ 0 := fun q => by
      have u := t1.2.2.2
      rw [q, e0] at u
      exact absurd u (by decide)
    have n5 : F 1 ≠ 5 := fun q => by
      have u := t1.2.2.2
      rw [q, e5] at u
      exact absurd u (by decide)
    have s : F 1 = 2 ∨ F 1 = 3 ∨ F 1 = 4 ∨ F 1 = 6 ∨ F 1 = 7 := by omega
    rcases s with e1 | e1 | e1 | e1 | e1
    · have e2 : F 2 = 1 := by have u := t1.2.2.2; rw [e1] at u; exact u
      have n0 : F 3 ≠ 0 := fun q => by
        have u := t3.2.2.2
        rw [q, e0] at u
        exact absurd u (by decide)
      have n1 : F 3 ≠ 1 := fun q => by
        have u := t3.2.2.2
        rw [q, e1] at u
        exact absurd u (by decide)
      have n2 : F 3 ≠ 2 := fun q => by
        have u := t3.2.2.2
        rw [q, e2] at u
        exact absurd u (by decide)
      have n5 : F 3 ≠ 5 := fun q => by
        have u := t3.2.2.2
        rw [q, e5] at u
        exact absurd u (by decide)
      have s : F 3 = 4 ∨ F 3 = 6 ∨ F 3 = 7 := by omega
      rcases s with e3 | e3 | e3
      · have e4 : F 4 = 3 := by have u := t3.2.2.2; rw [e3] at u; exact u
        have n0 : F 6 ≠ 0 := fun q => by
          have u := t6.2.2.2
          rw [q, e0] at u
          exact absurd u (by decide)
        have n1 : F 6 ≠ 1 := fun q => by
          have u := t6.2.2.2
          rw [q, e1] at u
          exact absurd u (by decide)
        have n2 : F 6 ≠ 2 := fun q => by
          have u := t6.2.2.2
          rw [q, e2] at u
          exact absurd u (by decide)
        have n3 : F 6 ≠ 3 := fun q => by
          have u := t6.2.2.2
          rw [q, e3] at u
          exact absurd u (by decide)
        have n4 : F 6 ≠ 4 := fun q => by
          have u := t6.2.2.2
          rw [q, e4] at u
          exact absurd u (by decide)
        have n5 : F 6 ≠ 5 := fun q => by
          have u := t6.2.2.2
          rw [q, e5] at u
          exact absurd u (by decide)
        have e6 : F 6 = 7 := by omega
        have e7 : F 7 = 6 := by have u := t6.2.2.2; rw [e6] at u; exact u
        exact pr_l4 60 e0 e1 e2 e3 e4 e5 e6 e7 rfl (by decide)
      · have e6 : F 6 = 3 := by have u := t3.2.2.2; rw [e3] at u; exact u
        have n0 : F 4 ≠ 0 := fun q => by
          have u := t4.2.2.2
          rw [q, e0] at u
          exact absurd u (by decide)
        have n1 : F 4 ≠ 1 := fun q => by
          have u := t4.2.2.2
          rw [q, e1] at u
          exact absurd u (by decide)
        have n2 : F 4 ≠ 2 := fun q => by
          have u := t4.2.2.2
          rw [q, e2] at u
          exact absurd u (by decide)
        have n3 : F 4 ≠ 3 := fun q => by
          have u := t4.2.2.2
          rw [q, e3] at u
          exact absurd u (by decide)
        have n5 : F 4 ≠ 5 := fun q => by
          have u := t4.2.2.2
          rw [q, e5] at u
          exact absurd u (by decide)
        have n6 : F 4 ≠ 6 := fun q => by
          have u := t4.2.2.2
          rw [q, e6] at u
          exact absurd u (by decide)
        have e4 : F 4 = 7 := by omega
        have e7 : F 7 = 4 := by have u := t4.2.2.2; rw [e4] at u; exact u
        exact pr_l4 61 e0 e1 e2 e3 e4 e5 e6 e7 rfl (by decide)
      · have e7 : F 7 = 3 := by have u := t3.2.2.2; rw [e3] at u; exact u
        have n0 : F 4 ≠ 0 := fun q => by
          have u := t4.2.2.2
          rw [q, e0] at u
          exact absurd u (by decide)
        have n1 : F 4 ≠ 1 := fun q => by
          have u := t4.2.2.2
          rw [q, e1] at u
          exact absurd u (by decide)
        have n2 : F 4 ≠ 2 := fun q => by
          have u := t4.2.2.2
          rw [q, e2] at u
          exact absurd u (by decide)
        have n3 : F 4 ≠ 3 := fun q => by
          have u := t4.2.2.2
          rw [q, e3] at u
          exact absurd u (by decide)
        have n5 : F 4 ≠ 5 := fun q => by
          have u := t4.2.2.2
          rw [q, e5] at u
          exact absurd u (by decide)
        have n7 : F 4 ≠ 7 := fun q => by
          have u := t4.2.2.2
          rw [q, e7] at u
          exact absurd u (by decide)
        have e4 : F 4 = 6 := by omega
        have e6 : F 6 = 4 := by have u := t4.2.2.2; rw [e4] at u; exact u
        exact pr_l4 62 e0 e1 e2 e3 e4 e5 e6 e7 rfl (by decide)
    · have e3 : F 3 = 1 := by have u := t1.2.2.2; rw [e1] at u; exact u
      have n0 : F 2 ≠ 0 := fun q => by
        have u := t2.2.2.2
        rw [q, e0] at u
        exact absurd u (by decide)
      have n1 : F 2 ≠ 1 := fun q => by
        have u := t2.2.2.2
        rw [q, e1] at u
        exact absurd u (by decide)
      have n3 : F 2 ≠ 3 := fun q => by
        have u := t2.2.2.2
        rw [q, e3] at u
        exact absurd u (by decide)
      have n5 : F 2 ≠ 5 := fun q => by
        have u := t2.2.2.2
        rw [q, e5] at u
        exact absurd u (by decide)
      have s : F 2 = 4 ∨ F 2 = 6 ∨ F 2 = 7 := by omega
      rcases s with e2 | e2 | e2
      · have e4 : F 4 = 2 := by have u := t2.2.2.2; rw [e2] at u; exact u
        have n0 : F 6 ≠ 0 := fun q => by
          have u := t6.2.2.2
          rw [q, e0] at u
          exact absurd u (by decide)
        have n1 : F 6 ≠ 1 := fun q => by
          have u := t6.2.2.2
          rw [q, e1] at u
          exact absurd u (by decide)
        have n2 : F 6 ≠ 2 := fun q => by
          have u := t6.2.2.2
          rw [q, e2] at u
          exact absurd u (by decide)
        have n3 : F 6 ≠ 3 := fun q => by
          have u := t6.2.2.2
          rw [q, e3] at u
          exact absurd u (by decide)
        have n4 : F 6 ≠ 4 := fun q => by
          have u := t6.2.2.2
          rw [q, e4] at u
          exact absurd u (by decide)
        have n5 : F 6 ≠ 5 := fun q => by
          have u := t6.2.2.2
          rw [q, e5] at u
          exact absurd u (by decide)
        have e6 : F 6 = 7 := by omega
        have e7 : F 7 = 6 := by have u := t6.2.2.2; rw [e6] at u; exact u
        exact pr_l4 63 e0 e1 e2 e3 e4 e5 e6 e7 rfl (by decide)
      · have e6 : F 6 = 2 := by have u := t2.2.2.2; rw [e2] at u; exact u
        have n0 : F 4 ≠ 0 := fun q => by
          have u := t4.2.2.2
          rw [q, e0] at u
          exact absurd u (by decide)
        have n1 : F 4 ≠ 1 := fun q => by
          have u := t4.2.2.2
          rw [q, e1] at u
          exact absurd u (by decide)
        have n2 : F 4 ≠ 2 := fun q => by
          have u := t4.2.2.2
          rw [q, e2] at u
          exact absurd u (by decide)
        have n3 : F 4 ≠ 3 := fun q => by
          have u := t4.2.2.2
          rw [q, e3] at u
          exact absurd u (by decide)
        have n5 : F 4 ≠ 5 := fun q => by
          have u := t4.2.2.2
          rw [q, e5] at u
          exact absurd u (by decide)
        have n6 : F 4 ≠ 6 := fun q => by
          have u := t4.2.2.2
          rw [q, e6] at u
          exact absurd u (by decide)
        have e4 : F 4 = 7 := by omega
        have e7 : F 7 = 4 := by have u := t4.2.2.2; rw [e4] at u; exact u
        exact pr_l4 64 e0 e1 e2 e3 e4 e5 e6 e7 rfl (by decide)
      · have e7 : F 7 = 2 := by have u := t2.2.2.2; rw [e2] at u; exact u
        have n0 : F 4 ≠ 0 := fun q => by
          have u := t4.2.2.2
          rw [q, e0] at u
          exact absurd u (by decide)
        have n1 : F 4 ≠ 1 := fun q => by
          have u := t4.2.2.2
          rw [q, e1] at u
          exact absurd u (by decide)
        have n2 : F 4 ≠ 2 := fun q => by
          have u := t4.2.2.2
          rw [q, e2] at u
          exact absurd u (by decide)
        have n3 : F 4 ≠ 3 := fun q => by
          have u := t4.2.2.2
          rw [q, e3] at u
          exact absurd u (by decide)
        have n5 : F 4 ≠ 5 := fun q => by
          have u := t4.2.2.2
          rw [q, e5] at u
          exact absurd u (by decide)
        have n7 : F 4 ≠ 7 := fun q => by
          have u := t4.2.2.2
          rw [q, e7] at u
          exact absurd u (by decide)
        have e4 : F 4 = 6 := by omega
        have e6 : F 6 = 4 := by have u := t4.2.2.2; rw [e4] at u; exact u
        exact pr_l4 65 e0 e1 e2 e3 e4 e5 e6 e7 rfl (by decide)
    · have e4 : F 4 = 1 := by have u := t1.2.2.2; rw [e1] at u; exact u
      have n0 : F 2 ≠ 0 := fun q => by
        have u := t2.2.2.2
        rw [q, e0] at u
        exact absurd u (by decide)
      have n1 : F 2 ≠ 1 := fun q => by
        have u := t2.2.2.2
        rw [q, e1] at u
        exact absurd u (by decide)
      have n4 : F 2 ≠ 4 := fun q => by
        have u := t2.2.2.2
        rw [q, e4] at u
        exact absurd u (by decide)
      have n5 : F 2 ≠ 5 := fun q => by
        have u := t2.2.2.2
        rw [q, e5] at u
        exact absurd u (by decide)
      have s : F 2 = 3 ∨ F 2 = 6 ∨ F 2 = 7 := by omega
      rcases s with e2 | e2 | e2
      · have e3 : F 3 = 2 := by have u := t2.2.2.2; rw [e2] at u; exact u
        have n0 : F 6 ≠ 0 := fun q => by
          have u := t6.2.2.2
          rw [q, e0] at u
          exact absurd u (by decide)
        have n1 : F 6 ≠ 1 := fun q => by
          have u := t6.2.2.2
          rw [q, e1] at u
          exact absurd u (by decide)
        have n2 : F 6 ≠ 2 := fun q => by
          have u := t6.2.2.2
          rw [q, e2] at u
          exact absurd u (by decide)
        have n3 : F 6 ≠ 3 := fun q => by
          have u := t6.2.2.2
          rw [q, e3] at u
          exact absurd u (by decide)
        have n4 : F 6 ≠ 4 := fun q => by
          have u := t6.2.2.2
          rw [q, e4] at u
          exact absurd u (by decide)
        have n5 : F 6 ≠ 5 := fun q => by
          have u := t6.2.2.2
          rw [q, e5] at u
          exact absurd u (by decide)
        have e6 : F 6 = 7 := by omega
        have e7 : F 7 = 6 := by have u := t6.2.2.2; rw [e6] at u; exact u
        exact pr_l4 66 e0 e1 e2 e3 e4 e5 e6 e7 rfl (by decide)
      · have e6 : F 6 = 2 := by have u := t2.2.2.2; rw [e2] at u; exact u
        have n0 : F 3 ≠ 0 := fun q => by
          have u := t3.2.2.2
          rw [q, e0] at u
          exact absurd u (by decide)
        have n1 : F 3 ≠ 1 := fun q => by
          have u := t3.2.2.2
          rw [q, e1] at u
          exact absurd u (by decide)
        have n2 : F 3 ≠ 2 := fun q => by
          have u := t3.2.2.2
          rw [q, e2] at u
          exact absurd u (by decide)
        have n4 : F 3 ≠ 4 := fun q => by
          have u := t3.2.2.2
          rw [q, e4] at u
          exact absurd u (by decide)
        have n5 : F 3 ≠ 5 := fun q => by
          have u := t3.2.2.2
          rw [q, e5] at u
          exact absurd u (by decide)
        have n6 : F 3 ≠ 6 := fun q => by
          have u := t3.2.2.2
          rw [q, e6] at u
          exact absurd u (by decide)
        have e3 : F 3 = 7 := by omega
        have e7 : F 7 = 3 := by have u := t3.2.2.2; rw [e3] at u; exact u
        exact pr_l4 67 e0 e1 e2 e3 e4 e5 e6 e7 rfl (by decide)
      · have e7 : F 7 = 2 := by have u := t2.2.2.2; rw [e2] at u; exact u
        have n0 : F 3 ≠ 0 := fun q => by
          have u := t3.2.2.2
          rw [q, e0] at u
          exact absurd u (by decide)
        have n1 : F 3 ≠ 1 := fun q => by
          have u := t3.2.2.2
          rw [q, e1] at u
          exact absurd u (by decide)
        have n2 : F 3 ≠ 2 := fun q => by
          have u := t3.2.2.2
          rw [q, e2] at u
          exact absurd u (by decide)
        have n4 : F 3 ≠ 4 := fun q => by
          have u := t3.2.2.2
          rw [q, e4] at u
          exact absurd u (by decide)
        have n5 : F 3 ≠ 5 := fun q => by
          have u := t3.2.2.2
          rw [q, e5] at u
          exact absurd u (by decide)
        have n7 : F 3 ≠ 7 := fun q => by
          have u := t3.2.2.2
          rw [q, e7] at u
          exact absurd u (by decide)
        have e3 : F 3 = 6 := by omega
        have e6 : F 6 = 3 := by have u := t3.2.2.2; rw [e3] at u; exact u
        exact pr_l4 68 e0 e1 e2 e3 e4 e5 e6 e7 rfl (by decide)
    · have e6 : F 6 = 1 := by have u := t1.2.2.2; rw [e1] at u; exact u
      have n0 : F 2 ≠ 0 := fun q => by
        have u := t2.2.2.2
        rw [q, e0] at u
        exact absurd u (by decide)
      have n1 : F 2 ≠ 1 := fun q => by
        have u := t2.2.2.2
        rw [q, e1] at u
        exact absurd u (by decide)
      have n5 : F 2 ≠ 5 := fun q => by
        have u := t2.2.2.2
        rw [q, e5] at u
        exact absurd u (by decide)
      have n6 : F 2 ≠ 6 := fun q => by
        have u := t2.2.2.2
        rw [q, e6] at u
        exact absurd u (by decide)
      have s : F 2 = 3 ∨ F 2 = 4 ∨ F 2 = 7 := by omega
      rcases s with e2 | e2 | e2
      · have e3 : F 3 = 2 := by have u := t2.2.2.2; rw [e2] at u; exact u
        have n0 : F 4 ≠ 0 := fun q => by
          have u := t4.2.2.2
          rw [q, e0] at u
          exact absurd u (by decide)
        have n1 : F 4 ≠ 1 := fun q => by
          have u := t4.2.2.2
          rw [q, e1] at u
          exact absurd u (by decide)
        have n2 : F 4 ≠ 2 := fun q => by
          have u := t4.2.2.2
          rw [q, e2] at u
          exact absurd u (by decide)
        have n3 : F 4 ≠ 3 := fun q => by
          have u := t4.2.2.2
          rw [q, e3] at u
          exact absurd u (by decide)
        have n5 : F 4 ≠ 5 := fun q => by
          have u := t4.2.2.2
          rw [q, e5] at u
          exact absurd u (by decide)
        have n6 : F 4 ≠ 6 := fun q => by
          have u := t4.2.2.2
          rw [q, e6] at u
          exact absurd u (by decide)
        have e4 : F 4 = 7 := by omega
        have e7 : F 7 = 4 := by have u := t4.2.2.2; rw [e4] at u; exact u
        exact pr_l4 69 e0 e1 e2 e3 e4 e5 e6 e7 rfl (by decide)
      · have e4 : F 4 = 2 := by have u := t2.2.2.2; rw [e2] at u; exact u
        have n0 : F 3 ≠ 0 := fun q => by
          have u := t3.2.2.2
          rw [q, e0] at u
          exact absurd u (by decide)
        have n1 : F 3 ≠ 1 := fun q => by
          have u := t3.2.2.2
          rw [q, e1] at u
          exact absurd u (by decide)
        have n2 : F 3 ≠ 2 := fun q => by
          have u := t3.2.2.2
          rw [q, e2] at u
          exact absurd u (by decide)
        have n4 : F 3 ≠ 4 := fun q => by
          have u := t3.2.2.2
          rw [q, e4] at u
          exact absurd u (by decide)
        have n5 : F 3 ≠ 5 := fun q => by
          have u := t3.2.2.2
          rw [q, e5] at u
          exact absurd u (by decide)
        have n6 : F 3 ≠ 6 := fun q => by
          have u := t3.2.2.2
          rw [q, e6] at u
          exact absurd u (by decide)
        have e3 : F 3 = 7 := by omega
        have e7 : F 7 = 3 := by have u := t3.2.2.2; rw [e3] at u; exact u
        exact pr_l4 70 e0 e1 e2 e3 e4 e5 e6 e7 rfl (by decide)
      · have e7 : F 7 = 2 := by have u := t2.2.2.2; rw [e2] at u; exact u
        have n0 : F 3 ≠ 0 := fun q => by
          have u := t3.2.2.2
          rw [q, e0] at u
          exact absurd u (by decide)
        have n1 : F 3 ≠ 1 := fun q => by
          have u := t3.2.2.2
          rw [q, e1] at u
          exact absurd u (by decide)
        have n2 : F 3 ≠ 2 := fun q => by
          have u := t3.2.2.2
          rw [q, e2] at u
          exact absurd u (by decide)
        have n5 : F 3 ≠ 5 := fun q => by
          have u := t3.2.2.2
          rw [q, e5] at u
          exact absurd u (by decide)
        have n6 : F 3 ≠ 6 := fun q => by
          have u := t3.2.2.2
          rw [q, e6] at u
          exact absurd u (by decide)
        have n7 : F 3 ≠ 7 := fun q => by
          have u := t3.2.2.2
          rw [q, e7] at u
          exact absurd u (by decide)
        have e3 : F 3 = 4 := by omega
        have e4 : F 4 = 3 := by have u := t3.2.2.2; rw [e3] at u; exact u
        exact pr_l4 71 e0 e1 e2 e3 e4 e5 e6 e7 rfl (by decide)
    · have e7 : F 7 = 1 := by have u := t1.2.2.2; rw [e1] at u; exact u
      have n0 : F 2 ≠ 0 := fun q => by
        have u := t2.2.2.2
        rw [q, e0] at u
        exact absurd u (by decide)
      have n1 : F 2 ≠ 1 := fun q => by
        have u := t2.2.2.2
        rw [q, e1] at u
        exact absurd u (by decide)
      have n5 : F 2 ≠ 5 := fun q => by
        have u := t2.2.2.2
        rw [q, e5] at u
        exact absurd u (by decide)
      have n7 : F 2 ≠ 7 := fun q => by
        have u := t2.2.2.2
        rw [q, e7] at u
        exact absurd u (by decide)
      have s : F 2 = 3 ∨ F 2 = 4 ∨ F 2 = 6 := by omega
      rcases s with e2 | e2 | e2
      · have e3 : F 3 = 2 := by have u := t2.2.2.2; rw [e2] at u; exact u
        have n0 : F 4 ≠ 0 := fun q => by
          have u := t4.2.2.2
          rw [q, e0] at u
          exact absurd u (by decide)
        have n1 : F 4 ≠ 1 := fun q => by
          have u := t4.2.2.2
          rw [q, e1] at u
          exact absurd u (by decide)
        have n2 : F 4 ≠ 2 := fun q => by
          have u := t4.2.2.2
          rw [q, e2] at u
          exact absurd u (by decide)
        have n3 : F 4 ≠ 3 := fun q => by
          have u := t4.2.2.2
          rw [q, e3] at u
          exact absurd u (by decide)
        have n5 : F 4 ≠ 5 := fun q => by
          have u := t4.2.2.2
          rw [q, e5] at u
          exact absurd u (by decide)
        have n7 : F 4 ≠ 7 := fun q => by
          have u := t4.2.2.2
          rw [q, e7] at u
          exact absurd u (by decide)
        have e4 : F 4 = 6 := by omega
        have e6 : F 6 = 4 := by have u := t4.2.2.2; rw [e4] at u; exact u
        exact pr_l4 72 e0 e1 e2 e3 e4 e5 e6 e7 rfl (by decide)
      · have e4 : F 4 = 2 := by have u := t2.2.2.2; rw [e2] at u; exact u
        have n0 : F 3 ≠ 0 := fun q => by
          have u := t3.2.2.2
          rw [q, e0] at u
          exact absurd u (by decide)
        have n1 : F 3 ≠ 1 := fun q => by
          have u := t3.2.2.2
          rw [q, e1] at u
          exact absurd u (by decide)
        have n2 : F 3 ≠ 2 := fun q => by
          have u := t3.2.2.2
          rw [q, e2] at u
          exact absurd u (by decide)
        have n4 : F 3 ≠ 4 := fun q => by
          have u := t3.2.2.2
          rw [q, e4] at u
          exact absurd u (by decide)
        have n5 : F 3 ≠ 5 := fun q => by
          have u := t3.2.2.2
          rw [q, e5] at u
          exact absurd u (by decide)
        have n7 : F 3 ≠ 7 := fun q => by
          have u := t3.2.2.2
          rw [q, e7] at u
          exact absurd u (by decide)
        have e3 : F 3 = 6 := by omega
        have e6 : F 6 = 3 := by have u := t3.2.2.2; rw [e3] at u; exact u
        exact pr_l4 73 e0 e1 e2 e3 e4 e5 e6 e7 rfl (by decide)
      · have e6 : F 6 = 2 := by have u := t2.2.2.2; rw [e2] at u; exact u
        have n0 : F 3 ≠ 0 := fun q => by
          have u := t3.2.2.2
          rw [q, e0] at u
          exact absurd u (by decide)
        have n1 : F 3 ≠ 1 := fun q => by
          have u := t3.2.2.2
          rw [q, e1] at u
          exact absurd u (by decide)
        have n2 : F 3 ≠ 2 := fun q => by
          have u := t3.2.2.2
          rw [q, e2] at u
          exact absurd u (by decide)
        have n5 : F 3 ≠ 5 := fun q => by
          have u := t3.2.2.2
          rw [q, e5] at u
          exact absurd u (by decide)
        have n6 : F 3 ≠ 6 := fun q => by
          have u := t3.2.2.2
          rw [q, e6] at u
          exact absurd u (by decide)
        have n7 : F 3 ≠ 7 := fun q => by
          have u := t3.2.2.2
          rw [q, e7] at u
          exact absurd u (by decide)
        have e3 : F 3 = 4 := by omega
        have e4 : F 4 = 3 := by have u := t3.2.2.2; rw [e3] at u; exact u
        exact pr_l4 74 e0 e1 e2 e3 e4 e5 e6 e7 rfl (by decide)
  · have e6 : F 6 = 0 := by have u := t0.2.2.2; rw [e0] at u; exact u
    have n0 : F 1 ≠ 0 := fun q => by
      have u := t1.2.2.2
      rw [q, e0] at u
      exact absurd u (by decide)
    have n6 : F 1 ≠ 6 := fun q => by
      have u := t1.2.2.2
      rw [q, e6] at u
      exact absurd u (by decide)
    have s : F 1 = 2 ∨ F 1 = 3 ∨ F 1 = 4 ∨ F 1 = 5 ∨ F 1 = 7 := by omega
    rcases s with e1 | e1 | e1 | e1 | e1
    · have e2 : F 2 = 1 := by have u := t1.2.2.2; rw [e1] at u; exact u
      have n0 : F 3 ≠ 0 := fun q => by
        have u := t3.2.2.2
        rw [q, e0] at u
        exact absurd u (by decide)
      have n1 : F 3 ≠ 1 := fun q => by
        have u := t3.2.2.2
        rw [q, e1] at u
        exact absurd u (by decide)
      have n2 : F 3 ≠ 2 := fun q => by
        have u := t3.2.2.2
        rw [q, e2] at u
        exact absurd u (by decide)
      have n6 : F 3 ≠ 6 := fun q => by
        have u := t3.2.2.2
        rw [q, e6] at u
        exact absurd u (by decide)
      have s : F 3 = 4 ∨ F 3 = 5 ∨ F 3 = 7 := by omega
      rcases s with e3 | e3 | e3
      · have e4 : F 4 = 3 := by have u := t3.2.2.2; rw [e3] at u; exact u
        have n0 : F 5 ≠ 0 := fun q => by
          have u := t5.2.2.2
          rw [q, e0] at u
          exact absurd u (by decide)
        have n1 : F 5 ≠ 1 := fun q => by
          have u := t5.2.2.2
          rw [q, e1] at u
          exact absurd u (by decide)
        have n2 : F 5 ≠ 2 := fun q => by
          have u := t5.2.2.2
          rw [q, e2] at u
          exact absurd u (by decide)
        have n3 : F 5 ≠ 3 := fun q => by
          have u := t5.2.2.2
          rw [q, e3] at u
          exact absurd u (by decide)
        have n4 : F 5 ≠ 4 := fun q => by
          have u := t5.2.2.2
          rw [q, e4] at u
          exact absurd u (by decide)
        have n6 : F 5 ≠ 6 := fun q => by
          have u := t5.2.2.2
          rw [q, e6] at u
          exact absurd u (by decide)
        have e5 : F 5 = 7 := by omega
        have e7 : F 7 = 5 := by have u := t5.2.2.2; rw [e5] at u; exact u
        exact pr_l4 75 e0 e1 e2 e3 e4 e5 e6 e7 rfl (by decide)
      · have e5 : F 5 = 3 := by have u := t3.2.2.2; rw [e3] at u; exact u
        have n0 : F 4 ≠ 0 := fun q => by
          have u := t4.2.2.2
          rw [q, e0] at u
          exact absurd u (by decide)
        have n1 : F 4 ≠ 1 := fun q => by
          have u := t4.2.2.2
          rw [q, e1] at u
          exact absurd u (by decide)
        have n2 : F 4 ≠ 2 := fun q => by
          have u := t4.2.2.2
          rw [q, e2] at u
          exact absurd u (by decide)
        have n3 : F 4 ≠ 3 := fun q => by
          have u := t4.2.2.2
          rw [q, e3] at u
          exact absurd u (by decide)
        have n5 : F 4 ≠ 5 := fun q => by
          have u := t4.2.2.2
          rw [q, e5] at u
          exact absurd u (by decide)
        have n6 : F 4 ≠ 6 := fun q => by
          have u := t4.2.2.2
          rw [q, e6] at u
          exact absurd u (by decide)
        have e4 : F 4 = 7 := by omega
        have e7 : F 7 = 4 := by have u := t4.2.2.2; rw [e4] at u; exact u
        exact pr_l4 76 e0 e1 e2 e3 e4 e5 e6 e7 rfl (by decide)
      · have e7 : F 7 = 3 := by have u := t3.2.2.2; rw [e3] at u; exact u
        have n0 : F 4 ≠ 0 := fun q => by
          have u := t4.2.2.2
          rw [q, e0] at u
          exact absurd u (by decide)
        have n1 : F 4 ≠ 1 := fun q => by
          have u := t4.2.2.2
          rw [q, e1] at u
          exact absurd u (by decide)
        have n2 : F 4 ≠ 2 := fun q => by
          have u := t4.2.2.2
          rw [q, e2] at u
          exact absurd u (by decide)
        have n3 : F 4 ≠ 3 := fun q => by
          have u := t4.2.2.2
          rw [q, e3] at u
          exact absurd u (by decide)
        have n6 : F 4 ≠ 6 := fun q => by
          have u := t4.2.2.2
          rw [q, e6] at u
          exact absurd u (by decide)
        have n7 : F 4 ≠ 7 := fun q => by
          have u := t4.2.2.2
          rw [q, e7] at u
          exact absurd u (by decide)
        have e4 : F 4 = 5 := by omega
        have e5 : F 5 = 4 := by have u := t4.2.2.2; rw [e4] at u; exact u
        exact pr_l4 77 e0 e1 e2 e3 e4 e5 e6 e7 rfl (by decide)
    · have e3 : F 3 = 1 := by have u := t1.2.2.2; rw [e1] at u; exact u
      have n0 : F 2 ≠ 0 := fun q => by
        have u := t2.2.2.2
        rw [q, e0] at u
        exact absurd u (by decide)
      have n1 : F 2 ≠ 1 := fun q => by
        have u := t2.2.2.2
        rw [q, e1] at u
        exact absurd u (by decide)
      have n3 : F 2 ≠ 3 := fun q => by
        have u := t2.2.2.2
        rw [q, e3] at u
        exact absurd u (by decide)
      have n6 : F 2 ≠ 6 := fun q => by
        have u := t2.2.2.2
        rw [q, e6] at u
        exact absurd u (by decide)
      have s : F 2 = 4 ∨ F 2 = 5 ∨ F 2 = 7 := by omega
      rcases s with e2 | e2 | e2
      · have e4 : F 4 = 2 := by have u := t2.2.2.2; rw [e2] at u; exact u
        have n0 : F 5 ≠ 0 := fun q => by
          have u := t5.2.2.2
          rw [q, e0] at u
          exact absurd u (by decide)
        have n1 : F 5 ≠ 1 := fun q => by
          have u := t5.2.2.2
          rw [q, e1] at u
          exact absurd u (by decide)
        have n2 : F 5 ≠ 2 := fun q => by
          have u := t5.2.2.2
          rw [q, e2] at u
          exact absurd u (by decide)
        have n3 : F 5 ≠ 3 := fun q => by
          have u := t5.2.2.2
          rw [q, e3] at u
          exact absurd u (by decide)
        have n4 : F 5 ≠ 4 := fun q => by
          have u := t5.2.2.2
          rw [q, e4] at u
          exact absurd u (by decide)
        have n6 : F 5 ≠ 6 := fun q => by
          have u := t5.2.2.2
          rw [q, e6] at u
          exact absurd u (by decide)
        have e5 : F 5 = 7 := by omega
        have e7 : F 7 = 5 := by have u := t5.2.2.2; rw [e5] at u; exact u
        exact pr_l4 78 e0 e1 e2 e3 e4 e5 e6 e7 rfl (by decide)
      · have e5 : F 5 = 2 := by have u := t2.2.2.2; rw [e2] at u; exact u
        have n0 : F 4 ≠ 0 := fun q => by
          have u := t4.2.2.2
          rw [q, e0] at u
          exact absurd u (by decide)
        have n1 : F 4 ≠ 1 := fun q => by
          have u := t4.2.2.2
          rw [q, e1] at u
          exact absurd u (by decide)
        have n2 : F 4 ≠ 2 := fun q => by
          have u := t4.2.2.2
          rw [q, e2] at u
          exact absurd u (by decide)
        have n3 : F 4 ≠ 3 := fun q => by
          have u := t4.2.2.2
          rw [q, e3] at u
          exact absurd u (by decide)
        have n5 : F 4 ≠ 5 := fun q => by
          have u := t4.2.2.2
          rw [q, e5] at u
          exact absurd u (by decide)
        have n6 : F 4 ≠ 6 := fun q => by
          have u := t4.2.2.2
          rw [q, e6] at u
          exact absurd u (by decide)
        have e4 : F 4 = 7 := by omega
        have e7 : F 7 = 4 := by have u := t4.2.2.2; rw [e4] at u; exact u
        exact pr_l4 79 e0 e1 e2 e3 e4 e5 e6 e7 rfl (by decide)
      · have e7 : F 7 = 2 := by have u := t2.2.2.2; rw [e2] at u; exact u
        have n0 : F 4 ≠ 0 := fun q => by
          have u := t4.2.2.2
          rw [q, e0] at u
          exact absurd u (by decide)
        have n1 : F 4 ≠ 1 := fun q => by
          have u := t4.2.2.2
          rw [q, e1] at u
          exact absurd u (by decide)
        have n2 : F 4 ≠ 2 := fun q => by
          have u := t4.2.2.2
          rw [q, e2] at u
          exact absurd u (by decide)
        have n3 : F 4 ≠ 3 := fun q => by
          have u := t4.2.2.2
          rw [q, e3] at u
          exact absurd u (by decide)
        have n6 : F 4 ≠ 6 := fun q => by
          have u := t4.2.2.2
          rw [q, e6] at u
          exact absurd u (by decide)
        have n7 : F 4 ≠ 7 := fun q => by
          have u := t4.2.2.2
          rw [q, e7] at u
          exact absurd u (by decide)
        have e4 : F 4 = 5 := by omega
        have e5 : F 5 = 4 := by have u := t4.2.2.2; rw [e4] at u; exact u
        exact pr_l4 80 e0 e1 e2 e3 e4 e5 e6 e7 rfl (by decide)
    · have e4 : F 4 = 1 := by have u := t1.2.2.2; rw [e1] at u; exact u
      have n0 : F 2 ≠ 0 := fun q => by
        have u := t2.2.2.2
        rw [q, e0] at u
        exact absurd u (by decide)
      have n1 : F 2 ≠ 1 := fun q => by
        have u := t2.2.2.2
        rw [q, e1] at u
        exact absurd u (by decide)
      have n4 : F 2 ≠ 4 := fun q => by
        have u := t2.2.2.2
        rw [q, e4] at u
        exact absurd u (by decide)
      have n6 : F 2 ≠ 6 := fun q => by
        have u := t2.2.2.2
        rw [q, e6] at u
        exact absurd u (by decide)
      have s : F 2 = 3 ∨ F 2 = 5 ∨ F 2 = 7 := by omega
      rcases s with e2 | e2 | e2
      · have e3 : F 3 = 2 := by have u := t2.2.2.2; rw [e2] at u; exact u
        have n0 : F 5 ≠ 0 := fun q => by
          have u := t5.2.2.2
          rw [q, e0] at u
          exact absurd u (by decide)
        have n1 : F 5 ≠ 1 := fun q => by
          have u := t5.2.2.2
          rw [q, e1] at u
          exact absurd u (by decide)
        have n2 : F 5 ≠ 2 := fun q => by
          have u := t5.2.2.2
          rw [q, e2] at u
          exact absurd u (by decide)
        have n3 : F 5 ≠ 3 := fun q => by
          have u := t5.2.2.2
          rw [q, e3] at u
          exact absurd u (by decide)
        have n4 : F 5 ≠ 4 := fun q => by
          have u := t5.2.2.2
          rw [q, e4] at u
          exact absurd u (by decide)
        have n6 : F 5 ≠ 6 := fun q => by
          have u := t5.2.2.2
          rw [q, e6] at u
          exact absurd u (by decide)
        have e5 : F 5 = 7 := by omega
        have e7 : F 7 = 5 := by have u := t5.2.2.2; rw [e5] at u; exact u
        exact pr_l4 81 e0 e1 e2 e3 e4 e5 e6 e7 rfl (by decide)
      · have e5 : F 5 = 2 := by have u := t2.2.2.2; rw [e2] at u; exact u
        have n0 : F 3 ≠ 0 := fun q => by
          have u := t3.2.2.2
          rw [q, e0] at u
          exact absurd u (by decide)
        have n1 : F 3 ≠ 1 := fun q => by
          have u := t3.2.2.2
          rw [q, e1] at u
          exact absurd u (by decide)
        have n2 : F 3 ≠ 2 := fun q => by
          have u := t3.2.2.2
          rw [q, e2] at u
          exact absurd u (by decide)
        have n4 : F 3 ≠ 4 := fun q => by
          have u := t3.2.2.2
          rw [q, e4] at u
          exact absurd u (by decide)
        have n5 : F 3 ≠ 5 := fun q => by
          have u := t3.2.2.2
          rw [q, e5] at u
          exact absurd u (by decide)
        have n6 : F 3 ≠ 6 := fun q => by
          have u := t3.2.2.2
          rw [q, e6] at u
          exact absurd u (by decide)
        have e3 : F 3 = 7 := by omega
        have e7 : F 7 = 3 := by have u := t3.2.2.2; rw [e3] at u; exact u
        exact pr_l4 82 e0 e1 e2 e3 e4 e5 e6 e7 rfl (by decide)
      · have e7 : F 7 = 2 := by have u := t2.2.2.2; rw [e2] at u; exact u
        have n0 : F 3 ≠ 0 := fun q => by
          have u := t3.2.2.2
          rw [q, e0] at u
          exact absurd u (by decide)
        have n1 : F 3 ≠ 1 := fun q => by
          have u := t3.2.2.2
          rw [q, e1] at u
          exact absurd u (by decide)
        have n2 : F 3 ≠ 2 := fun q => by
          have u := t3.2.2.2
          rw [q, e2] at u
          exact absurd u (by decide)
        have n4 : F 3 ≠ 4 := fun q => by
          have u := t3.2.2.2
          rw [q, e4] at u
          exact absurd u (by decide)
        have n6 : F 3 ≠ 6 := fun q => by
          have u := t3.2.2.2
          rw [q, e6] at u
          exact absurd u (by decide)
        have n7 : F 3 ≠ 7 := fun q => by
          have u := t3.2.2.2
          rw [q, e7] at u
          exact absurd u (by decide)
        have e3 : F 3 = 5 := by omega
        have e5 : F 5 = 3 := by have u := t3.2.2.2; rw [e3] at u; exact u
        exact pr_l4 83 e0 e1 e2 e3 e4 e5 e6 e7 rfl (by decide)
    · have e5 : F 5 = 1 := by have u := t1.2.2.2; rw [e1] at u; exact u
      have n0 : F 2 ≠ 0 := fun q => by
        have u := t2.2.2.2
        rw [q, e0] at u
        exact absurd u (by decide)
      have n1 : F 2 ≠ 1 := fun q => by
        have u := t2.2.2.2
        rw [q, e1] at u
        exact absurd u (by decide)
      have n5 : F 2 ≠ 5 := fun q => by
        have u := t2.2.2.2
        rw [q, e5] at u
        exact absurd u (by decide)
      have n6 : F 2 ≠ 6 := fun q => by
        have u := t2.2.2.2
        rw [q, e6] at u
        exact absurd u (by decide)
      have s : F 2 = 3 ∨ F 2 = 4 ∨ F 2 = 7 := by omega
      rcases s with e2 | e2 | e2
      · have e3 : F 3 = 2 := by have u := t2.2.2.2; rw [e2] at u; exact u
        have n0 : F 4 ≠ 0 := fun q => by
          have u := t4.2.2.2
          rw [q, e0] at u
          exact absurd u (by decide)
        have n1 : F 4 ≠ 1 := fun q => by
          have u := t4.2.2.2
          rw [q, e1] at u
          exact absurd u (by decide)
        have n2 : F 4 ≠ 2 := fun q => by
          have u := t4.2.2.2
          rw [q, e2] at u
          exact absurd u (by decide)
        have n3 : F 4 ≠ 3 := fun q => by
          have u := t4.2.2.2
          rw [q, e3] at u
          exact absurd u (by decide)
        have n5 : F 4 ≠ 5 := fun q => by
          have u := t4.2.2.2
          rw [q, e5] at u
          exact absurd u (by decide)
        have n6 : F 4 ≠ 6 := fun q => by
          have u := t4.2.2.2
          rw [q, e6] at u
          exact absurd u (by decide)
        have e4 : F 4 = 7 := by omega
        have e7 : F 7 = 4 := by have u := t4.2.2.2; rw [e4] at u; exact u
        exact pr_l4 84 e0 e1 e2 e3 e4 e5 e6 e7 rfl (by decide)
      · have e4 : F 4 = 2 := by have u := t2.2.2.2; rw [e2] at u; exact u
        have n0 : F 3 ≠ 0 := fun q => by
          have u := t3.2.2.2
          rw [q, e0] at u
          exact absurd u (by decide)
        have n1 : F 3 ≠ 1 := fun q => by
          have u := t3.2.2.2
          rw [q, e1] at u
          exact absurd u (by decide)
        have n2 : F 3 ≠ 2 := fun q => by
          have u := t3.2.2.2
          rw [q, e2] at u
          exact absurd u (by decide)
        have n4 : F 3 ≠ 4 := fun q => by
          have u := t3.2.2.2
          rw [q, e4] at u
          exact absurd u (by decide)
        have n5 : F 3 ≠ 5 := fun q => by
          have u := t3.2.2.2
          rw [q, e5] at u
          exact absurd u (by decide)
        have n6 : F 3 ≠ 6 := fun q => by
          have u := t3.2.2.2
          rw [q, e6] at u
          exact absurd u (by decide)
        have e3 : F 3 = 7 := by omega
        have e7 : F 7 = 3 := by have u := t3.2.2.2; rw [e3] at u; exact u
        exact pr_l4 85 e0 e1 e2 e3 e4 e5 e6 e7 rfl (by decide)
      · have e7 : F 7 = 2 := by have u := t2.2.2.2; rw [e2] at u; exact u
        have n0 : F 3 ≠ 0 := fun q => by
          have u := t3.2.2.2
          rw [q, e0] at u
          exact absurd u (by decide)
        have n1 : F 3 ≠ 1 := fun q => by
          have u := t3.2.2.2
          rw [q, e1] at u
          exact absurd u (by decide)
        have n2 : F 3 ≠ 2 := fun q => by
          have u := t3.2.2.2
          rw [q, e2] at u
          exact absurd u (by decide)
        have n5 : F 3 ≠ 5 := fun q => by
          have u := t3.2.2.2
          rw [q, e5] at u
          exact absurd u (by decide)
        have n6 : F 3 ≠ 6 := fun q => by
          have u := t3.2.2.2
          rw [q, e6] at u
          exact absurd u (by decide)
        have n7 : F 3 ≠ 7 := fun q => by
          have u := t3.2.2.2
          rw [q, e7] at u
          exact absurd u (by decide)
        have e3 : F 3 = 4 := by omega
        have e4 : F 4 = 3 := by have u := t3.2.2.2; rw [e3] at u; exact u
        exact pr_l4 86 e0 e1 e2 e3 e4 e5 e6 e7 rfl (by decide)
    · have e7 : F 7 = 1 := by have u := t1.2.2.2; rw [e1] at u; exact u
      have n0 : F 2 ≠ 0 := fun q => by
        have u := t2.2.2.2
        rw [q, e0] at u
        exact absurd u (by decide)
      have n1 : F 2 ≠ 1 := fun q => by
        have u := t2.2.2.2
        rw [q, e1] at u
        exact absurd u (by decide)
      have n6 : F 2 ≠ 6 := fun q => by
        have u := t2.2.2.2
        rw [q, e6] at u
        exact absurd u (by decide)
      have n7 : F 2 ≠ 7 := fun q => by
        have u := t2.2.2.2
        rw [q, e7] at u
        exact absurd u (by decide)
      have s : F 2 = 3 ∨ F 2 = 4 ∨ F 2 = 5 := by omega
      rcases s with e2 | e2 | e2
      · have e3 : F 3 = 2 := by have u := t2.2.2.2; rw [e2] at u; exact u
        have n0 : F 4 ≠ 0 := fun q => by
          have u := t4.2.2.2
          rw [q, e0] at u
          exact absurd u (by decide)
        have n1 : F 4 ≠ 1 := fun q => by
          have u := t4.2.2.2
          rw [q, e1] at u
          exact absurd u (by decide)
        have n2 : F 4 ≠ 2 := fun q => by
          have u := t4.2.2.2
          rw [q, e2] at u
          exact absurd u (by decide)
        have n3 : F 4 ≠ 3 := fun q => by
          have u := t4.2.2.2
          rw [q, e3] at u
          exact absurd u (by decide)
        have n6 : F 4 ≠ 6 := fun q => by
          have u := t4.2.2.2
          rw [q, e6] at u
          exact absurd u (by decide)
        have n7 : F 4 ≠ 7 := fun q => by
          have u := t4.2.2.2
          rw [q, e7] at u
          exact absurd u (by decide)
        have e4 : F 4 = 5 := by omega
        have e5 : F 5 = 4 := by have u := t4.2.2.2; rw [e4] at u; exact u
        exact pr_l4 87 e0 e1 e2 e3 e4 e5 e6 e7 rfl (by decide)
      · have e4 : F 4 = 2 := by have u := t2.2.2.2; rw [e2] at u; exact u
        have n0 : F 3 ≠ 0 := fun q => by
          have u := t3.2.2.2
          rw [q, e0] at u
          exact absurd u (by decide)
        have n1 : F 3 ≠ 1 := fun q => by
          have u := t3.2.2.2
          rw [q, e1] at u
          exact absurd u (by decide)
        have n2 : F 3 ≠ 2 := fun q => by
          have u := t3.2.2.2
          rw [q, e2] at u
          exact absurd u (by decide)
        have n4 : F 3 ≠ 4 := fun q => by
          have u := t3.2.2.2
          rw [q, e4] at u
          exact absurd u (by decide)
        have n6 : F 3 ≠ 6 := fun q => by
          have u := t3.2.2.2
          rw [q, e6] at u
          exact absurd u (by decide)
        have n7 : F 3 ≠ 7 := fun q => by
          have u := t3.2.2.2
          rw [q, e7] at u
          exact absurd u (by decide)
        have e3 : F 3 = 5 := by omega
        have e5 : F 5 = 3 := by have u := t3.2.2.2; rw [e3] at u; exact u
        exact pr_l4 88 e0 e1 e2 e3 e4 e5 e6 e7 rfl (by decide)
      · have e5 : F 5 = 2 := by have u := t2.2.2.2; rw [e2] at u; exact u
        have n0 : F 3 ≠ 0 := fun q => by
          have u := t3.2.2.2
          rw [q, e0] at u
          exact absurd u (by decide)
        have n1 : F 3 ≠ 1 := fun q => by
          have u := t3.2.2.2
          rw [q, e1] at u
          exact absurd u (by decide)
        have n2 : F 3 ≠ 2 := fun q => by
          have u := t3.2.2.2
          rw [q, e2] at u
          exact absurd u (by decide)
        have n5 : F 3 ≠ 5 := fun q => by
          have u := t3.2.2.2
          rw [q, e5] at u
          exact absurd u (by decide)
        have n6 : F 3 ≠ 6 := fun q => by
          have u := t3.2.2.2
          rw [q, e6] at u
          exact absurd u (by decide)
        have n7 : F 3 ≠ 7 := fun q => by
          have u := t3.2.2.2
          rw [q, e7] at u
          exact absurd u (by decide)
        have e3 : F 3 = 4 := by omega
        have e4 : F 4 = 3 := by have u := t3.2.2.2; rw [e3] at u; exact u
        exact pr_l4 89 e0 e1 e2 e3 e4 e5 e6 e7 rfl (by decide)
  · have e7 : F 7 = 0 := by have u := t0.2.2.2; rw [e0] at u; exact u
    have n0 : F 1 ≠ 0 := fun q => by
      have u := t1.2.2.2
      rw [q, e0] at u
      exact absurd u (by decide)
    have n7 : F 1 ≠ 7 := fun q => by
      have u := t1.2.2.2
      rw [q, e7] at u
      exact absurd u (by decide)
    have s : F 1 = 2 ∨ F 1 = 3 ∨ F 1 = 4 ∨ F 1 = 5 ∨ F 1 = 6 := by omega
    rcases s with e1 | e1 | e1 | e1 | e1
    · have e2 : F 2 = 1 := by have u := t1.2.2.2; rw [e1] at u; exact u
      have n0 : F 3 ≠ 0 := fun q => by
        have u := t3.2.2.2
        rw [q, e0] at u
        exact absurd u (by decide)
      have n1 : F 3 ≠ 1 := fun q => by
        have u := t3.2.2.2
        rw [q, e1] at u
        exact absurd u (by decide)
      have n2 : F 3 ≠ 2 := fun q => by
        have u := t3.2.2.2
        rw [q, e2] at u
        exact absurd u (by decide)
      have n7 : F 3 ≠ 7 := fun q => by
        have u := t3.2.2.2
        rw [q, e7] at u
        exact absurd u (by decide)
      have s : F 3 = 4 ∨ F 3 = 5 ∨ F 3 = 6 := by omega
      rcases s with e3 | e3 | e3
      · have e4 : F 4 = 3 := by have u := t3.2.2.2; rw [e3] at u; exact u
        have n0 : F 5 ≠ 0 := fun q => by
          have u := t5.2.2.2
          rw [q, e0] at u
          exact absurd u (by decide)
        have n1 : F 5 ≠ 1 := fun q => by
          have u := t5.2.2.2
          rw [q, e1] at u
          exact absurd u (by decide)
        have n2 : F 5 ≠ 2 := fun q => by
          have u := t5.2.2.2
          rw [q, e2] at u
          exact absurd u (by decide)
        have n3 : F 5 ≠ 3 := fun q => by
          have u := t5.2.2.2
          rw [q, e3] at u
          exact absurd u (by decide)
        have n4 : F 5 ≠ 4 := fun q => by
          have u := t5.2.2.2
          rw [q, e4] at u
          exact absurd u (by decide)
        have n7 : F 5 ≠ 7 := fun q => by
          have u := t5.2.2.2
          rw [q, e7] at u
          exact absurd u (by decide)
        have e5 : F 5 = 6 := by omega
        have e6 : F 6 = 5 := by have u := t5.2.2.2; rw [e5] at u; exact u
        exact pr_l4 90 e0 e1 e2 e3 e4 e5 e6 e7 rfl (by decide)
      · have e5 : F 5 = 3 := by have u := t3.2.2.2; rw [e3] at u; exact u
        have n0 : F 4 ≠ 0 := fun q => by
          have u := t4.2.2.2
          rw [q, e0] at u
          exact absurd u (by decide)
        have n1 : F 4 ≠ 1 := fun q => by
          have u := t4.2.2.2
          rw [q, e1] at u
          exact absurd u (by decide)
        have n2 : F 4 ≠ 2 := fun q => by
          have u := t4.2.2.2
          rw [q, e2] at u
          exact absurd u (by decide)
        have n3 : F 4 ≠ 3 := fun q => by
          have u := t4.2.2.2
          rw [q, e3] at u
          exact absurd u (by decide)
        have n5 : F 4 ≠ 5 := fun q => by
          have u := t4.2.2.2
          rw [q, e5] at u
          exact absurd u (by decide)
        have n7 : F 4 ≠ 7 := fun q => by
          have u := t4.2.2.2
          rw [q, e7] at u
          exact absurd u (by decide)
        have e4 : F 4 = 6 := by omega
        have e6 : F 6 = 4 := by have u := t4.2.2.2; rw [e4] at u; exact u
        exact pr_l4 91 e0 e1 e2 e3 e4 e5 e6 e7 rfl (by decide)
      · have e6 : F 6 = 3 := by have u := t3.2.2.2; rw [e3] at u; exact u
        have n0 : F 4 ≠ 0 := fun q => by
          have u := t4.2.2.2
          rw [q, e0] at u
          exact absurd u (by decide)
        have n1 : F 4 ≠ 1 := fun q => by
          have u := t4.2.2.2
          rw [q, e1] at u
          exact absurd u (by decide)
        have n2 : F 4 ≠ 2 := fun q => by
          have u := t4.2.2.2
          rw [q, e2] at u
          exact absurd u (by decide)
        have n3 : F 4 ≠ 3 := fun q => by
          have u := t4.2.2.2
          rw [q, e3] at u
          exact absurd u (by decide)
        have n6 : F 4 ≠ 6 := fun q => by
          have u := t4.2.2.2
          rw [q, e6] at u
          exact absurd u (by decide)
        have n7 : F 4 ≠ 7 := fun q => by
          have u := t4.2.2.2
          rw [q, e7] at u
          exact absurd u (by decide)
        have e4 : F 4 = 5 := by omega
        have e5 : F 5 = 4 := by have u := t4.2.2.2; rw [e4] at u; exact u
        exact pr_l4 92 e0 e1 e2 e3 e4 e5 e6 e7 rfl (by decide)
    · have e3 : F 3 = 1 := by have u := t1.2.2.2; rw [e1] at u; exact u
      have n0 : F 2 ≠ 0 := fun q => by
        have u := t2.2.2.2
        rw [q, e0] at u
        exact absurd u (by decide)
      have n1 : F 2 ≠ 1 := fun q => by
        have u := t2.2.2.2
        rw [q, e1] at u
        exact absurd u (by decide)
      have n3 : F 2 ≠ 3 := fun q => by
        have u := t2.2.2.2
        rw [q, e3] at u
        exact absurd u (by decide)
      have n7 : F 2 ≠ 7 := fun q => by
        have u := t2.2.2.2
        rw [q, e7] at u
        exact absurd u (by decide)
      have s : F 2 = 4 ∨ F 2 = 5 ∨ F 2 = 6 := by omega
      rcases s with e2 | e2 | e2
      · have e4 : F 4 = 2 := by have u := t2.2.2.2; rw [e2] at u; exact u
        have n0 : F 5 ≠ 0 := fun q => by
          have u := t5.2.2.2
          rw [q, e0] at u
          exact absurd u (by decide)
        have n1 : F 5 ≠ 1 := fun q => by
          have u := t5.2.2.2
          rw [q, e1] at u
          exact absurd u (by decide)
        have n2 : F 5 ≠ 2 := fun q => by
          have u := t5.2.2.2
          rw [q, e2] at u
          exact absurd u (by decide)
        have n3 : F 5 ≠ 3 := fun q => by
          have u := t5.2.2.2
          rw [q, e3] at u
          exact absurd u (by decide)
        have n4 : F 5 ≠ 4 := fun q => by
          have u := t5.2.2.2
          rw [q, e4] at u
          exact absurd u (by decide)
        have n7 : F 5 ≠ 7 := fun q => by
          have u := t5.2.2.2
          rw [q, e7] at u
          exact absurd u (by decide)
        have e5 : F 5 = 6 := by omega
        have e6 : F 6 = 5 := by have u := t5.2.2.2; rw [e5] at u; exact u
        exact pr_l4 93 e0 e1 e2 e3 e4 e5 e6 e7 rfl (by decide)
      · have e5 : F 5 = 2 := by have u := t2.2.2.2; rw [e2] at u; exact u
        have n0 : F 4 ≠ 0 := fun q => by
          have u := t4.2.2.2
          rw [q, e0] at u
          exact absurd u (by decide)
        have n1 : F 4 ≠ 1 := fun q => by
          have u := t4.2.2.2
          rw [q, e1] at u
          exact absurd u (by decide)
        have n2 : F 4 ≠ 2 := fun q => by
          have u := t4.2.2.2
          rw [q, e2] at u
          exact absurd u (by decide)
        have n3 : F 4 ≠ 3 := fun q => by
          have u := t4.2.2.2
          rw [q, e3] at u
          exact absurd u (by decide)
        have n5 : F 4 ≠ 5 := fun q => by
          have u := t4.2.2.2
          rw [q, e5] at u
          exact absurd u (by decide)
        have n7 : F 4 ≠ 7 := fun q => by
          have u := t4.2.2.2
          rw [q, e7] at u
          exact absurd u (by decide)
        have e4 : F 4 = 6 := by omega
        have e6 : F 6 = 4 := by have u := t4.2.2.2; rw [e4] at u; exact u
        exact pr_l4 94 e0 e1 e2 e3 e4 e5 e6 e7 rfl (by decide)
      · have e6 : F 6 = 2 := by have u := t2.2.2.2; rw [e2] at u; exact u
        have n0 : F 4 ≠ 0 := fun q => by
          have u := t4.2.2.2
          rw [q, e0] at u
          exact absurd u (by decide)
        have n1 : F 4 ≠ 1 := fun q => by
          have u := t4.2.2.2
          rw [q, e1] at u
          exact absurd u (by decide)
        have n2 : F 4 ≠ 2 := fun q => by
          have u := t4.2.2.2
          rw [q, e2] at u
          exact absurd u (by decide)
        have n3 : F 4 ≠ 3 := fun q => by
          have u := t4.2.2.2
          rw [q, e3] at u
          exact absurd u (by decide)
        have n6 : F 4 ≠ 6 := fun q => by
          have u := t4.2.2.2
          rw [q, e6] at u
          exact absurd u (by decide)
        have n7 : F 4 ≠ 7 := fun q => by
          have u := t4.2.2.2
          rw [q, e7] at u
          exact absurd u (by decide)
        have e4 : F 4 = 5 := by omega
        have e5 : F 5 = 4 := by have u := t4.2.2.2; rw [e4] at u; exact u
        exact pr_l4 95 e0 e1 e2 e3 e4 e5 e6 e7 rfl (by decide)
    · have e4 : F 4 = 1 := by have u := t1.2.2.2; rw [e1] at u; exact u
      have n0 : F 2 ≠ 0 := fun q => by
        have u := t2.2.2.2
        rw [q, e0] at u
        exact absurd u (by decide)
      have n1 : F 2 ≠ 1 := fun q => by
        have u := t2.2.2.2
        rw [q, e1] at u
        exact absurd u (by decide)
      have n4 : F 2 ≠ 4 := fun q => by
        have u := t2.2.2.2
        rw [q, e4] at u
        exact absurd u (by decide)
      have n7 : F 2 ≠ 7 := fun q => by
        have u := t2.2.2.2
        rw [q, e7] at u
        exact absurd u (by decide)
      have s : F 2 = 3 ∨ F 2 = 5 ∨ F 2 = 6 := by omega
      rcases s with e2 | e2 | e2
      · have e3 : F 3 = 2 := by have u := t2.2.2.2; rw [e2] at u; exact u
        have n0 : F 5 ≠ 0 := fun q => by
          have u := t5.2.2.2
          rw [q, e0] at u
          exact absurd u (by decide)
        have n1 : F 5 ≠ 1 := fun q => by
          have u := t5.2.2.2
          rw [q, e1] at u
          exact absurd u (by decide)
        have n2 : F 5 ≠ 2 := fun q => by
          have u := t5.2.2.2
          rw [q, e2] at u
          exact absurd u (by decide)
        have n3 : F 5 ≠ 3 := fun q => by
          have u := t5.2.2.2
          rw [q, e3] at u
          exact absurd u (by decide)
        have n4 : F 5 ≠ 4 := fun q => by
          have u := t5.2.2.2
          rw [q, e4] at u
          exact absurd u (by decide)
        have n7 : F 5 ≠ 7 := fun q => by
          have u := t5.2.2.2
          rw [q, e7] at u
          exact absurd u (by decide)
        have e5 : F 5 = 6 := by omega
        have e6 : F 6 = 5 := by have u := t5.2.2.2; rw [e5] at u; exact u
        exact pr_l4 96 e0 e1 e2 e3 e4 e5 e6 e7 rfl (by decide)
      · have e5 : F 5 = 2 := by have u := t2.2.2.2; rw [e2] at u; exact u
        have n0 : F 3 ≠ 0 := fun q => by
          have u := t3.2.2.2
          rw [q, e0] at u
          exact absurd u (by decide)
        have n1 : F 3 ≠ 1 := fun q => by
          have u := t3.2.2.2
          rw [q, e1] at u
          exact absurd u (by decide)
        have n2 : F 3 ≠ 2 := fun q => by
          have u := t3.2.2.2
          rw [q, e2] at u
          exact absurd u (by decide)
        have n4 : F 3 ≠ 4 := fun q => by
          have u := t3.2.2.2
          rw [q, e4] at u
          exact absurd u (by decide)
        have n5 : F 3 ≠ 5 := fun q => by
          have u := t3.2.2.2
          rw [q, e5] at u
          exact absurd u (by decide)
        have n7 : F 3 ≠ 7 := fun q => by
          have u := t3.2.2.2
          rw [q, e7] at u
          exact absurd u (by decide)
        have e3 : F 3 = 6 := by omega
        have e6 : F 6 = 3 := by have u := t3.2.2.2; rw [e3] at u; exact u
        exact pr_l4 97 e0 e1 e2 e3 e4 e5 e6 e7 rfl (by decide)
      · have e6 : F 6 = 2 := by have u := t2.2.2.2; rw [e2] at u; exact u
        have n0 : F 3 ≠ 0 := fun q => by
          have u := t3.2.2.2
          rw [q, e0] at u
          exact absurd u (by decide)
        have n1 : F 3 ≠ 1 := fun q => by
          have u := t3.2.2.2
          rw [q, e1] at u
          exact absurd u (by decide)
        have n2 : F 3 ≠ 2 := fun q => by
          have u := t3.2.2.2
          rw [q, e2] at u
          exact absurd u (by decide)
        have n4 : F 3 ≠ 4 := fun q => by
          have u := t3.2.2.2
          rw [q, e4] at u
          exact absurd u (by decide)
        have n6 : F 3 ≠ 6 := fun q => by
          have u := t3.2.2.2
          rw [q, e6] at u
          exact absurd u (by decide)
        have n7 : F 3 ≠ 7 := fun q => by
          have u := t3.2.2.2
          rw [q, e7] at u
          exact absurd u (by decide)
        have e3 : F 3 = 5 := by omega
        have e5 : F 5 = 3 := by have u := t3.2.2.2; rw [e3] at u; exact u
        exact pr_l4 98 e0 e1 e2 e3 e4 e5 e6 e7 rfl (by decide)
    · have e5 : F 5 = 1 := by have u := t1.2.2.2; rw [e1] at u; exact u
      have n0 : F 2 ≠ 0 := fun q => by
        have u := t2.2.2.2
        rw [q, e0] at u
        exact absurd u (by decide)
      have n1 : F 2 ≠ 1 := fun q => by
        have u := t2.2.2.2
        rw [q, e1] at u
        exact absurd u (by decide)
      have n5 : F 2 ≠ 5 := fun q => by
        have u := t2.2.2.2
        rw [q, e5] at u
        exact absurd u (by decide)
      have n7 : F 2 ≠ 7 := fun q => by
        have u := t2.2.2.2
        rw [q, e7] at u
        exact absurd u (by decide)
      have s : F 2 = 3 ∨ F 2 = 4 ∨ F 2 = 6 := by omega
      rcases s with e2 | e2 | e2
      · have e3 : F 3 = 2 := by have u := t2.2.2.2; rw [e2] at u; exact u
        have n0 : F 4 ≠ 0 := fun q => by
          have u := t4.2.2.2
          rw [q, e0] at u
          exact absurd u (by decide)
        have n1 : F 4 ≠ 1 := fun q => by
          have u := t4.2.2.2
          rw [q, e1] at u
          exact absurd u (by decide)
        have n2 : F 4 ≠ 2 := fun q => by
          have u := t4.2.2.2
          rw [q, e2] at u
          exact absurd u (by decide)
        have n3 : F 4 ≠ 3 := fun q => by
          have u := t4.2.2.2
          rw [q, e3] at u
          exact absurd u (by decide)
        have n5 : F 4 ≠ 5 := fun q => by
          have u := t4.2.2.2
          rw [q, e5] at u
          exact absurd u (by decide)
        have n7 : F 4 ≠ 7 := fun q => by
          have u := t4.2.2.2
          rw [q, e7] at u
          exact absurd u (by decide)
        have e4 : F 4 = 6 := by omega
        have e6 : F 6 = 4 := by have u := t4.2.2.2; rw [e4] at u; exact u
        exact pr_l4 99 e0 e1 e2 e3 e4 e5 e6 e7 rfl (by decide)
      · have e4 : F 4 = 2 := by have u := t2.2.2.2; rw [e2] at u; exact u
        have n0 : F 3 ≠ 0 := fun q => by
          have u := t3.2.2.2
          rw [q, e0] at u
          exact absurd u (by decide)
        have n1 : F 3 ≠ 1 := fun q => by
          have u := t3.2.2.2
          rw [q, e1] at u
          exact absurd u (by decide)
        have n2 : F 3 ≠ 2 := fun q => by
          have u := t3.2.2.2
          rw [q, e2] at u
          exact absurd u (by decide)
        have n4 : F 3 ≠ 4 := fun q => by
          have u := t3.2.2.2
          rw [q, e4] at u
          exact absurd u (by decide)
        have n5 : F 3 ≠ 5 := fun q => by
          have u := t3.2.2.2
          rw [q, e5] at u
          exact absurd u (by decide)
        have n7 : F 3 ≠ 7 := fun q => by
          have u := t3.2.2.2
          rw [q, e7] at u
          exact absurd u (by decide)
        have e3 : F 3 = 6 := by omega
        have e6 : F 6 = 3 := by have u := t3.2.2.2; rw [e3] at u; exact u
        exact pr_l4 100 e0 e1 e2 e3 e4 e5 e6 e7 rfl (by decide)
      · have e6 : F 6 = 2 := by have u := t2.2.2.2; rw [e2] at u; exact u
        have n0 : F 3 ≠ 0 := fun q => by
          have u := t3.2.2.2
          rw [q, e0] at u
          exact absurd u (by decide)
        have n1 : F 3 ≠ 1 := fun q => by
          have u := t3.2.2.2
          rw [q, e1] at u
          exact absurd u (by decide)
        have n2 : F 3 ≠ 2 := fun q => by
          have u := t3.2.2.2
          rw [q, e2] at u
          exact absurd u (by decide)
        have n5 : F 3 ≠ 5 := fun q => by
          have u := t3.2.2.2
          rw [q, e5] at u
          exact absurd u (by decide)
        have n6 : F 3 ≠ 6 := fun q => by
          have u := t3.2.2.2
          rw [q, e6] at u
          exact absurd u (by decide)
        have n7 : F 3 ≠ 7 := fun q => by
          have u := t3.2.2.2
          rw [q, e7] at u
          exact absurd u (by decide)
        have e3 : F 3 = 4 := by omega
        have e4 : F 4 = 3 := by have u := t3.2.2.2; rw [e3] at u; exact u
        exact pr_l4 101 e0 e1 e2 e3 e4 e5 e6 e7 rfl (by decide)
    · have e6 : F 6 = 1 := by have u := t1.2.2.2; rw [e1] at u; exact u
      have n0 : F 2 ≠ 0 := fun q => by
        have u := t2.2.2.2
        rw [q, e0] at u
        exact absurd u (by decide)
      have n1 : F 2 ≠ 1 := fun q => by
        have u := t2.2.2.2
        rw [q, e1] at u
        exact absurd u (by decide)
      have n6 : F 2 ≠ 6 := fun q => by
        have u := t2.2.2.2
        rw [q, e6] at u
        exact absurd u (by decide)
      have n7 : F 2 ≠ 7 := fun q => by
        have u := t2.2.2.2
        rw [q, e7] at u
        exact absurd u (by decide)
      have s : F 2 = 3 ∨ F 2 = 4 ∨ F 2 = 5 := by omega
      rcases s with e2 | e2 | e2
      · have e3 : F 3 = 2 := by have u := t2.2.2.2; rw [e2] at u; exact u
        have n0 : F 4 ≠ 0 := fun q => by
          have u := t4.2.2.2
          rw [q, e0] at u
          exact absurd u (by decide)
        have n1 : F 4 ≠ 1 := fun q => by
          have u := t4.2.2.2
          rw [q, e1] at u
          exact absurd u (by decide)
        have n2 : F 4 ≠ 2 := fun q => by
          have u := t4.2.2.2
          rw [q, e2] at u
          exact absurd u (by decide)
        have n3 : F 4 ≠ 3 := fun q => by
          have u := t4.2.2.2
          rw [q, e3] at u
          exact absurd u (by decide)
        have n6 : F 4 ≠ 6 := fun q => by
          have u := t4.2.2.2
          rw [q, e6] at u
          exact absurd u (by decide)
        have n7 : F 4 ≠ 7 := fun q => by
          have u := t4.2.2.2
          rw [q, e7] at u
          exact absurd u (by decide)
        have e4 : F 4 = 5 := by omega
        have e5 : F 5 = 4 := by have u := t4.2.2.2; rw [e4] at u; exact u
        exact pr_l4 102 e0 e1 e2 e3 e4 e5 e6 e7 rfl (by decide)
      · have e4 : F 4 = 2 := by have u := t2.2.2.2; rw [e2] at u; exact u
        have n0 : F 3 ≠ 0 := fun q => by
          have u := t3.2.2.2
          rw [q, e0] at u
          exact absurd u (by decide)
        have n1 : F 3 ≠ 1 := fun q => by
          have u := t3.2.2.2
          rw [q, e1] at u
          exact absurd u (by decide)
        have n2 : F 3 ≠ 2 := fun q => by
          have u := t3.2.2.2
          rw [q, e2] at u
          exact absurd u (by decide)
        have n4 : F 3 ≠ 4 := fun q => by
          have u := t3.2.2.2
          rw [q, e4] at u
          exact absurd u (by decide)
        have n6 : F 3 ≠ 6 := fun q => by
          have u := t3.2.2.2
          rw [q, e6] at u
          exact absurd u (by decide)
        have n7 : F 3 ≠ 7 := fun q => by
          have u := t3.2.2.2
          rw [q, e7] at u
          exact absurd u (by decide)
        have e3 : F 3 = 5 := by omega
        have e5 : F 5 = 3 := by have u := t3.2.2.2; rw [e3] at u; exact u
        exact pr_l4 103 e0 e1 e2 e3 e4 e5 e6 e7 rfl (by decide)
      · have e5 : F 5 = 2 := by have u := t2.2.2.2; rw [e2] at u; exact u
        have n0 : F 3 ≠ 0 := fun q => by
          have u := t3.2.2.2
          rw [q, e0] at u
          exact absurd u (by decide)
        have n1 : F 3 ≠ 1 := fun q => by
          have u := t3.2.2.2
          rw [q, e1] at u
          exact absurd u (by decide)
        have n2 : F 3 ≠ 2 := fun q => by
          have u := t3.2.2.2
          rw [q, e2] at u
          exact absurd u (by decide)
        have n5 : F 3 ≠ 5 := fun q => by
          have u := t3.2.2.2
          rw [q, e5] at u
          exact absurd u (by decide)
        have n6 : F 3 ≠ 6 := fun q => by
          have u := t3.2.2.2
          rw [q, e6] at u
          exact absurd u (by decide)
        have n7 : F 3 ≠ 7 := fun q => by
          have u := t3.2.2.2
          rw [q, e7] at u
          exact absurd u (by decide)
        have e3 : F 3 = 4 := by omega
        have e4 : F 4 = 3 := by have u := t3.2.2.2; rw [e3] at u; exact u
        exact pr_l4 104 e0 e1 e2 e3 e4 e5 e6 e7 rfl (by decide)
def mo_t (y : Nat) : Nat → aq_T := fun k => match k with
  | 0 => .inr (vR (y + 1))
  | 1 => .inr (vR (y + 2))
  | 2 => .inr (vR (y + 3))
  | 3 => .inr (vR (y + 4))
  | 4 => .inr (vR (y + 5))
  | 5 => .inr (vR (y + 6))
  | 6 => .inr (vR (y + 7))
  | 7 => .inr (vR (y + 8))
  | 8 => .inr (vR (y + 9))
  | 11 => .inr (vR (y + 10))
  | 12 => .inr (vR (y + 11))
  | 13 => .inr (vR (y + 12))
  | 14 => .inr (vR (y + 13))
  | 16 => .inr (vR (y + 14))
  | 18 => .inr (vR (y + 15))
  | 19 => .inr (vR (y + 16))
  | 20 => .inr (vR (y + 17))
  | 21 => .inr (vR (y + 18))
  | 22 => .inr (vR (y + 19))
  | 23 => .inr (vR (y + 20))
  | 24 => .inr (vR (y + 21))
  | 25 => .inr (vR (y + 22))
  | 26 => .inr (vR (y + 23))
  | _ => .inl 0
def mo_0 (m : Nat) (F : aq_F) (y : Nat) : Prop := y + 24 ≤ m ∧ F y = (15, 27, mo_t y) ∧ F (y + 5) = (0, 8, fun _ => .inl 0) ∧ F (y + 6) = (0, 8, fun _ => .inl 0) ∧ F (y + 7) = (0, 320, fun _ => .inl 0) ∧ F (y + 8) = (0, 320, fun _ => .inl 0) ∧ F (y + 9) = (2, 320, fun _ => .inl 2) ∧ F (y + 10) = (0, 8, fun _ => .inl 0) ∧ F (y + 11) = (1, 8, fun _ => .inl 0) ∧ F (y + 12) = (0, 8, fun _ => .inl 0) ∧ F (y + 13) = (1, 4, fun _ => .inl 0) ∧ F (y + 14) = (0, 105, fun _ => .inl 0) ∧ F (y + 15) = (0, 42, fun _ => .inl 0) ∧ F (y + 16) = (0, 42, fun _ => .inl 0) ∧ F (y + 17) = (2, 42, fun _ => .inl 2) ∧ F (y + 18) = (0, 4, fun _ => .inl 0) ∧ F (y + 19) = (0, 4, fun _ => .inl 0) ∧ F (y + 20) = (0, 36, fun _ => .inl 0) ∧ F (y + 21) = (0, 201, fun _ => .inl 0) ∧ F (y + 22) = (0, 201, fun _ => .inl 0) ∧ F (y + 23) = (0, 201, fun _ => .inl 0)
/-- the first box of n strands -/
def mo_f (n : Int) : Int := if n = 1 then 0 else if n = 2 then 1 else if n = 3 then 4 else 19
theorem mo_fs (n : Int) : 0 ≤ mo_f n ∧ mo_f n + bx_K n ≤ 124 ∧ 1 ≤ bx_K n ∧ bx_K n ≤ 105 := by
  unfold mo_f bx_K
  (repeat' split) <;> omega
/-- the table -/
def mo_T (F : aq_F) (y : Nat) (tbl : Int → Int) : Prop := F (y + 1) = (0, 992, fun j => .inr (vI (tbl (j : Int)))) ∧ ∀ n b p : Int, 1 ≤ n → n ≤ 4 → 0 ≤ b → b < bx_K n → 0 ≤ p → p < 2 * n → tbl (8 * (mo_f n + b) + p) = prt n b p
theorem pr_f1 : ∀ b : Nat, b < 1 → ∀ p : Nat, p < 2 → 0 ≤ prt 1 b p ∧ prt 1 b p < 2 ∧ prt 1 b p ≠ p ∧ prt 1 b (prt 1 b p) = p := by decide +kernel
theorem pr_f2 : ∀ b : Nat, b < 3 → ∀ p : Nat, p < 4 → 0 ≤ prt 2 b p ∧ prt 2 b p < 4 ∧ prt 2 b p ≠ p ∧ prt 2 b (prt 2 b p) = p := by decide +kernel
theorem pr_f3 : ∀ b : Nat, b < 15 → ∀ p : Nat, p < 6 → 0 ≤ prt 3 b p ∧ prt 3 b p < 6 ∧ prt 3 b p ≠ p ∧ prt 3 b (prt 3 b p) = p := by decide +kernel
theorem pr_f4 : ∀ b : Nat, b < 105 → ∀ p : Nat, p < 8 → 0 ≤ prt 4 b p ∧ prt 4 b p < 8 ∧ prt 4 b p ≠ p ∧ prt 4 b (prt 4 b p) = p := by decide +kernel
theorem pr_fi {n b : Int} (h1 : 1 ≤ n) (h4 : n ≤ 4) (h0 : 0 ≤ b) (hb : b < bx_K n) : fi n (prt n b) := by
  intro p hp hq
  have h : n = 1 ∨ n = 2 ∨ n = 3 ∨ n = 4 := by omega
  have eb : ((b.toNat : Nat) : Int) = b := Int.toNat_of_nonneg h0
  have ep : ((p.toNat : Nat) : Int) = p := Int.toNat_of_nonneg hp
  rcases h with h | h | h | h <;> subst h
  · have hk : bx_K 1 = 1 := rfl
    have := pr_f1 b.toNat (by omega) p.toNat (by omega)
    rw [eb, ep] at this
    exact this
  · have hk : bx_K 2 = 3 := rfl
    have := pr_f2 b.toNat (by omega) p.toNat (by omega)
    rw [eb, ep] at this
    exact this
  · have hk : bx_K 3 = 15 := rfl
    have := pr_f3 b.toNat (by omega) p.toNat (by omega)
    rw [eb, ep] at this
    exact this
  · have hk : bx_K 4 = 105 := rfl
    have := pr_f4 b.toNat (by omega) p.toNat (by omega)
    rw [eb, ep] at this
    exact this
theorem pr_c {n : Int} {F : Int → Int} (h1 : 1 ≤ n) (h4 : n ≤ 4) (h : fi n F) : ∃ b : Int, 0 ≤ b ∧ b < bx_K n ∧ ∀ p, 0 ≤ p → p < 2 * n → prt n b p = F p := by
  have h9 : n = 1 ∨ n = 2 ∨ n = 3 ∨ n = 4 := by omega
  rcases h9 with h9 | h9 | h9 | h9 <;> subst h9
  · exact pr_c1 h
  · exact pr_c2 h
  · exact pr_c3 h
  · exact pr_c4 h

theorem qm_in {m s : Nat} {F : aq_F} {c : aq_C} {v0 lo hi : Int} : am_E ac_X5_in (0, [vL v0, vU, vL lo, vU, vL hi, vU], [], aq_h m s F c) (aq_P m s F c (fun r => ∃ v, r = some (vI v) ∧ ((v = 1 ∧ (lo ≤ v0 ∧ v0 ≤ hi)) ∨ (v = 0 ∧ ¬ (lo ≤ v0 ∧ v0 ≤ hi))))) := by
  refine am_E.go (t2 := (1, [vL v0, vU, vL lo, vU, vL hi, vU], [vL v0], aq_h m s F c)) rfl rfl ?_
  refine am_E.go (t2 := (2, [vL v0, vU, vL lo, vU, vL hi, vU], [vL lo, vL v0], aq_h m s F c)) rfl rfl ?_
  have ez_1 := am_lcf v0 lo
  refine am_E.go (t2 := (3, [vL v0, vU, vL lo, vU, vL hi, vU], [vI (if v0 < lo then -1 else if v0 = lo then 0 else 1)], aq_h m s F c)) rfl rfl ?_
  generalize (if v0 < lo then -1 else if v0 = lo then 0 else 1) = z_1 at ez_1 ⊢
  refine ae_if0 rfl (fun (q_2 : z_1 < 0) => ?_) (fun (q_2 : 0 ≤ z_1) => ?_)
  · refine am_E.go (t2 := (18, [vL v0, vU, vL lo, vU, vL hi, vU], [vI 0], aq_h m s F c)) rfl rfl ?_
    refine am_E.ret rfl rfl ?_
    exact ⟨rfl, _, rfl, by omega⟩
  · refine am_E.go (t2 := (7, [vL v0, vU, vL lo, vU, vL hi, vU], [vL v0], aq_h m s F c)) rfl rfl ?_
    refine am_E.go (t2 := (9, [vL v0, vU, vL lo, vU, vL hi, vU], [vL hi, vL v0], aq_h m s F c)) rfl rfl ?_
    have ez_3 := am_lcf v0 hi
    refine am_E.go (t2 := (10, [vL v0, vU, vL lo, vU, vL hi, vU], [vI (if v0 < hi then -1 else if v0 = hi then 0 else 1)], aq_h m s F c)) rfl rfl ?_
    generalize (if v0 < hi then -1 else if v0 = hi then 0 else 1) = z_3 at ez_3 ⊢
    refine ae_if0 rfl (fun (q_4 : 0 < z_3) => ?_) (fun (q_4 : z_3 ≤ 0) => ?_)
    · refine am_E.go (t2 := (18, [vL v0, vU, vL lo, vU, vL hi, vU], [vI 0], aq_h m s F c)) rfl rfl ?_
      refine am_E.ret rfl rfl ?_
      exact ⟨rfl, _, rfl, by omega⟩
    · refine am_E.go (t2 := (14, [vL v0, vU, vL lo, vU, vL hi, vU], [vI 1], aq_h m s F c)) rfl rfl ?_
      refine am_E.go (t2 := (18, [vL v0, vU, vL lo, vU, vL hi, vU], [vI 1], aq_h m s F c)) rfl rfl ?_
      refine am_E.ret rfl rfl ?_
      exact ⟨rfl, _, rfl, by omega⟩

theorem qm_isWide {m s : Nat} {F : aq_F} {c : aq_C} {n : Int} : am_E ac_X5_isWide (0, [vI n], [], aq_h m s F c) (aq_P m s F c (fun r => ∃ v, r = some (vI v) ∧ ((v = 1 ∧ (1 ≤ n ∧ n ≤ 4)) ∨ (v = 0 ∧ ¬ (1 ≤ n ∧ n ≤ 4))))) := by
  refine am_E.go (t2 := (1, [vI n], [vI n], aq_h m s F c)) rfl rfl ?_
  refine am_E.go (t2 := (2, [vI n], [vL n], aq_h m s F c)) rfl rfl ?_
  refine am_E.go (t2 := (3, [vI n], [vL 1, vL n], aq_h m s F c)) rfl rfl ?_
  refine am_E.go (t2 := (6, [vI n], [vL 4, vL 1, vL n], aq_h m s F c)) rfl rfl ?_
  refine am_E.call rfl rfl rfl (Nat.le_of_ble_eq_true rfl) (qm_in) ?_
  rintro r5 h5 ⟨rfl, v_1, rfl, hv_1⟩
  show am_E _ (9, [vI n], [vI v_1], aq_h m s F c) _
  refine ae_retb rfl (by omega) ?_
  exact ⟨rfl, _, rfl, by omega⟩

theorem qm_boxes {m s : Nat} {F : aq_F} {c : aq_C} {n : Int} : am_E ac_X5_boxes (0, [vI n], [], aq_h m s F c) (aq_P m s F c (fun r => ∃ v, r = some (vI v) ∧ v = bx_K n)) := by
  refine am_E.go (t2 := (1, [vI n], [vI n], aq_h m s F c)) rfl rfl ?_
  refine am_E.go (t2 := (2, [vI n], [vI 1, vI n], aq_h m s F c)) rfl rfl ?_
  refine ae_icmp rfl (fun (q_1 : n ≠ 1) => ?_) (fun (q_1 : n = 1) => ?_)
  · refine am_E.go (t2 := (10, [vI n], [vI n], aq_h m s F c)) rfl rfl ?_
    refine am_E.go (t2 := (11, [vI n], [vI 2, vI n], aq_h m s F c)) rfl rfl ?_
    refine ae_icmp rfl (fun (q_2 : n ≠ 2) => ?_) (fun (q_2 : n = 2) => ?_)
    · refine am_E.go (t2 := (19, [vI n], [vI n], aq_h m s F c)) rfl rfl ?_
      refine am_E.go (t2 := (20, [vI n], [vI 3, vI n], aq_h m s F c)) rfl rfl ?_
      refine ae_icmp rfl (fun (q_3 : n ≠ 3) => ?_) (fun (q_3 : n = 3) => ?_)
      · refine am_E.go (t2 := (30, [vI n], [vI 105], aq_h m s F c)) rfl rfl ?_
        refine am_E.ret rfl rfl ?_
        refine ⟨rfl, _, rfl, ?_⟩
        unfold bx_K
        (repeat' split) <;> omega
      · refine am_E.go (t2 := (25, [vI n], [vI 15], aq_h m s F c)) rfl rfl ?_
        refine am_E.go (t2 := (30, [vI n], [vI 15], aq_h m s F c)) rfl rfl ?_
        refine am_E.ret rfl rfl ?_
        refine ⟨rfl, _, rfl, ?_⟩
        unfold bx_K
        (repeat' split) <;> omega
    · refine am_E.go (t2 := (15, [vI n], [vI 3], aq_h m s F c)) rfl rfl ?_
      refine am_E.go (t2 := (30, [vI n], [vI 3], aq_h m s F c)) rfl rfl ?_
      refine am_E.ret rfl rfl ?_
      refine ⟨rfl, _, rfl, ?_⟩
      unfold bx_K
      (repeat' split) <;> omega
  · refine am_E.go (t2 := (6, [vI n], [vI 1], aq_h m s F c)) rfl rfl ?_
    refine am_E.go (t2 := (30, [vI n], [vI 1], aq_h m s F c)) rfl rfl ?_
    refine am_E.ret rfl rfl ?_
    refine ⟨rfl, _, rfl, ?_⟩
    unfold bx_K
    (repeat' split) <;> omega

theorem qm_first {m s : Nat} {F : aq_F} {c : aq_C} {n : Int} : am_E ac_X5_first (0, [vI n], [], aq_h m s F c) (aq_P m s F c (fun r => ∃ v, r = some (vI v) ∧ v = mo_f n)) := by
  refine am_E.go (t2 := (1, [vI n], [vI n], aq_h m s F c)) rfl rfl ?_
  refine am_E.go (t2 := (2, [vI n], [vI 1, vI n], aq_h m s F c)) rfl rfl ?_
  refine ae_icmp rfl (fun (q_1 : n ≠ 1) => ?_) (fun (q_1 : n = 1) => ?_)
  · refine am_E.go (t2 := (10, [vI n], [vI n], aq_h m s F c)) rfl rfl ?_
    refine am_E.go (t2 := (11, [vI n], [vI 2, vI n], aq_h m s F c)) rfl rfl ?_
    refine ae_icmp rfl (fun (q_2 : n ≠ 2) => ?_) (fun (q_2 : n = 2) => ?_)
    · refine am_E.go (t2 := (19, [vI n], [vI n], aq_h m s F c)) rfl rfl ?_
      refine am_E.go (t2 := (20, [vI n], [vI 3, vI n], aq_h m s F c)) rfl rfl ?_
      refine ae_icmp rfl (fun (q_3 : n ≠ 3) => ?_) (fun (q_3 : n = 3) => ?_)
      · refine am_E.go (t2 := (29, [vI n], [vI 19], aq_h m s F c)) rfl rfl ?_
        refine am_E.ret rfl rfl ?_
        refine ⟨rfl, _, rfl, ?_⟩
        unfold mo_f
        (repeat' split) <;> omega
      · refine am_E.go (t2 := (24, [vI n], [vI 4], aq_h m s F c)) rfl rfl ?_
        refine am_E.go (t2 := (29, [vI n], [vI 4], aq_h m s F c)) rfl rfl ?_
        refine am_E.ret rfl rfl ?_
        refine ⟨rfl, _, rfl, ?_⟩
        unfold mo_f
        (repeat' split) <;> omega
    · refine am_E.go (t2 := (15, [vI n], [vI 1], aq_h m s F c)) rfl rfl ?_
      refine am_E.go (t2 := (29, [vI n], [vI 1], aq_h m s F c)) rfl rfl ?_
      refine am_E.ret rfl rfl ?_
      refine ⟨rfl, _, rfl, ?_⟩
      unfold mo_f
      (repeat' split) <;> omega
  · refine am_E.go (t2 := (6, [vI n], [vI 0], aq_h m s F c)) rfl rfl ?_
    refine am_E.go (t2 := (29, [vI n], [vI 0], aq_h m s F c)) rfl rfl ?_
    refine am_E.ret rfl rfl ?_
    refine ⟨rfl, _, rfl, ?_⟩
    unfold mo_f
    (repeat' split) <;> omega

theorem qm_isBox {m s : Nat} {F : aq_F} {c : aq_C} {n b : Int} : am_E ac_X5_isBox (0, [vI n, vI b], [], aq_h m s F c) (aq_P m s F c (fun r => ∃ v, r = some (vI v) ∧ ((v = 1 ∧ (1 ≤ n ∧ n ≤ 4 ∧ 0 ≤ b ∧ b < bx_K n)) ∨ (v = 0 ∧ ¬ (1 ≤ n ∧ n ≤ 4 ∧ 0 ≤ b ∧ b < bx_K n))))) := by
  have hfs := mo_fs n
  refine am_E.go (t2 := (1, [vI n, vI b], [vI n], aq_h m s F c)) rfl rfl ?_
  refine am_E.call rfl rfl rfl (Nat.le_of_ble_eq_true rfl) (qm_isWide) ?_
  rintro r5 h5 ⟨rfl, v_1, rfl, hv_1⟩
  show am_E _ (4, [vI n, vI b], [vI v_1], aq_h m s F c) _
  refine ae_if0 rfl (fun (q_2 : v_1 = 0) => ?_) (fun (q_2 : v_1 ≠ 0) => ?_)
  · refine am_E.go (t2 := (28, [vI n, vI b], [vI 0], aq_h m s F c)) rfl rfl ?_
    refine am_E.ret rfl rfl ?_
    exact ⟨rfl, _, rfl, by omega⟩
  · refine am_E.go (t2 := (8, [vI n, vI b], [vI b], aq_h m s F c)) rfl rfl ?_
    refine am_E.go (t2 := (9, [vI n, vI b], [vL b], aq_h m s F c)) rfl rfl ?_
    refine am_E.go (t2 := (10, [vI n, vI b], [vL 0, vL b], aq_h m s F c)) rfl rfl ?_
    refine am_E.go (t2 := (11, [vI n, vI b], [vI n, vL 0, vL b], aq_h m s F c)) rfl rfl ?_
    refine am_E.call rfl rfl rfl (Nat.le_of_ble_eq_true rfl) (qm_boxes) ?_
    rintro r5 h5 ⟨rfl, v_3, rfl, hv_3⟩
    show am_E _ (14, [vI n, vI b], [vI v_3, vL 0, vL b], aq_h m s F c) _
    refine am_E.go (t2 := (15, [vI n, vI b], [vI 1, vI v_3, vL 0, vL b], aq_h m s F c)) rfl rfl ?_
    refine ae_sub rfl (am_ri (by omega) (by omega)) ?_
    show am_E _ (16, [vI n, vI b], [vI (v_3 - 1), vL 0, vL b], aq_h m s F c) _
    refine am_E.go (t2 := (17, [vI n, vI b], [vL (v_3 - 1), vL 0, vL b], aq_h m s F c)) rfl rfl ?_
    refine am_E.call rfl rfl rfl (Nat.le_of_ble_eq_true rfl) (qm_in) ?_
    rintro r5 h5 ⟨rfl, v_4, rfl, hv_4⟩
    show am_E _ (20, [vI n, vI b], [vI v_4], aq_h m s F c) _
    refine ae_if0 rfl (fun (q_5 : v_4 = 0) => ?_) (fun (q_5 : v_4 ≠ 0) => ?_)
    · refine am_E.go (t2 := (28, [vI n, vI b], [vI 0], aq_h m s F c)) rfl rfl ?_
      refine am_E.ret rfl rfl ?_
      exact ⟨rfl, _, rfl, by omega⟩
    · refine am_E.go (t2 := (24, [vI n, vI b], [vI 1], aq_h m s F c)) rfl rfl ?_
      refine am_E.go (t2 := (28, [vI n, vI b], [vI 1], aq_h m s F c)) rfl rfl ?_
      refine am_E.ret rfl rfl ?_
      exact ⟨rfl, _, rfl, by omega⟩

theorem qm_at {m s : Nat} {F : aq_F} {c : aq_C} {n b : Int} (h0 : 0 ≤ b) (h1 : b < bx_K n) : am_E ac_X5_at (0, [vI n, vI b], [], aq_h m s F c) (aq_P m s F c (fun r => ∃ v, r = some (vI v) ∧ v = 8 * (mo_f n + b))) := by
  have hfs := mo_fs n
  refine am_E.go (t2 := (2, [vI n, vI b], [vI 8], aq_h m s F c)) rfl rfl ?_
  refine am_E.go (t2 := (3, [vI n, vI b], [vI n, vI 8], aq_h m s F c)) rfl rfl ?_
  refine am_E.call rfl rfl rfl (Nat.le_of_ble_eq_true rfl) (qm_first) ?_
  rintro r5 h5 ⟨rfl, v_1, rfl, hv_1⟩
  show am_E _ (6, [vI n, vI b], [vI v_1, vI 8], aq_h m s F c) _
  refine am_E.go (t2 := (7, [vI n, vI b], [vI b, vI v_1, vI 8], aq_h m s F c)) rfl rfl ?_
  refine ae_add rfl (am_ri (by omega) (by omega)) ?_
  show am_E _ (8, [vI n, vI b], [vI (v_1 + b), vI 8], aq_h m s F c) _
  refine ae_mul rfl (am_ri (by omega) (by omega)) ?_
  show am_E _ (9, [vI n, vI b], [vI (8 * (v_1 + b))], aq_h m s F c) _
  refine am_E.ret rfl rfl ?_
  exact ⟨rfl, _, rfl, by omega⟩

theorem qm_isLetter {m s : Nat} {F : aq_F} {c : aq_C} {n l : Int} (h0 : -100 ≤ n) (h1 : n ≤ 100) : am_E ac_X5_isLetter (0, [vI n, vI l], [], aq_h m s F c) (aq_P m s F c (fun r => ∃ v, r = some (vI v) ∧ ((v = 1 ∧ ((1 ≤ l ∧ l < n) ∨ (11 ≤ l ∧ l < 10 + n))) ∨ (v = 0 ∧ ¬ ((1 ≤ l ∧ l < n) ∨ (11 ≤ l ∧ l < 10 + n)))))) := by
  refine am_E.go (t2 := (1, [vI n, vI l], [vI l], aq_h m s F c)) rfl rfl ?_
  refine am_E.go (t2 := (2, [vI n, vI l], [vL l], aq_h m s F c)) rfl rfl ?_
  refine am_E.go (t2 := (3, [vI n, vI l], [vL 1, vL l], aq_h m s F c)) rfl rfl ?_
  refine am_E.go (t2 := (4, [vI n, vI l], [vI n, vL 1, vL l], aq_h m s F c)) rfl rfl ?_
  refine am_E.go (t2 := (5, [vI n, vI l], [vI 1, vI n, vL 1, vL l], aq_h m s F c)) rfl rfl ?_
  refine ae_sub rfl (am_ri (by omega) (by omega)) ?_
  show am_E _ (6, [vI n, vI l], [vI (n - 1), vL 1, vL l], aq_h m s F c) _
  refine am_E.go (t2 := (7, [vI n, vI l], [vL (n - 1), vL 1, vL l], aq_h m s F c)) rfl rfl ?_
  refine am_E.call rfl rfl rfl (Nat.le_of_ble_eq_true rfl) (qm_in) ?_
  rintro r5 h5 ⟨rfl, v_1, rfl, hv_1⟩
  show am_E _ (10, [vI n, vI l], [vI v_1], aq_h m s F c) _
  refine ae_if0 rfl (fun (q_2 : v_1 ≠ 0) => ?_) (fun (q_2 : v_1 = 0) => ?_)
  · refine am_E.go (t2 := (30, [vI n, vI l], [vI 1], aq_h m s F c)) rfl rfl ?_
    refine am_E.go (t2 := (34, [vI n, vI l], [vI 1], aq_h m s F c)) rfl rfl ?_
    refine am_E.ret rfl rfl ?_
    exact ⟨rfl, _, rfl, by omega⟩
  · refine am_E.go (t2 := (14, [vI n, vI l], [vI l], aq_h m s F c)) rfl rfl ?_
    refine am_E.go (t2 := (15, [vI n, vI l], [vL l], aq_h m s F c)) rfl rfl ?_
    refine am_E.go (t2 := (18, [vI n, vI l], [vL 11, vL l], aq_h m s F c)) rfl rfl ?_
    refine am_E.go (t2 := (20, [vI n, vI l], [vI 9, vL 11, vL l], aq_h m s F c)) rfl rfl ?_
    refine am_E.go (t2 := (21, [vI n, vI l], [vI n, vI 9, vL 11, vL l], aq_h m s F c)) rfl rfl ?_
    refine ae_add rfl (am_ri (by omega) (by omega)) ?_
    show am_E _ (22, [vI n, vI l], [vI (9 + n), vL 11, vL l], aq_h m s F c) _
    refine am_E.go (t2 := (23, [vI n, vI l], [vL (9 + n), vL 11, vL l], aq_h m s F c)) rfl rfl ?_
    refine am_E.call rfl rfl rfl (Nat.le_of_ble_eq_true rfl) (qm_in) ?_
    rintro r5 h5 ⟨rfl, v_3, rfl, hv_3⟩
    show am_E _ (26, [vI n, vI l], [vI v_3], aq_h m s F c) _
    refine ae_if0 rfl (fun (q_4 : v_3 = 0) => ?_) (fun (q_4 : v_3 ≠ 0) => ?_)
    · refine am_E.go (t2 := (34, [vI n, vI l], [vI 0], aq_h m s F c)) rfl rfl ?_
      refine am_E.ret rfl rfl ?_
      exact ⟨rfl, _, rfl, by omega⟩
    · refine am_E.go (t2 := (30, [vI n, vI l], [vI 1], aq_h m s F c)) rfl rfl ?_
      refine am_E.go (t2 := (34, [vI n, vI l], [vI 1], aq_h m s F c)) rfl rfl ?_
      refine am_E.ret rfl rfl ?_
      exact ⟨rfl, _, rfl, by omega⟩

theorem qm_isSum {m s : Nat} {F : aq_F} {c : aq_C} {n : Int} : am_E ac_X5_isSum (0, [vI n], [], aq_h m s F c) (aq_P m s F c (fun r => ∃ v, r = some (vI v) ∧ ((v = 1 ∧ (0 ≤ n ∧ n < 8)) ∨ (v = 0 ∧ ¬ (0 ≤ n ∧ n < 8))))) := by
  refine am_E.go (t2 := (1, [vI n], [vI n], aq_h m s F c)) rfl rfl ?_
  refine am_E.go (t2 := (2, [vI n], [vL n], aq_h m s F c)) rfl rfl ?_
  refine am_E.go (t2 := (3, [vI n], [vL 0, vL n], aq_h m s F c)) rfl rfl ?_
  refine am_E.go (t2 := (6, [vI n], [vL 7, vL 0, vL n], aq_h m s F c)) rfl rfl ?_
  refine am_E.call rfl rfl rfl (Nat.le_of_ble_eq_true rfl) (qm_in) ?_
  rintro r5 h5 ⟨rfl, v_1, rfl, hv_1⟩
  show am_E _ (9, [vI n], [vI v_1], aq_h m s F c) _
  refine ae_retb rfl (by omega) ?_
  exact ⟨rfl, _, rfl, by omega⟩

theorem qm_areHalves {m s : Nat} {F : aq_F} {c : aq_C} {n t : Int} : am_E ac_X5_areHalves (0, [vI n, vI t], [], aq_h m s F c) (aq_P m s F c (fun r => ∃ v, r = some (vI v) ∧ ((v = 1 ∧ (1 ≤ n ∧ n ≤ 4 ∧ 0 ≤ t ∧ t ≤ n)) ∨ (v = 0 ∧ ¬ (1 ≤ n ∧ n ≤ 4 ∧ 0 ≤ t ∧ t ≤ n))))) := by
  refine am_E.go (t2 := (1, [vI n, vI t], [vI n], aq_h m s F c)) rfl rfl ?_
  refine am_E.call rfl rfl rfl (Nat.le_of_ble_eq_true rfl) (qm_isWide) ?_
  rintro r5 h5 ⟨rfl, v_1, rfl, hv_1⟩
  show am_E _ (4, [vI n, vI t], [vI v_1], aq_h m s F c) _
  refine ae_if0 rfl (fun (q_2 : v_1 = 0) => ?_) (fun (q_2 : v_1 ≠ 0) => ?_)
  · refine am_E.go (t2 := (23, [vI n, vI t], [vI 0], aq_h m s F c)) rfl rfl ?_
    refine am_E.ret rfl rfl ?_
    exact ⟨rfl, _, rfl, by omega⟩
  · refine am_E.go (t2 := (8, [vI n, vI t], [vI t], aq_h m s F c)) rfl rfl ?_
    refine am_E.go (t2 := (9, [vI n, vI t], [vL t], aq_h m s F c)) rfl rfl ?_
    refine am_E.go (t2 := (10, [vI n, vI t], [vL 0, vL t], aq_h m s F c)) rfl rfl ?_
    refine am_E.go (t2 := (11, [vI n, vI t], [vI n, vL 0, vL t], aq_h m s F c)) rfl rfl ?_
    refine am_E.go (t2 := (12, [vI n, vI t], [vL n, vL 0, vL t], aq_h m s F c)) rfl rfl ?_
    refine am_E.call rfl rfl rfl (Nat.le_of_ble_eq_true rfl) (qm_in) ?_
    rintro r5 h5 ⟨rfl, v_3, rfl, hv_3⟩
    show am_E _ (15, [vI n, vI t], [vI v_3], aq_h m s F c) _
    refine ae_if0 rfl (fun (q_4 : v_3 = 0) => ?_) (fun (q_4 : v_3 ≠ 0) => ?_)
    · refine am_E.go (t2 := (23, [vI n, vI t], [vI 0], aq_h m s F c)) rfl rfl ?_
      refine am_E.ret rfl rfl ?_
      exact ⟨rfl, _, rfl, by omega⟩
    · refine am_E.go (t2 := (19, [vI n, vI t], [vI 1], aq_h m s F c)) rfl rfl ?_
      refine am_E.go (t2 := (23, [vI n, vI t], [vI 1], aq_h m s F c)) rfl rfl ?_
      refine am_E.ret rfl rfl ?_
      exact ⟨rfl, _, rfl, by omega⟩

theorem qm_round {m s : Nat} {F : aq_F} {c : aq_C} {n p : Int} : am_E ac_X5_round (0, [vI n, vI p], [], aq_h m s F c) (aq_P m s F c aq_vi) := by
  refine am_E.go (t2 := (1, [vI n, vI p], [vI p], aq_h m s F c)) rfl rfl ?_
  refine am_E.go (t2 := (2, [vI n, vI p], [vI n, vI p], aq_h m s F c)) rfl rfl ?_
  refine ae_icmp rfl (fun (q_1 : n ≤ p) => ?_) (fun (q_1 : p < n) => ?_)
  · refine am_E.go (t2 := (10, [vI n, vI p], [vI 3], aq_h m s F c)) rfl rfl ?_
    refine am_E.go (t2 := (11, [vI n, vI p], [vI n, vI 3], aq_h m s F c)) rfl rfl ?_
    refine am_E.go (t2 := (12, [vI n, vI p], [vI (am_w (3 * n))], aq_h m s F c)) rfl rfl ?_
    refine am_E.go (t2 := (13, [vI n, vI p], [vI 1, vI (am_w (3 * n))], aq_h m s F c)) rfl rfl ?_
    refine am_E.go (t2 := (14, [vI n, vI p], [vI (am_w ((am_w (3 * n)) - 1))], aq_h m s F c)) rfl rfl ?_
    refine am_E.go (t2 := (15, [vI n, vI p], [vI p, vI (am_w ((am_w (3 * n)) - 1))], aq_h m s F c)) rfl rfl ?_
    refine am_E.go (t2 := (16, [vI n, vI p], [vI (am_w ((am_w ((am_w (3 * n)) - 1)) - p))], aq_h m s F c)) rfl rfl ?_
    refine am_E.ret rfl rfl ?_
    exact ⟨rfl, _, rfl⟩
  · refine am_E.go (t2 := (6, [vI n, vI p], [vI p], aq_h m s F c)) rfl rfl ?_
    refine am_E.go (t2 := (16, [vI n, vI p], [vI p], aq_h m s F c)) rfl rfl ?_
    refine am_E.ret rfl rfl ?_
    exact ⟨rfl, _, rfl⟩

theorem qm_lead_l {m s : Nat} {F : aq_F} {c0 : aq_C} {S : Nat → Prop} {y : Nat} (hO : mo_0 m F y) (hS13 : S (y + 13)) {tbl : Int → Int} (hT1 : F (y + 1) = (0, 992, fun j => .inr (vI (tbl (j : Int))))) {n a b from_ T : Int} {Q : (Int → Int) → Prop} (hn1 : 1 ≤ n) (hn4 : n ≤ 4) (ha0 : 0 ≤ a) (ha1 : a + 8 ≤ 992) (hb0 : 0 ≤ b) (hb1 : b + 8 ≤ 992) {f g : Int → Int} (hf : ∀ p, 0 ≤ p → p < 2 * n → tbl (a + p) = f p) (hg : ∀ p, 0 ≤ p → p < 2 * n → tbl (b + p) = g p) (hfi : fi n f) (hgi : fi n g) : ∀ (d : Nat) (u : Bool) (p : Int) (v7 v8 : am_V) (c : aq_C) (hs : aq_sm S c0 c) (h0 : 0 ≤ p) (h1 : p < 2 * n) (he : exd n f g d u p) (hT : ldr n f g d u p = T) (hQ : ∀ w : Int → Int, (∀ i, c (y + 13) i = 1 → w i = 1) → mkd n f g w d u p → Q w), am_E ac_X5_lead (17, [vR y, vI n, vI a, vI b, vI from_, vI (if u then 1 else 0), vI p, v7, v8], [], aq_h m s F c) (aq_Z m s F S c0 (fun r d => r = some (vI T) ∧ Q (d (y + 13))))
  | 0, u, p, v7, v8, c, hs, h0, h1, he, hT, hQ => he.elim
  | d + 1, true, p, v7, v8, c, hs, h0, h1, he, hT, hQ => by
    obtain ⟨hm, hFo, hG5, hG6, hG7, hG8, hG9, hG10, hG11, hG12, hG13, hG14, hG15, hG16, hG17, hG18, hG19, hG20, hG21, hG22, hG23⟩ := hO
    show am_E _ (17, [vR y, vI n, vI a, vI b, vI from_, vI 1, vI p, v7, v8], [], aq_h m s F c) _
    refine am_E.go (t2 := (18, [vR y, vI n, vI a, vI b, vI from_, vI 1, vI p, v7, v8], [vR y], aq_h m s F c)) rfl rfl ?_
    refine aq_gf (v := vR (y + 1)) rfl (by omega) hFo (by decide) rfl ?_
    show am_E _ (21, [vR y, vI n, vI a, vI b, vI from_, vI 1, vI p, v7, v8], [vR (y + 1)], aq_h m s F c) _
    refine am_E.go (t2 := (23, [vR y, vI n, vI a, vI b, vI from_, vI 1, vI p, v7, v8], [vI 1, vR (y + 1)], aq_h m s F c)) rfl rfl ?_
    refine am_E.go (t2 := (26, [vR y, vI n, vI a, vI b, vI from_, vI 1, vI p, v7, v8], [vR (y + 1)], aq_h m s F c)) rfl rfl ?_
    refine am_E.go (t2 := (27, [vR y, vI n, vI a, vI b, vI from_, vI 1, vI p, v7, v8], [vI a, vR (y + 1)], aq_h m s F c)) rfl rfl ?_
    refine am_E.go (t2 := (31, [vR y, vI n, vI a, vI b, vI from_, vI 1, vI p, v7, v8], [vI a, vR (y + 1)], aq_h m s F c)) rfl rfl ?_
    refine am_E.go (t2 := (33, [vR y, vI n, vI a, vI b, vI from_, vI 1, vI p, v7, v8], [vI p, vI a, vR (y + 1)], aq_h m s F c)) rfl rfl ?_
    refine ae_add rfl (am_ri (by omega) (by omega)) ?_
    show am_E _ (34, [vR y, vI n, vI a, vI b, vI from_, vI 1, vI p, v7, v8], [vI (a + p), vR (y + 1)], aq_h m s F c) _
    have e_t := hf p (by omega) (by omega)
    have e_f := hfi p (by omega) (by omega)
    refine aq_alt (ok := fun k => k == 0) rfl rfl (by omega) hT1 rfl (by omega) (by omega) ?_
    rw [e_t]
    show am_E _ (35, [vR y, vI n, vI a, vI b, vI from_, vI 1, vI p, v7, v8], [vI (f p)], aq_h m s F c) _
    refine am_E.go (t2 := (37, [vR y, vI n, vI a, vI b, vI from_, vI 1, vI (f p), v7, v8], [], aq_h m s F c)) rfl rfl ?_
    refine am_E.go (t2 := (39, [vR y, vI n, vI a, vI b, vI from_, vI 1, vI (f p), v7, v8], [vI 1], aq_h m s F c)) rfl rfl ?_
    refine am_E.go (t2 := (42, [vR y, vI n, vI a, vI b, vI from_, vI 1, vI (f p), v7, v8], [], aq_h m s F c)) rfl rfl ?_
    refine am_E.go (t2 := (44, [vR y, vI n, vI a, vI b, vI from_, vI 1, vI (f p), v7, v8], [vI (f p)], aq_h m s F c)) rfl rfl ?_
    refine am_E.go (t2 := (45, [vR y, vI n, vI a, vI b, vI from_, vI 1, vI (f p), v7, v8], [vI n, vI (f p)], aq_h m s F c)) rfl rfl ?_
    refine ae_icmp rfl (fun (q_1 : n ≤ (f p)) => ?_) (fun (q_1 : (f p) < n) => ?_)
    · refine am_E.go (t2 := (53, [vR y, vI n, vI a, vI b, vI from_, vI 1, vI (f p), v7, v8], [vI 0], aq_h m s F c)) rfl rfl ?_
      refine am_E.go (t2 := (67, [vR y, vI n, vI a, vI b, vI from_, vI 1, vI (f p), v7, v8], [vI 0], aq_h m s F c)) rfl rfl ?_
      refine am_E.go (t2 := (69, [vR y, vI n, vI a, vI b, vI from_, vI 1, vI (f p), vI 0, v8], [], aq_h m s F c)) rfl rfl ?_
      refine am_E.go (t2 := (71, [vR y, vI n, vI a, vI b, vI from_, vI 1, vI (f p), vI 0, v8], [vI 0], aq_h m s F c)) rfl rfl ?_
      refine am_E.go (t2 := (77, [vR y, vI n, vI a, vI b, vI from_, vI 1, vI (f p), vI 0, v8], [], aq_h m s F c)) rfl rfl ?_
      refine am_E.go (t2 := (79, [vR y, vI n, vI a, vI b, vI from_, vI 1, vI (f p), vI 0, v8], [vI 1], aq_h m s F c)) rfl rfl ?_
      refine am_E.go (t2 := (82, [vR y, vI n, vI a, vI b, vI from_, vI 1, vI (f p), vI 0, v8], [], aq_h m s F c)) rfl rfl ?_
      refine am_E.go (t2 := (84, [vR y, vI n, vI a, vI b, vI from_, vI 1, vI (f p), vI 0, v8], [vI (f p)], aq_h m s F c)) rfl rfl ?_
      refine am_E.go (t2 := (85, [vR y, vI n, vI a, vI b, vI from_, vI 1, vI (f p), vI 0, v8], [vI n, vI (f p)], aq_h m s F c)) rfl rfl ?_
      refine ae_sub rfl (am_ri (by omega) (by omega)) ?_
      show am_E _ (86, [vR y, vI n, vI a, vI b, vI from_, vI 1, vI (f p), vI 0, v8], [vI ((f p) - n)], aq_h m s F c) _
      refine am_E.go (t2 := (91, [vR y, vI n, vI a, vI b, vI from_, vI 1, vI (f p), vI 0, v8], [vI ((f p) - n)], aq_h m s F c)) rfl rfl ?_
      refine am_E.go (t2 := (93, [vR y, vI n, vI a, vI b, vI from_, vI 1, vI (f p), vI 0, vI ((f p) - n)], [], aq_h m s F c)) rfl rfl ?_
      refine am_E.go (t2 := (94, [vR y, vI n, vI a, vI b, vI from_, vI 1, vI (f p), vI 0, vI ((f p) - n)], [vR y], aq_h m s F c)) rfl rfl ?_
      refine aq_gf (v := vR (y + 13)) rfl (by omega) hFo (by decide) rfl ?_
      show am_E _ (97, [vR y, vI n, vI a, vI b, vI from_, vI 1, vI (f p), vI 0, vI ((f p) - n)], [vR (y + 13)], aq_h m s F c) _
      refine am_E.go (t2 := (99, [vR y, vI n, vI a, vI b, vI from_, vI 1, vI (f p), vI 0, vI ((f p) - n)], [vI ((f p) - n), vR (y + 13)], aq_h m s F c)) rfl rfl ?_
      refine am_E.go (t2 := (100, [vR y, vI n, vI a, vI b, vI from_, vI 1, vI (f p), vI 0, vI ((f p) - n)], [vI 1, vI ((f p) - n), vR (y + 13)], aq_h m s F c)) rfl rfl ?_
      refine aq_as (kd := 1) rfl rfl (by omega) hG13 (by omega) (by omega) rfl rfl ?_
      show am_E _ (101, [vR y, vI n, vI a, vI b, vI from_, vI 1, vI (f p), vI 0, vI ((f p) - n)], [], aq_h m s F (aq_u c (y + 13) ((f p) - n) 1)) _
      generalize hdc_2 : aq_u c (y + 13) ((f p) - n) 1 = c_2
      have sc_2 := aq_smu hs hdc_2 (hS13)
      refine am_E.go (t2 := (103, [vR y, vI n, vI a, vI b, vI from_, vI 1, vI (f p), vI 0, vI ((f p) - n)], [vI 1], aq_h m s F c_2)) rfl rfl ?_
      refine am_E.go (t2 := (106, [vR y, vI n, vI a, vI b, vI from_, vI 1, vI (f p), vI 0, vI ((f p) - n)], [], aq_h m s F c_2)) rfl rfl ?_
      refine am_E.go (t2 := (108, [vR y, vI n, vI a, vI b, vI from_, vI 1, vI (f p), vI 0, vI ((f p) - n)], [vI ((f p) - n)], aq_h m s F c_2)) rfl rfl ?_
      refine am_E.go (t2 := (115, [vR y, vI n, vI a, vI b, vI from_, vI 1, vI (f p), vI 0, vI ((f p) - n)], [vI ((f p) - n)], aq_h m s F c_2)) rfl rfl ?_
      refine am_E.go (t2 := (117, [vR y, vI n, vI a, vI b, vI from_, vI 1, vI ((f p) - n), vI 0, vI ((f p) - n)], [], aq_h m s F c_2)) rfl rfl ?_
      refine am_E.go (t2 := (119, [vR y, vI n, vI a, vI b, vI from_, vI 1, vI ((f p) - n), vI 0, vI ((f p) - n)], [vI 1], aq_h m s F c_2)) rfl rfl ?_
      refine am_E.go (t2 := (126, [vR y, vI n, vI a, vI b, vI from_, vI 1, vI ((f p) - n), vI 0, vI ((f p) - n)], [], aq_h m s F c_2)) rfl rfl ?_
      refine am_E.go (t2 := (127, [vR y, vI n, vI a, vI b, vI from_, vI 1, vI ((f p) - n), vI 0, vI ((f p) - n)], [vI 0], aq_h m s F c_2)) rfl rfl ?_
      refine am_E.go (t2 := (129, [vR y, vI n, vI a, vI b, vI from_, vI 0, vI ((f p) - n), vI 0, vI ((f p) - n)], [], aq_h m s F c_2)) rfl rfl ?_
      refine am_E.go (t2 := (17, [vR y, vI n, vI a, vI b, vI from_, vI 0, vI ((f p) - n), vI 0, vI ((f p) - n)], [], aq_h m s F c_2)) rfl rfl ?_
      refine qm_lead_l ⟨hm, hFo, hG5, hG6, hG7, hG8, hG9, hG10, hG11, hG12, hG13, hG14, hG15, hG16, hG17, hG18, hG19, hG20, hG21, hG22, hG23⟩ hS13 hT1 hn1 hn4 ha0 ha1 hb0 hb1 hf hg hfi hgi d false ((f p) - n) _ _ c_2 sc_2 (by omega) (by omega) (he (by omega)) (by rw [← hT, ldr, if_pos (by omega)]) (fun w w1 w2 => hQ w (fun i hi => w1 i ?_) (fun _ => ⟨w1 _ ?_, w2⟩))
      · rw [← hdc_2]
        unfold aq_u
        split
        · rfl
        · exact hi
      · rw [← hdc_2, aq_us]
    · refine am_E.go (t2 := (49, [vR y, vI n, vI a, vI b, vI from_, vI 1, vI (f p), v7, v8], [vI 1], aq_h m s F c)) rfl rfl ?_
      refine am_E.go (t2 := (67, [vR y, vI n, vI a, vI b, vI from_, vI 1, vI (f p), v7, v8], [vI 1], aq_h m s F c)) rfl rfl ?_
      refine am_E.go (t2 := (69, [vR y, vI n, vI a, vI b, vI from_, vI 1, vI (f p), vI 1, v8], [], aq_h m s F c)) rfl rfl ?_
      refine am_E.go (t2 := (71, [vR y, vI n, vI a, vI b, vI from_, vI 1, vI (f p), vI 1, v8], [vI 1], aq_h m s F c)) rfl rfl ?_
      refine am_E.go (t2 := (74, [vR y, vI n, vI a, vI b, vI from_, vI 1, vI (f p), vI 1, v8], [], aq_h m s F c)) rfl rfl ?_
      refine am_E.go (t2 := (76, [vR y, vI n, vI a, vI b, vI from_, vI 1, vI (f p), vI 1, v8], [vI (f p)], aq_h m s F c)) rfl rfl ?_
      refine am_E.ret rfl rfl ?_
      exact ⟨_, rfl, hs, by rw [← hT, ldr, if_neg (by omega)], hQ _ (fun i h => h) (fun h => absurd h (by omega))⟩
  | d + 1, false, p, v7, v8, c, hs, h0, h1, he, hT, hQ => by
    obtain ⟨hm, hFo, hG5, hG6, hG7, hG8, hG9, hG10, hG11, hG12, hG13, hG14, hG15, hG16, hG17, hG18, hG19, hG20, hG21, hG22, hG23⟩ := hO
    show am_E _ (17, [vR y, vI n, vI a, vI b, vI from_, vI 0, vI p, v7, v8], [], aq_h m s F c) _
    refine am_E.go (t2 := (18, [vR y, vI n, vI a, vI b, vI from_, vI 0, vI p, v7, v8], [vR y], aq_h m s F c)) rfl rfl ?_
    refine aq_gf (v := vR (y + 1)) rfl (by omega) hFo (by decide) rfl ?_
    show am_E _ (21, [vR y, vI n, vI a, vI b, vI from_, vI 0, vI p, v7, v8], [vR (y + 1)], aq_h m s F c) _
    refine am_E.go (t2 := (23, [vR y, vI n, vI a, vI b, vI from_, vI 0, vI p, v7, v8], [vI 0, vR (y + 1)], aq_h m s F c)) rfl rfl ?_
    refine am_E.go (t2 := (30, [vR y, vI n, vI a, vI b, vI from_, vI 0, vI p, v7, v8], [vR (y + 1)], aq_h m s F c)) rfl rfl ?_
    refine am_E.go (t2 := (31, [vR y, vI n, vI a, vI b, vI from_, vI 0, vI p, v7, v8], [vI b, vR (y + 1)], aq_h m s F c)) rfl rfl ?_
    refine am_E.go (t2 := (33, [vR y, vI n, vI a, vI b, vI from_, vI 0, vI p, v7, v8], [vI p, vI b, vR (y + 1)], aq_h m s F c)) rfl rfl ?_
    refine ae_add rfl (am_ri (by omega) (by omega)) ?_
    show am_E _ (34, [vR y, vI n, vI a, vI b, vI from_, vI 0, vI p, v7, v8], [vI (b + p), vR (y + 1)], aq_h m s F c) _
    have e_t := hg p (by omega) (by omega)
    have e_f := hgi p (by omega) (by omega)
    refine aq_alt (ok := fun k => k == 0) rfl rfl (by omega) hT1 rfl (by omega) (by omega) ?_
    rw [e_t]
    show am_E _ (35, [vR y, vI n, vI a, vI b, vI from_, vI 0, vI p, v7, v8], [vI (g p)], aq_h m s F c) _
    refine am_E.go (t2 := (37, [vR y, vI n, vI a, vI b, vI from_, vI 0, vI (g p), v7, v8], [], aq_h m s F c)) rfl rfl ?_
    refine am_E.go (t2 := (39, [vR y, vI n, vI a, vI b, vI from_, vI 0, vI (g p), v7, v8], [vI 0], aq_h m s F c)) rfl rfl ?_
    refine am_E.go (t2 := (56, [vR y, vI n, vI a, vI b, vI from_, vI 0, vI (g p), v7, v8], [], aq_h m s F c)) rfl rfl ?_
    refine am_E.go (t2 := (58, [vR y, vI n, vI a, vI b, vI from_, vI 0, vI (g p), v7, v8], [vI (g p)], aq_h m s F c)) rfl rfl ?_
    refine am_E.go (t2 := (59, [vR y, vI n, vI a, vI b, vI from_, vI 0, vI (g p), v7, v8], [vI n, vI (g p)], aq_h m s F c)) rfl rfl ?_
    refine ae_icmp rfl (fun (q_1 : (g p) < n) => ?_) (fun (q_1 : n ≤ (g p)) => ?_)
    · refine am_E.go (t2 := (67, [vR y, vI n, vI a, vI b, vI from_, vI 0, vI (g p), v7, v8], [vI 0], aq_h m s F c)) rfl rfl ?_
      refine am_E.go (t2 := (69, [vR y, vI n, vI a, vI b, vI from_, vI 0, vI (g p), vI 0, v8], [], aq_h m s F c)) rfl rfl ?_
      refine am_E.go (t2 := (71, [vR y, vI n, vI a, vI b, vI from_, vI 0, vI (g p), vI 0, v8], [vI 0], aq_h m s F c)) rfl rfl ?_
      refine am_E.go (t2 := (77, [vR y, vI n, vI a, vI b, vI from_, vI 0, vI (g p), vI 0, v8], [], aq_h m s F c)) rfl rfl ?_
      refine am_E.go (t2 := (79, [vR y, vI n, vI a, vI b, vI from_, vI 0, vI (g p), vI 0, v8], [vI 0], aq_h m s F c)) rfl rfl ?_
      refine am_E.go (t2 := (89, [vR y, vI n, vI a, vI b, vI from_, vI 0, vI (g p), vI 0, v8], [], aq_h m s F c)) rfl rfl ?_
      refine am_E.go (t2 := (91, [vR y, vI n, vI a, vI b, vI from_, vI 0, vI (g p), vI 0, v8], [vI (g p)], aq_h m s F c)) rfl rfl ?_
      refine am_E.go (t2 := (93, [vR y, vI n, vI a, vI b, vI from_, vI 0, vI (g p), vI 0, vI (g p)], [], aq_h m s F c)) rfl rfl ?_
      refine am_E.go (t2 := (94, [vR y, vI n, vI a, vI b, vI from_, vI 0, vI (g p), vI 0, vI (g p)], [vR y], aq_h m s F c)) rfl rfl ?_
      refine aq_gf (v := vR (y + 13)) rfl (by omega) hFo (by decide) rfl ?_
      show am_E _ (97, [vR y, vI n, vI a, vI b, vI from_, vI 0, vI (g p), vI 0, vI (g p)], [vR (y + 13)], aq_h m s F c) _
      refine am_E.go (t2 := (99, [vR y, vI n, vI a, vI b, vI from_, vI 0, vI (g p), vI 0, vI (g p)], [vI (g p), vR (y + 13)], aq_h m s F c)) rfl rfl ?_
      refine am_E.go (t2 := (100, [vR y, vI n, vI a, vI b, vI from_, vI 0, vI (g p), vI 0, vI (g p)], [vI 1, vI (g p), vR (y + 13)], aq_h m s F c)) rfl rfl ?_
      refine aq_as (kd := 1) rfl rfl (by omega) hG13 (by omega) (by omega) rfl rfl ?_
      show am_E _ (101, [vR y, vI n, vI a, vI b, vI from_, vI 0, vI (g p), vI 0, vI (g p)], [], aq_h m s F (aq_u c (y + 13) (g p) 1)) _
      generalize hdc_2 : aq_u c (y + 13) (g p) 1 = c_2
      have sc_2 := aq_smu hs hdc_2 (hS13)
      refine am_E.go (t2 := (103, [vR y, vI n, vI a, vI b, vI from_, vI 0, vI (g p), vI 0, vI (g p)], [vI 0], aq_h m s F c_2)) rfl rfl ?_
      refine am_E.go (t2 := (111, [vR y, vI n, vI a, vI b, vI from_, vI 0, vI (g p), vI 0, vI (g p)], [], aq_h m s F c_2)) rfl rfl ?_
      refine am_E.go (t2 := (112, [vR y, vI n, vI a, vI b, vI from_, vI 0, vI (g p), vI 0, vI (g p)], [vI n], aq_h m s F c_2)) rfl rfl ?_
      refine am_E.go (t2 := (114, [vR y, vI n, vI a, vI b, vI from_, vI 0, vI (g p), vI 0, vI (g p)], [vI (g p), vI n], aq_h m s F c_2)) rfl rfl ?_
      refine ae_add rfl (am_ri (by omega) (by omega)) ?_
      show am_E _ (115, [vR y, vI n, vI a, vI b, vI from_, vI 0, vI (g p), vI 0, vI (g p)], [vI (n + (g p))], aq_h m s F c_2) _
      refine am_E.go (t2 := (117, [vR y, vI n, vI a, vI b, vI from_, vI 0, vI (n + (g p)), vI 0, vI (g p)], [], aq_h m s F c_2)) rfl rfl ?_
      refine am_E.go (t2 := (119, [vR y, vI n, vI a, vI b, vI from_, vI 0, vI (n + (g p)), vI 0, vI (g p)], [vI 0], aq_h m s F c_2)) rfl rfl ?_
      refine am_E.go (t2 := (122, [vR y, vI n, vI a, vI b, vI from_, vI 0, vI (n + (g p)), vI 0, vI (g p)], [], aq_h m s F c_2)) rfl rfl ?_
      refine am_E.go (t2 := (123, [vR y, vI n, vI a, vI b, vI from_, vI 0, vI (n + (g p)), vI 0, vI (g p)], [vI 1], aq_h m s F c_2)) rfl rfl ?_
      refine am_E.go (t2 := (127, [vR y, vI n, vI a, vI b, vI from_, vI 0, vI (n + (g p)), vI 0, vI (g p)], [vI 1], aq_h m s F c_2)) rfl rfl ?_
      refine am_E.go (t2 := (129, [vR y, vI n, vI a, vI b, vI from_, vI 1, vI (n + (g p)), vI 0, vI (g p)], [], aq_h m s F c_2)) rfl rfl ?_
      refine am_E.go (t2 := (17, [vR y, vI n, vI a, vI b, vI from_, vI 1, vI (n + (g p)), vI 0, vI (g p)], [], aq_h m s F c_2)) rfl rfl ?_
      refine qm_lead_l ⟨hm, hFo, hG5, hG6, hG7, hG8, hG9, hG10, hG11, hG12, hG13, hG14, hG15, hG16, hG17, hG18, hG19, hG20, hG21, hG22, hG23⟩ hS13 hT1 hn1 hn4 ha0 ha1 hb0 hb1 hf hg hfi hgi d true (n + (g p)) _ _ c_2 sc_2 (by omega) (by omega) (he (by omega)) (by rw [← hT, ldr, if_pos (by omega)]) (fun w w1 w2 => hQ w (fun i hi => w1 i ?_) (fun _ => ⟨w1 _ ?_, w2⟩))
      · rw [← hdc_2]
        unfold aq_u
        split
        · rfl
        · exact hi
      · rw [← hdc_2, aq_us]
    · refine am_E.go (t2 := (63, [vR y, vI n, vI a, vI b, vI from_, vI 0, vI (g p), v7, v8], [vI 1], aq_h m s F c)) rfl rfl ?_
      refine am_E.go (t2 := (67, [vR y, vI n, vI a, vI b, vI from_, vI 0, vI (g p), v7, v8], [vI 1], aq_h m s F c)) rfl rfl ?_
      refine am_E.go (t2 := (69, [vR y, vI n, vI a, vI b, vI from_, vI 0, vI (g p), vI 1, v8], [], aq_h m s F c)) rfl rfl ?_
      refine am_E.go (t2 := (71, [vR y, vI n, vI a, vI b, vI from_, vI 0, vI (g p), vI 1, v8], [vI 1], aq_h m s F c)) rfl rfl ?_
      refine am_E.go (t2 := (74, [vR y, vI n, vI a, vI b, vI from_, vI 0, vI (g p), vI 1, v8], [], aq_h m s F c)) rfl rfl ?_
      refine am_E.go (t2 := (76, [vR y, vI n, vI a, vI b, vI from_, vI 0, vI (g p), vI 1, v8], [vI (g p)], aq_h m s F c)) rfl rfl ?_
      refine am_E.ret rfl rfl ?_
      exact ⟨_, rfl, hs, by rw [← hT, ldr, if_neg (by omega)], hQ _ (fun i h => h) (fun h => absurd h (by omega))⟩

theorem qm_lead {m s : Nat} {F : aq_F} {c : aq_C} {S : Nat → Prop} {y : Nat} (hO : mo_0 m F y) (hS13 : S (y + 13)) {tbl : Int → Int} (hT1 : F (y + 1) = (0, 992, fun j => .inr (vI (tbl (j : Int))))) {n a b p : Int} (hn1 : 1 ≤ n) (hn4 : n ≤ 4) (ha0 : 0 ≤ a) (ha1 : a + 8 ≤ 992) (hb0 : 0 ≤ b) (hb1 : b + 8 ≤ 992) {f g : Int → Int} (hf : ∀ p, 0 ≤ p → p < 2 * n → tbl (a + p) = f p) (hg : ∀ p, 0 ≤ p → p < 2 * n → tbl (b + p) = g p) (hfi : fi n f) (hgi : fi n g) (h0 : 0 ≤ p) (h1 : p < 2 * n) : am_E ac_X5_lead (0, [vR y, vI n, vI a, vI b, vI p, vU, vU, vU, vU], [], aq_h m s F c) (aq_Z m s F S c (fun r d => r = some (vI (fst_ n f g p)) ∧ (∀ i, c (y + 13) i = 1 → d (y + 13) i = 1) ∧ mkd n f g (d (y + 13)) 5 (decide (p < n)) p)) := by
  have hx := ld_ex hn4 hfi hgi h0 h1
  refine am_E.go (t2 := (2, [vR y, vI n, vI a, vI b, vI p, vU, vU, vU, vU], [vI p], aq_h m s F c)) rfl rfl ?_
  refine am_E.go (t2 := (3, [vR y, vI n, vI a, vI b, vI p, vU, vU, vU, vU], [vI n, vI p], aq_h m s F c)) rfl rfl ?_
  refine ae_icmp rfl (fun (q_1 : n ≤ p) => ?_) (fun (q_1 : p < n) => ?_)
  · refine am_E.go (t2 := (11, [vR y, vI n, vI a, vI b, vI p, vU, vU, vU, vU], [vI 0], aq_h m s F c)) rfl rfl ?_
    refine am_E.go (t2 := (13, [vR y, vI n, vI a, vI b, vI p, vI 0, vU, vU, vU], [], aq_h m s F c)) rfl rfl ?_
    refine am_E.go (t2 := (15, [vR y, vI n, vI a, vI b, vI p, vI 0, vU, vU, vU], [vI p], aq_h m s F c)) rfl rfl ?_
    refine am_E.go (t2 := (17, [vR y, vI n, vI a, vI b, vI p, vI 0, vI p, vU, vU], [], aq_h m s F c)) rfl rfl ?_
    rw [decide_eq_false (show ¬ p < n by omega)] at hx ⊢
    have e5 : fst_ n f g p = ldr n f g 5 false p := by unfold fst_; rw [decide_eq_false (show ¬ p < n by omega)]
    refine qm_lead_l (Q := fun w => (∀ i, c (y + 13) i = 1 → w i = 1) ∧ mkd n f g w 5 false p) hO hS13 hT1 hn1 hn4 ha0 ha1 hb0 hb1 hf hg hfi hgi 5 false p _ _ c aq_sm0 h0 h1 hx e5.symm (fun w w1 w2 => ⟨w1, w2⟩)
  · refine am_E.go (t2 := (7, [vR y, vI n, vI a, vI b, vI p, vU, vU, vU, vU], [vI 1], aq_h m s F c)) rfl rfl ?_
    refine am_E.go (t2 := (11, [vR y, vI n, vI a, vI b, vI p, vU, vU, vU, vU], [vI 1], aq_h m s F c)) rfl rfl ?_
    refine am_E.go (t2 := (13, [vR y, vI n, vI a, vI b, vI p, vI 1, vU, vU, vU], [], aq_h m s F c)) rfl rfl ?_
    refine am_E.go (t2 := (15, [vR y, vI n, vI a, vI b, vI p, vI 1, vU, vU, vU], [vI p], aq_h m s F c)) rfl rfl ?_
    refine am_E.go (t2 := (17, [vR y, vI n, vI a, vI b, vI p, vI 1, vI p, vU, vU], [], aq_h m s F c)) rfl rfl ?_
    rw [decide_eq_true (show p < n by omega)] at hx ⊢
    have e5 : fst_ n f g p = ldr n f g 5 true p := by unfold fst_; rw [decide_eq_true (show p < n by omega)]
    refine qm_lead_l (Q := fun w => (∀ i, c (y + 13) i = 1 → w i = 1) ∧ mkd n f g w 5 true p) hO hS13 hT1 hn1 hn4 ha0 ha1 hb0 hb1 hf hg hfi hgi 5 true p _ _ c aq_sm0 h0 h1 hx e5.symm (fun w w1 w2 => ⟨w1, w2⟩)
/-- the row's strands, the crossings and the size stay -/
def mo_k (y : Nat) (c d : aq_C) : Prop := d y 9 = c y 9 ∧ d y 10 = c y 10 ∧ d y 17 = c y 17
theorem mo_k0 {y : Nat} {c : aq_C} : mo_k y c c := ⟨rfl, rfl, rfl⟩
theorem mo_kt {y : Nat} {c d e : aq_C} (h1 : mo_k y c d) (h2 : mo_k y d e) : mo_k y c e := ⟨by rw [h2.1, h1.1], by rw [h2.2.1, h1.2.1], by rw [h2.2.2, h1.2.2]⟩
theorem mo_ks {S : Nat → Prop} {y : Nat} {c d e : aq_C} (h1 : mo_k y c d) (hs : aq_sm S d e) (hy : ¬ S y) : mo_k y c e := ⟨by rw [hs y hy, h1.1], by rw [hs y hy, h1.2.1], by rw [hs y hy, h1.2.2]⟩
theorem mo_ku {y a : Nat} {i x : Int} {c d e : aq_C} (h1 : mo_k y c d) (he : aq_u d a i x = e) (h : y ≠ a ∨ (i ≠ 9 ∧ i ≠ 10 ∧ i ≠ 17)) : mo_k y c e := by
  subst he
  refine ⟨?_, ?_, ?_⟩
  · rw [aq_un (by omega), h1.1]
  · rw [aq_un (by omega), h1.2.1]
  · rw [aq_un (by omega), h1.2.2]
theorem mkd_mono {n : Int} {f g w w2 : Int → Int} (hw : ∀ i, w i = 1 → w2 i = 1) : ∀ (d : Nat) (u : Bool) (p : Int), mkd n f g w d u p → mkd n f g w2 d u p
  | 0, _, _, _ => trivial
  | d + 1, true, p, h => fun k => ⟨hw _ (h k).1, mkd_mono hw d false _ (h k).2⟩
  | d + 1, false, p, h => fun k => ⟨hw _ (h k).1, mkd_mono hw d true _ (h k).2⟩
/-- the strands from the first N points have marked what they met -/
def mo_mk (y : Nat) (n : Int) (f g : Int → Int) (N : Int) (c : aq_C) : Prop := ∀ p, 0 ≤ p → p < N → mkd n f g (c (y + 13)) 5 (decide (p < n)) p
theorem mo_mku {y : Nat} {n N i : Int} {f g : Int → Int} {c d : aq_C} (h : mo_mk y n f g N c) (he : aq_u c (y + 13) i 1 = d) : mo_mk y n f g N d := fun p h0 h1 => by
  refine mkd_mono (fun j hj => ?_) 5 _ p (h p h0 h1)
  rw [← he]
  unfold aq_u
  split
  · rfl
  · exact hj
theorem mo_mkn {y a : Nat} {n N i x : Int} {f g : Int → Int} {c d : aq_C} (h : mo_mk y n f g N c) (he : aq_u c a i x = d) (ha : y + 13 ≠ a) : mo_mk y n f g N d := fun p h0 h1 => by
  refine mkd_mono (fun j hj => ?_) 5 _ p (h p h0 h1)
  rw [← he, aq_un (Or.inl ha)]
  exact hj
/-- the first N places of made are told -/
def mo_md (y : Nat) (G : Int → Int) (N : Int) (c : aq_C) : Prop := ∀ i, 0 ≤ i → i < N → c (y + 12) i = G i
theorem mo_mdn {y a : Nat} {N i x : Int} {G : Int → Int} {c d : aq_C} (h : mo_md y G N c) (he : aq_u c a i x = d) (ha : y + 12 ≠ a) : mo_md y G N d := fun p h0 h1 => by
  rw [← he, aq_un (Or.inl ha)]
  exact h p h0 h1
theorem mo_mds {S : Nat → Prop} {y : Nat} {N : Int} {G : Int → Int} {c d : aq_C} (h : mo_md y G N c) (hs : aq_sm S c d) (ha : ¬ S (y + 12)) : mo_md y G N d := fun p h0 h1 => by
  rw [hs _ ha]
  exact h p h0 h1
