theorem pr_l1 {F : Int → Int} {v0 v1 : Int} (k : Nat) (h0 : F 0 = v0) (h1 : F 1 = v1) (hk : pr_1.getD k [] = [v0, v1]) (hk2 : k < 1) : ∃ b : Int, 0 ≤ b ∧ b < 1 ∧ ∀ p, 0 ≤ p → p < 2 → prt 1 b p = F p := by
  refine ⟨(k : Int), by omega, by omega, fun p h8 h9 => ?_⟩
  have e : ((pr_n 1).getD ((k : Int)).toNat []) = [v0, v1] := by
    rw [Int.toNat_natCast]
    exact hk
  unfold prt
  rw [e]
  have h : p = 0 ∨ p = 1 := by omega
  rcases h with h | h
  · subst h
    rw [h0]
    rfl
  · subst h
    rw [h1]
    rfl
theorem pr_c1 {F : Int → Int} (h : fi 1 F) : ∃ b : Int, 0 ≤ b ∧ b < 1 ∧ ∀ p, 0 ≤ p → p < 2 → prt 1 b p = F p := by
  have t0 := h 0 (by decide) (by decide)
  have t1 := h 1 (by decide) (by decide)
  have e0 : F 0 = 1 := by omega
  have e1 : F 1 = 0 := by have u := t0.2.2.2; rw [e0] at u; exact u
  exact pr_l1 0 e0 e1 rfl (by decide)
theorem pr_l2 {F : Int → Int} {v0 v1 v2 v3 : Int} (k : Nat) (h0 : F 0 = v0) (h1 : F 1 = v1) (h2 : F 2 = v2) (h3 : F 3 = v3) (hk : pr_2.getD k [] = [v0, v1, v2, v3]) (hk2 : k < 3) : ∃ b : Int, 0 ≤ b ∧ b < 3 ∧ ∀ p, 0 ≤ p → p < 4 → prt 2 b p = F p := by
  refine ⟨(k : Int), by omega, by omega, fun p h8 h9 => ?_⟩
  have e : ((pr_n 2).getD ((k : Int)).toNat []) = [v0, v1, v2, v3] := by
    rw [Int.toNat_natCast]
    exact hk
  unfold prt
  rw [e]
  have h : p = 0 ∨ p = 1 ∨ p = 2 ∨ p = 3 := by omega
  rcases h with h | h | h | h
  · subst h
    rw [h0]
    rfl
  · subst h
    rw [h1]
    rfl
  · subst h
    rw [h2]
    rfl
  · subst h
    rw [h3]
    rfl
theorem pr_c2 {F : Int → Int} (h : fi 2 F) : ∃ b : Int, 0 ≤ b ∧ b < 3 ∧ ∀ p, 0 ≤ p → p < 4 → prt 2 b p = F p := by
  have t0 := h 0 (by decide) (by decide)
  have t1 := h 1 (by decide) (by decide)
  have t2 := h 2 (by decide) (by decide)
  have t3 := h 3 (by decide) (by decide)
  have s : F 0 = 1 ∨ F 0 = 2 ∨ F 0 = 3 := by omega
  rcases s with e0 | e0 | e0
  · have e1 : F 1 = 0 := by have u := t0.2.2.2; rw [e0] at u; exact u
    have n0 : F 2 ≠ 0 := fun q => by
      have u := t2.2.2.2
      rw [q, e0] at u
      exact absurd u (by decide)
    have n1 : F 2 ≠ 1 := fun q => by
      have u := t2.2.2.2
      rw [q, e1] at u
      exact absurd u (by decide)
    have e2 : F 2 = 3 := by omega
    have e3 : F 3 = 2 := by have u := t2.2.2.2; rw [e2] at u; exact u
    exact pr_l2 0 e0 e1 e2 e3 rfl (by decide)
  · have e2 : F 2 = 0 := by have u := t0.2.2.2; rw [e0] at u; exact u
    have n0 : F 1 ≠ 0 := fun q => by
      have u := t1.2.2.2
      rw [q, e0] at u
      exact absurd u (by decide)
    have n2 : F 1 ≠ 2 := fun q => by
      have u := t1.2.2.2
      rw [q, e2] at u
      exact absurd u (by decide)
    have e1 : F 1 = 3 := by omega
    have e3 : F 3 = 1 := by have u := t1.2.2.2; rw [e1] at u; exact u
    exact pr_l2 1 e0 e1 e2 e3 rfl (by decide)
  · have e3 : F 3 = 0 := by have u := t0.2.2.2; rw [e0] at u; exact u
    have n0 : F 1 ≠ 0 := fun q => by
      have u := t1.2.2.2
      rw [q, e0] at u
      exact absurd u (by decide)
    have n3 : F 1 ≠ 3 := fun q => by
      have u := t1.2.2.2
      rw [q, e3] at u
      exact absurd u (by decide)
    have e1 : F 1 = 2 := by omega
    have e2 : F 2 = 1 := by have u := t1.2.2.2; rw [e1] at u; exact u
    exact pr_l2 2 e0 e1 e2 e3 rfl (by decide)
theorem pr_l3 {F : Int → Int} {v0 v1 v2 v3 v4 v5 : Int} (k : Nat) (h0 : F 0 = v0) (h1 : F 1 = v1) (h2 : F 2 = v2) (h3 : F 3 = v3) (h4 : F 4 = v4) (h5 : F 5 = v5) (hk : pr_3.getD k [] = [v0, v1, v2, v3, v4, v5]) (hk2 : k < 15) : ∃ b : Int, 0 ≤ b ∧ b < 15 ∧ ∀ p, 0 ≤ p → p < 6 → prt 3 b p = F p := by
  refine ⟨(k : Int), by omega, by omega, fun p h8 h9 => ?_⟩
  have e : ((pr_n 3).getD ((k : Int)).toNat []) = [v0, v1, v2, v3, v4, v5] := by
    rw [Int.toNat_natCast]
    exact hk
  unfold prt
  rw [e]
  have h : p = 0 ∨ p = 1 ∨ p = 2 ∨ p = 3 ∨ p = 4 ∨ p = 5 := by omega
  rcases h with h | h | h | h | h | h
  · subst h
    rw [h0]
    rfl
  · subst h
    rw [h1]
    rfl
  · subst h
    rw [h2]
    rfl
  · subst h
    rw [h3]
    rfl
  · subst h
    rw [h4]
    rfl
  · subst h
    rw [h5]
    rfl
theorem pr_c3 {F : Int → Int} (h : fi 3 F) : ∃ b : Int, 0 ≤ b ∧ b < 15 ∧ ∀ p, 0 ≤ p → p < 6 → prt 3 b p = F p := by
  have t0 := h 0 (by decide) (by decide)
  have t1 := h 1 (by decide) (by decide)
  have t2 := h 2 (by decide) (by decide)
  have t3 := h 3 (by decide) (by decide)
  have t4 := h 4 (by decide) (by decide)
  have t5 := h 5 (by decide) (by decide)
  have s : F 0 = 1 ∨ F 0 = 2 ∨ F 0 = 3 ∨ F 0 = 4 ∨ F 0 = 5 := by omega
  rcases s with e0 | e0 | e0 | e0 | e0
  · have e1 : F 1 = 0 := by have u := t0.2.2.2; rw [e0] at u; exact u
    have n0 : F 2 ≠ 0 := fun q => by
      have u := t2.2.2.2
      rw [q, e0] at u
      exact absurd u (by decide)
    have n1 : F 2 ≠ 1 := fun q => by
      have u := t2.2.2.2
      rw [q, e1] at u
      exact absurd u (by decide)
    have s : F 2 = 3 ∨ F 2 = 4 ∨ F 2 = 5 := by omega
    rcases s with e2 | e2 | e2
    · have e3 : F 3 = 2 := by have u := t2.2.2.2; rw [e2] at u; exact u
      have n0 : F 4 ≠ 0 := fun q => by
        have u := t4.2.2.2
        rw [q, e0] at u
        exact absurd u (by decide)
      have n1 : F 4 ≠ 1 := fun q => by
        have u := t4.2.2.2
        rw [q, e1] at u
        exact absurd u (by decide)
      have n2 : F 4 ≠ 2 := fun q => by
        have u := t4.2.2.2
        rw [q, e2] at u
        exact absurd u (by decide)
      have n3 : F 4 ≠ 3 := fun q => by
        have u := t4.2.2.2
        rw [q, e3] at u
        exact absurd u (by decide)
      have e4 : F 4 = 5 := by omega
      have e5 : F 5 = 4 := by have u := t4.2.2.2; rw [e4] at u; exact u
      exact pr_l3 0 e0 e1 e2 e3 e4 e5 rfl (by decide)
    · have e4 : F 4 = 2 := by have u := t2.2.2.2; rw [e2] at u; exact u
      have n0 : F 3 ≠ 0 := fun q => by
        have u := t3.2.2.2
        rw [q, e0] at u
        exact absurd u (by decide)
      have n1 : F 3 ≠ 1 := fun q => by
        have u := t3.2.2.2
        rw [q, e1] at u
        exact absurd u (by decide)
      have n2 : F 3 ≠ 2 := fun q => by
        have u := t3.2.2.2
        rw [q, e2] at u
        exact absurd u (by decide)
      have n4 : F 3 ≠ 4 := fun q => by
        have u := t3.2.2.2
        rw [q, e4] at u
        exact absurd u (by decide)
      have e3 : F 3 = 5 := by omega
      have e5 : F 5 = 3 := by have u := t3.2.2.2; rw [e3] at u; exact u
      exact pr_l3 1 e0 e1 e2 e3 e4 e5 rfl (by decide)
    · have e5 : F 5 = 2 := by have u := t2.2.2.2; rw [e2] at u; exact u
      have n0 : F 3 ≠ 0 := fun q => by
        have u := t3.2.2.2
        rw [q, e0] at u
        exact absurd u (by decide)
      have n1 : F 3 ≠ 1 := fun q => by
        have u := t3.2.2.2
        rw [q, e1] at u
        exact absurd u (by decide)
      have n2 : F 3 ≠ 2 := fun q => by
        have u := t3.2.2.2
        rw [q, e2] at u
        exact absurd u (by decide)
      have n5 : F 3 ≠ 5 := fun q => by
        have u := t3.2.2.2
        rw [q, e5] at u
        exact absurd u (by decide)
      have e3 : F 3 = 4 := by omega
      have e4 : F 4 = 3 := by have u := t3.2.2.2; rw [e3] at u; exact u
      exact pr_l3 2 e0 e1 e2 e3 e4 e5 rfl (by decide)
  · have e2 : F 2 = 0 := by have u := t0.2.2.2; rw [e0] at u; exact u
    have n0 : F 1 ≠ 0 := fun q => by
      have u := t1.2.2.2
      rw [q, e0] at u
      exact absurd u (by decide)
    have n2 : F 1 ≠ 2 := fun q => by
      have u := t1.2.2.2
      rw [q, e2] at u
      exact absurd u (by decide)
    have s : F 1 = 3 ∨ F 1 = 4 ∨ F 1 = 5 := by omega
    rcases s with e1 | e1 | e1
    · have e3 : F 3 = 1 := by have u := t1.2.2.2; rw [e1] at u; exact u
      have n0 : F 4 ≠ 0 := fun q => by
        have u := t4.2.2.2
        rw [q, e0] at u
        exact absurd u (by decide)
      have n1 : F 4 ≠ 1 := fun q => by
        have u := t4.2.2.2
        rw [q, e1] at u
        exact absurd u (by decide)
      have n2 : F 4 ≠ 2 := fun q => by
        have u := t4.2.2.2
        rw [q, e2] at u
        exact absurd u (by decide)
      have n3 : F 4 ≠ 3 := fun q => by
        have u := t4.2.2.2
        rw [q, e3] at u
        exact absurd u (by decide)
      have e4 : F 4 = 5 := by omega
      have e5 : F 5 = 4 := by have u := t4.2.2.2; rw [e4] at u; exact u
      exact pr_l3 3 e0 e1 e2 e3 e4 e5 rfl (by decide)
    · have e4 : F 4 = 1 := by have u := t1.2.2.2; rw [e1] at u; exact u
      have n0 : F 3 ≠ 0 := fun q => by
        have u := t3.2.2.2
        rw [q, e0] at u
        exact absurd u (by decide)
      have n1 : F 3 ≠ 1 := fun q => by
        have u := t3.2.2.2
        rw [q, e1] at u
        exact absurd u (by decide)
      have n2 : F 3 ≠ 2 := fun q => by
        have u := t3.2.2.2
        rw [q, e2] at u
        exact absurd u (by decide)
      have n4 : F 3 ≠ 4 := fun q => by
        have u := t3.2.2.2
        rw [q, e4] at u
        exact absurd u (by decide)
      have e3 : F 3 = 5 := by omega
      have e5 : F 5 = 3 := by have u := t3.2.2.2; rw [e3] at u; exact u
      exact pr_l3 4 e0 e1 e2 e3 e4 e5 rfl (by decide)
    · have e5 : F 5 = 1 := by have u := t1.2.2.2; rw [e1] at u; exact u
      have n0 : F 3 ≠ 0 := fun q => by
        have u := t3.2.2.2
        rw [q, e0] at u
        exact absurd u (by decide)
      have n1 : F 3 ≠ 1 := fun q => by
        have u := t3.2.2.2
        rw [q, e1] at u
        exact absurd u (by decide)
      have n2 : F 3 ≠ 2 := fun q => by
        have u := t3.2.2.2
        rw [q, e2] at u
        exact absurd u (by decide)
      have n5 : F 3 ≠ 5 := fun q => by
        have u := t3.2.2.2
        rw [q, e5] at u
        exact absurd u (by decide)
      have e3 : F 3 = 4 := by omega
      have e4 : F 4 = 3 := by have u := t3.2.2.2; rw [e3] at u; exact u
      exact pr_l3 5 e0 e1 e2 e3 e4 e5 rfl (by decide)
  · have e3 : F 3 = 0 := by have u := t0.2.2.2; rw [e0] at u; exact u
    have n0 : F 1 ≠ 0 := fun q => by
      have u := t1.2.2.2
      rw [q, e0] at u
      exact absurd u (by decide)
    have n3 : F 1 ≠ 3 := fun q => by
      have u := t1.2.2.2
      rw [q, e3] at u
      exact absurd u (by decide)
    have s : F 1 = 2 ∨ F 1 = 4 ∨ F 1 = 5 := by omega
    rcases s with e1 | e1 | e1
    · have e2 : F 2 = 1 := by have u := t1.2.2.2; rw [e1] at u; exact u
      have n0 : F 4 ≠ 0 := fun q => by
        have u := t4.2.2.2
        rw [q, e0] at u
        exact absurd u (by decide)
      have n1 : F 4 ≠ 1 := fun q => by
        have u := t4.2.2.2
        rw [q, e1] at u
        exact absurd u (by decide)
      have n2 : F 4 ≠ 2 := fun q => by
        have u := t4.2.2.2
        rw [q, e2] at u
        exact absurd u (by decide)
      have n3 : F 4 ≠ 3 := fun q => by
        have u := t4.2.2.2
        rw [q, e3] at u
        exact absurd u (by decide)
      have e4 : F 4 = 5 := by omega
      have e5 : F 5 = 4 := by have u := t4.2.2.2; rw [e4] at u; exact u
      exact pr_l3 6 e0 e1 e2 e3 e4 e5 rfl (by decide)
    · have e4 : F 4 = 1 := by have u := t1.2.2.2; rw [e1] at u; exact u
      have n0 : F 2 ≠ 0 := fun q => by
        have u := t2.2.2.2
        rw [q, e0] at u
        exact absurd u (by decide)
      have n1 : F 2 ≠ 1 := fun q => by
        have u := t2.2.2.2
        rw [q, e1] at u
        exact absurd u (by decide)
      have n3 : F 2 ≠ 3 := fun q => by
        have u := t2.2.2.2
        rw [q, e3] at u
        exact absurd u (by decide)
      have n4 : F 2 ≠ 4 := fun q => by
        have u := t2.2.2.2
        rw [q, e4] at u
        exact absurd u (by decide)
      have e2 : F 2 = 5 := by omega
      have e5 : F 5 = 2 := by have u := t2.2.2.2; rw [e2] at u; exact u
      exact pr_l3 7 e0 e1 e2 e3 e4 e5 rfl (by decide)
    · have e5 : F 5 = 1 := by have u := t1.2.2.2; rw [e1] at u; exact u
      have n0 : F 2 ≠ 0 := fun q => by
        have u := t2.2.2.2
        rw [q, e0] at u
        exact absurd u (by decide)
      have n1 : F 2 ≠ 1 := fun q => by
        have u := t2.2.2.2
        rw [q, e1] at u
        exact absurd u (by decide)
      have n3 : F 2 ≠ 3 := fun q => by
        have u := t2.2.2.2
        rw [q, e3] at u
        exact absurd u (by decide)
      have n5 : F 2 ≠ 5 := fun q => by
        have u := t2.2.2.2
        rw [q, e5] at u
        exact absurd u (by decide)
      have e2 : F 2 = 4 := by omega
      have e4 : F 4 = 2 := by have u := t2.2.2.2; rw [e2] at u; exact u
      exact pr_l3 8 e0 e1 e2 e3 e4 e5 rfl (by decide)
  · have e4 : F 4 = 0 := by have u := t0.2.2.2; rw [e0] at u; exact u
    have n0 : F 1 ≠ 0 := fun q => by
      have u := t1.2.2.2
      rw [q, e0] at u
      exact absurd u (by decide)
    have n4 : F 1 ≠ 4 := fun q => by
      have u := t1.2.2.2
      rw [q, e4] at u
      exact absurd u (by decide)
    have s : F 1 = 2 ∨ F 1 = 3 ∨ F 1 = 5 := by omega
    rcases s with e1 | e1 | e1
    · have e2 : F 2 = 1 := by have u := t1.2.2.2; rw [e1] at u; exact u
      have n0 : F 3 ≠ 0 := fun q => by
        have u := t3.2.2.2
        rw [q, e0] at u
        exact absurd u (by decide)
      have n1 : F 3 ≠ 1 := fun q => by
        have u := t3.2.2.2
        rw [q, e1] at u
        exact absurd u (by decide)
      have n2 : F 3 ≠ 2 := fun q => by
        have u := t3.2.2.2
        rw [q, e2] at u
        exact absurd u (by decide)
      have n4 : F 3 ≠ 4 := fun q => by
        have u := t3.2.2.2
        rw [q, e4] at u
        exact absurd u (by decide)
      have e3 : F 3 = 5 := by omega
      have e5 : F 5 = 3 := by have u := t3.2.2.2; rw [e3] at u; exact u
      exact pr_l3 9 e0 e1 e2 e3 e4 e5 rfl (by decide)
    · have e3 : F 3 = 1 := by have u := t1.2.2.2; rw [e1] at u; exact u
      have n0 : F 2 ≠ 0 := fun q => by
        have u := t2.2.2.2
        rw [q, e0] at u
        exact absurd u (by decide)
      have n1 : F 2 ≠ 1 := fun q => by
        have u := t2.2.2.2
        rw [q, e1] at u
        exact absurd u (by decide)
      have n3 : F 2 ≠ 3 := fun q => by
        have u := t2.2.2.2
        rw [q, e3] at u
        exact absurd u (by decide)
      have n4 : F 2 ≠ 4 := fun q => by
        have u := t2.2.2.2
        rw [q, e4] at u
        exact absurd u (by decide)
      have e2 : F 2 = 5 := by omega
      have e5 : F 5 = 2 := by have u := t2.2.2.2; rw [e2] at u; exact u
      exact pr_l3 10 e0 e1 e2 e3 e4 e5 rfl (by decide)
    · have e5 : F 5 = 1 := by have u := t1.2.2.2; rw [e1] at u; exact u
      have n0 : F 2 ≠ 0 := fun q => by
        have u := t2.2.2.2
        rw [q, e0] at u
        exact absurd u (by decide)
      have n1 : F 2 ≠ 1 := fun q => by
        have u := t2.2.2.2
        rw [q, e1] at u
        exact absurd u (by decide)
      have n4 : F 2 ≠ 4 := fun q => by
        have u := t2.2.2.2
        rw [q, e4] at u
        exact absurd u (by decide)
      have n5 : F 2 ≠ 5 := fun q => by
        have u := t2.2.2.2
        rw [q, e5] at u
        exact absurd u (by decide)
      have e2 : F 2 = 3 := by omega
      have e3 : F 3 = 2 := by have u := t2.2.2.2; rw [e2] at u; exact u
      exact pr_l3 11 e0 e1 e2 e3 e4 e5 rfl (by decide)
  · have e5 : F 5 = 0 := by have u := t0.2.2.2; rw [e0] at u; exact u
    have n0 : F 1 ≠ 0 := fun q => by
      have u := t1.2.2.2
      rw [q, e0] at u
      exact absurd u (by decide)
    have n5 : F 1 ≠ 5 := fun q => by
      have u := t1.2.2.2
      rw [q, e5] at u
      exact absurd u (by decide)
    have s : F 1 = 2 ∨ F 1 = 3 ∨ F 1 = 4 := by omega
    rcases s with e1 | e1 | e1
    · have e2 : F 2 = 1 := by have u := t1.2.2.2; rw [e1] at u; exact u
      have n0 : F 3 ≠ 0 := fun q => by
        have u := t3.2.2.2
        rw [q, e0] at u
        exact absurd u (by decide)
      have n1 : F 3 ≠ 1 := fun q => by
        have u := t3.2.2.2
        rw [q, e1] at u
        exact absurd u (by decide)
      have n2 : F 3 ≠ 2 := fun q => by
        have u := t3.2.2.2
        rw [q, e2] at u
        exact absurd u (by decide)
      have n5 : F 3 ≠ 5 := fun q => by
        have u := t3.2.2.2
        rw [q, e5] at u
        exact absurd u (by decide)
      have e3 : F 3 = 4 := by omega
      have e4 : F 4 = 3 := by have u := t3.2.2.2; rw [e3] at u; exact u
      exact pr_l3 12 e0 e1 e2 e3 e4 e5 rfl (by decide)
    · have e3 : F 3 = 1 := by have u := t1.2.2.2; rw [e1] at u; exact u
      have n0 : F 2 ≠ 0 := fun q => by
        have u := t2.2.2.2
        rw [q, e0] at u
        exact absurd u (by decide)
      have n1 : F 2 ≠ 1 := fun q => by
        have u := t2.2.2.2
        rw [q, e1] at u
        exact absurd u (by decide)
      have n3 : F 2 ≠ 3 := fun q => by
        have u := t2.2.2.2
        rw [q, e3] at u
        exact absurd u (by decide)
      have n5 : F 2 ≠ 5 := fun q => by
        have u := t2.2.2.2
        rw [q, e5] at u
        exact absurd u (by decide)
      have e2 : F 2 = 4 := by omega
      have e4 : F 4 = 2 := by have u := t2.2.2.2; rw [e2] at u; exact u
      exact pr_l3 13 e0 e1 e2 e3 e4 e5 rfl (by decide)
    · have e4 : F 4 = 1 := by have u := t1.2.2.2; rw [e1] at u; exact u
      have n0 : F 2 ≠ 0 := fun q => by
        have u := t2.2.2.2
        rw [q, e0] at u
        exact absurd u (by decide)
      have n1 : F 2 ≠ 1 := fun q => by
        have u := t2.2.2.2
        rw [q, e1] at u
        exact absurd u (by decide)
      have n4 : F 2 ≠ 4 := fun q => by
        have u := t2.2.2.2
        rw [q, e4] at u
        exact absurd u (by decide)
      have n5 : F 2 ≠ 5 := fun q => by
        have u := t2.2.2.2
        rw [q, e5] at u
        exact absurd u (by decide)
      have e2 : F 2 = 3 := by omega
      have e3 : F 3 = 2 := by have u := t2.2.2.2; rw [e2] at u; exact u
      exact pr_l3 14 e0 e1 e2 e3 e4 e5 rfl (by decide)
theorem pr_l4 {F : Int → Int} {v0 v1 v2 v3 v4 v5 v6 v7 : Int} (k : Nat) (h0 : F 0 = v0) (h1 : F 1 = v1) (h2 : F 2 = v2) (h3 : F 3 = v3) (h4 : F 4 = v4) (h5 : F 5 = v5) (h6 : F 6 = v6) (h7 : F 7 = v7) (hk : pr_4.getD k [] = [v0, v1, v2, v3, v4, v5, v6, v7]) (hk2 : k < 105) : ∃ b : Int, 0 ≤ b ∧ b < 105 ∧ ∀ p, 0 ≤ p → p < 8 → prt 4 b p = F p := by
  refine ⟨(k : Int), by omega, by omega, fun p h8 h9 => ?_⟩
  have e : ((pr_n 4).getD ((k : Int)).toNat []) = [v0, v1, v2, v3, v4, v5, v6, v7] := by
    rw [Int.toNat_natCast]
    exact hk
  unfold prt
  rw [e]
  have h : p = 0 ∨ p = 1 ∨ p = 2 ∨ p = 3 ∨ p = 4 ∨ p = 5 ∨ p = 6 ∨ p = 7 := by omega
  rcases h with h | h | h | h | h | h | h | h
  · subst h
    rw [h0]
    rfl
  · subst h
    rw [h1]
    rfl
  · subst h
    rw [h2]
    rfl
  · subst h
    rw [h3]
    rfl
  · subst h
    rw [h4]
    rfl
  · subst h
    rw [h5]
    rfl
  · subst h
    rw [h6]
    rfl
  · subst h
    rw [h7]
    rfl
theorem pr_c4 {F : Int → Int} (h : fi 4 F) : ∃ b : Int, 0 ≤ b ∧ b < 105 ∧ ∀ p, 0 ≤ p → p < 8 → prt 4 b p = F p := by
  have t0 := h 0 (by decide) (by decide)
  have t1 := h 1 (by decide) (by decide)
  have t2 := h 2 (by decide) (by decide)
  have t3 := h 3 (by decide) (by decide)
  have t4 := h 4 (by decide) (by decide)
  have t5 := h 5 (by decide) (by decide)
  have t6 := h 6 (by decide) (by decide)
  have t7 := h 7 (by decide) (by decide)
  have s : F 0 = 1 ∨ F 0 = 2 ∨ F 0 = 3 ∨ F 0 = 4 ∨ F 0 = 5 ∨ F 0 = 6 ∨ F 0 = 7 := by omega
  rcases s with e0 | e0 | e0 | e0 | e0 | e0 | e0
  · have e1 : F 1 = 0 := by have u := t0.2.2.2; rw [e0] at u; exact u
    have n0 : F 2 ≠ 0 := fun q => by
      have u := t2.2.2.2
      rw [q, e0] at u
      exact absurd u (by decide)
    have n1 : F 2 ≠ 1 := fun q => by
      have u := t2.2.2.2
      rw [q, e1] at u
      exact absurd u (by decide)
    have s : F 2 = 3 ∨ F 2 = 4 ∨ F 2 = 5 ∨ F 2 = 6 ∨ F 2 = 7 := by omega
    rcases s with e2 | e2 | e2 | e2 | e2
    · have e3 : F 3 = 2 := by have u := t2.2.2.2; rw [e2] at u; exact u
      have n0 : F 4 ≠ 0 := fun q => by
        have u := t4.2.2.2
        rw [q, e0] at u
        exact absurd u (by decide)
      have n1 : F 4 ≠ 1 := fun q => by
        have u := t4.2.2.2
        rw [q, e1] at u
        exact absurd u (by decide)
      have n2 : F 4 ≠ 2 := fun q => by
        have u := t4.2.2.2
        rw [q, e2] at u
        exact absurd u (by decide)
      have n3 : F 4 ≠ 3 := fun q => by
        have u := t4.2.2.2
        rw [q, e3] at u
        exact absurd u (by decide)
      have s : F 4 = 5 ∨ F 4 = 6 ∨ F 4 = 7 := by omega
      rcases s with e4 | e4 | e4
      · have e5 : F 5 = 4 := by have u := t4.2.2.2; rw [e4] at u; exact u
        have n0 : F 6 ≠ 0 := fun q => by
          have u := t6.2.2.2
          rw [q, e0] at u
          exact absurd u (by decide)
        have n1 : F 6 ≠ 1 := fun q => by
          have u := t6.2.2.2
          rw [q, e1] at u
          exact absurd u (by decide)
        have n2 : F 6 ≠ 2 := fun q => by
          have u := t6.2.2.2
          rw [q, e2] at u
          exact absurd u (by decide)
        have n3 : F 6 ≠ 3 := fun q => by
          have u := t6.2.2.2
          rw [q, e3] at u
          exact absurd u (by decide)
        have n4 : F 6 ≠ 4 := fun q => by
          have u := t6.2.2.2
          rw [q, e4] at u
          exact absurd u (by decide)
        have n5 : F 6 ≠ 5 := fun q => by
          have u := t6.2.2.2
          rw [q, e5] at u
          exact absurd u (by decide)
        have e6 : F 6 = 7 := by omega
        have e7 : F 7 = 6 := by have u := t6.2.2.2; rw [e6] at u; exact u
        exact pr_l4 0 e0 e1 e2 e3 e4 e5 e6 e7 rfl (by decide)
      · have e6 : F 6 = 4 := by have u := t4.2.2.2; rw [e4] at u; exact u
        have n0 : F 5 ≠ 0 := fun q => by
          have u := t5.2.2.2
          rw [q, e0] at u
          exact absurd u (by decide)
        have n1 : F 5 ≠ 1 := fun q => by
          have u := t5.2.2.2
          rw [q, e1] at u
          exact absurd u (by decide)
        have n2 : F 5 ≠ 2 := fun q => by
          have u := t5.2.2.2
          rw [q, e2] at u
          exact absurd u (by decide)
        have n3 : F 5 ≠ 3 := fun q => by
          have u := t5.2.2.2
          rw [q, e3] at u
          exact absurd u (by decide)
        have n4 : F 5 ≠ 4 := fun q => by
          have u := t5.2.2.2
          rw [q, e4] at u
          exact absurd u (by decide)
        have n6 : F 5 ≠ 6 := fun q => by
          have u := t5.2.2.2
          rw [q, e6] at u
          exact absurd u (by decide)
        have e5 : F 5 = 7 := by omega
        have e7 : F 7 = 5 := by have u := t5.2.2.2; rw [e5] at u; exact u
        exact pr_l4 1 e0 e1 e2 e3 e4 e5 e6 e7 rfl (by decide)
      · have e7 : F 7 = 4 := by have u := t4.2.2.2; rw [e4] at u; exact u
        have n0 : F 5 ≠ 0 := fun q => by
          have u := t5.2.2.2
          rw [q, e0] at u
          exact absurd u (by decide)
        have n1 : F 5 ≠ 1 := fun q => by
          have u := t5.2.2.2
          rw [q, e1] at u
          exact absurd u (by decide)
        have n2 : F 5 ≠ 2 := fun q => by
          have u := t5.2.2.2
          rw [q, e2] at u
          exact absurd u (by decide)
        have n3 : F 5 ≠ 3 := fun q => by
          have u := t5.2.2.2
          rw [q, e3] at u
          exact absurd u (by decide)
        have n4 : F 5 ≠ 4 := fun q => by
          have u := t5.2.2.2
          rw [q, e4] at u
          exact absurd u (by decide)
        have n7 : F 5 ≠ 7 := fun q => by
          have u := t5.2.2.2
          rw [q, e7] at u
          exact absurd u (by decide)
        have e5 : F 5 = 6 := by omega
        have e6 : F 6 = 5 := by have u := t5.2.2.2; rw [e5] at u; exact u
        exact pr_l4 2 e0 e1 e2 e3 e4 e5 e6 e7 rfl (by decide)
    · have e4 : F 4 = 2 := by have u := t2.2.2.2; rw [e2] at u; exact u
      have n0 : F 3 ≠ 0 := fun q => by
        have u := t3.2.2.2
        rw [q, e0] at u
        exact absurd u (by decide)
      have n1 : F 3 ≠ 1 := fun q => by
        have u := t3.2.2.2
        rw [q, e1] at u
        exact absurd u (by decide)
      have n2 : F 3 ≠ 2 := fun q => by
        have u := t3.2.2.2
        rw [q, e2] at u
        exact absurd u (by decide)
      have n4 : F 3 ≠ 4 := fun q => by
        have u := t3.2.2.2
        rw [q, e4] at u
        exact absurd u (by decide)
      have s : F 3 = 5 ∨ F 3 = 6 ∨ F 3 = 7 := by omega
      rcases s with e3 | e3 | e3
      · have e5 : F 5 = 3 := by have u := t3.2.2.2; rw [e3] at u; exact u
        have n0 : F 6 ≠ 0 := fun q => by
          have u := t6.2.2.2
          rw [q, e0] at u
          exact absurd u (by decide)
        have n1 : F 6 ≠ 1 := fun q => by
          have u := t6.2.2.2
          rw [q, e1] at u
          exact absurd u (by decide)
        have n2 : F 6 ≠ 2 := fun q => by
          have u := t6.2.2.2
          rw [q, e2] at u
          exact absurd u (by decide)
        have n3 : F 6 ≠ 3 := fun q => by
          have u := t6.2.2.2
          rw [q, e3] at u
          exact absurd u (by decide)
        have n4 : F 6 ≠ 4 := fun q => by
          have u := t6.2.2.2
          rw [q, e4] at u
          exact absurd u (by decide)
        have n5 : F 6 ≠ 5 := fun q => by
          have u := t6.2.2.2
          rw [q, e5] at u
          exact absurd u (by decide)
        have e6 : F 6 = 7 := by omega
        have e7 : F 7 = 6 := by have u := t6.2.2.2; rw [e6] at u; exact u
        exact pr_l4 3 e0 e1 e2 e3 e4 e5 e6 e7 rfl (by decide)
      · have e6 : F 6 = 3 := by have u := t3.2.2.2; rw [e3] at u; exact u
        have n0 : F 5 ≠ 0 := fun q => by
          have u := t5.2.2.2
          rw [q, e0] at u
          exact absurd u (by decide)
        have n1 : F 5 ≠ 1 := fun q => by
          have u := t5.2.2.2
          rw [q, e1] at u
          exact absurd u (by decide)
        have n2 : F 5 ≠ 2 := fun q => by
          have u := t5.2.2.2
          rw [q, e2] at u
          exact absurd u (by decide)
        have n3 : F 5 ≠ 3 := fun q => by
          have u := t5.2.2.2
          rw [q, e3] at u
          exact absurd u (by decide)
        have n4 : F 5 ≠ 4 := fun q => by
          have u := t5.2.2.2
          rw [q, e4] at u
          exact absurd u (by decide)
        have n6 : F 5 ≠ 6 := fun q => by
          have u := t5.2.2.2
          rw [q, e6] at u
          exact absurd u (by decide)
        have e5 : F 5 = 7 := by omega
        have e7 : F 7 = 5 := by have u := t5.2.2.2; rw [e5] at u; exact u
        exact pr_l4 4 e0 e1 e2 e3 e4 e5 e6 e7 rfl (by decide)
      · have e7 : F 7 = 3 := by have u := t3.2.2.2; rw [e3] at u; exact u
        have n0 : F 5 ≠ 0 := fun q => by
          have u := t5.2.2.2
          rw [q, e0] at u
          exact absurd u (by decide)
        have n1 : F 5 ≠ 1 := fun q => by
          have u := t5.2.2.2
          rw [q, e1] at u
          exact absurd u (by decide)
        have n2 : F 5 ≠ 2 := fun q => by
          have u := t5.2.2.2
          rw [q, e2] at u
          exact absurd u (by decide)
        have n3 : F 5 ≠ 3 := fun q => by
          have u := t5.2.2.2
          rw [q, e3] at u
          exact absurd u (by decide)
        have n4 : F 5 ≠ 4 := fun q => by
          have u := t5.2.2.2
          rw [q, e4] at u
          exact absurd u (by decide)
        have n7 : F 5 ≠ 7 := fun q => by
          have u := t5.2.2.2
          rw [q, e7] at u
          exact absurd u (by decide)
        have e5 : F 5 = 6 := by omega
        have e6 : F 6 = 5 := by have u := t5.2.2.2; rw [e5] at u; exact u
        exact pr_l4 5 e0 e1 e2 e3 e4 e5 e6 e7 rfl (by decide)
    · have e5 : F 5 = 2 := by have u := t2.2.2.2; rw [e2] at u; exact u
      have n0 : F 3 ≠ 0 := fun q => by
        have u := t3.2.2.2
        rw [q, e0] at u
        exact absurd u (by decide)
      have n1 : F 3 ≠ 1 := fun q => by
        have u := t3.2.2.2
        rw [q, e1] at u
        exact absurd u (by decide)
      have n2 : F 3 ≠ 2 := fun q => by
        have u := t3.2.2.2
        rw [q, e2] at u
        exact absurd u (by decide)
      have n5 : F 3 ≠ 5 := fun q => by
        have u := t3.2.2.2
        rw [q, e5] at u
        exact absurd u (by decide)
      have s : F 3 = 4 ∨ F 3 = 6 ∨ F 3 = 7 := by omega
      rcases s with e3 | e3 | e3
      · have e4 : F 4 = 3 := by have u := t3.2.2.2; rw [e3] at u; exact u
        have n0 : F 6 ≠ 0 := fun q => by
          have u := t6.2.2.2
          rw [q, e0] at u
          exact absurd u (by decide)
        have n1 : F 6 ≠ 1 := fun q => by
          have u := t6.2.2.2
          rw [q, e1] at u
          exact absurd u (by decide)
        have n2 : F 6 ≠ 2 := fun q => by
          have u := t6.2.2.2
          rw [q, e2] at u
          exact absurd u (by decide)
        have n3 : F 6 ≠ 3 := fun q => by
          have u := t6.2.2.2
          rw [q, e3] at u
          exact absurd u (by decide)
        have n4 : F 6 ≠ 4 := fun q => by
          have u := t6.2.2.2
          rw [q, e4] at u
          exact absurd u (by decide)
        have n5 : F 6 ≠ 5 := fun q => by
          have u := t6.2.2.2
          rw [q, e5] at u
          exact absurd u (by decide)
        have e6 : F 6 = 7 := by omega
        have e7 : F 7 = 6 := by have u := t6.2.2.2; rw [e6] at u; exact u
        exact pr_l4 6 e0 e1 e2 e3 e4 e5 e6 e7 rfl (by decide)
      · have e6 : F 6 = 3 := by have u := t3.2.2.2; rw [e3] at u; exact u
        have n0 : F 4 ≠ 0 := fun q => by
          have u := t4.2.2.2
          rw [q, e0] at u
          exact absurd u (by decide)
        have n1 : F 4 ≠ 1 := fun q => by
          have u := t4.2.2.2
          rw [q, e1] at u
          exact absurd u (by decide)
        have n2 : F 4 ≠ 2 := fun q => by
          have u := t4.2.2.2
          rw [q, e2] at u
          exact absurd u (by decide)
        have n3 : F 4 ≠ 3 := fun q => by
          have u := t4.2.2.2
          rw [q, e3] at u
          exact absurd u (by decide)
        have n5 : F 4 ≠ 5 := fun q => by
          have u := t4.2.2.2
          rw [q, e5] at u
          exact absurd u (by decide)
        have n6 : F 4 ≠ 6 := fun q => by
          have u := t4.2.2.2
          rw [q, e6] at u
          exact absurd u (by decide)
        have e4 : F 4 = 7 := by omega
        have e7 : F 7 = 4 := by have u := t4.2.2.2; rw [e4] at u; exact u
        exact pr_l4 7 e0 e1 e2 e3 e4 e5 e6 e7 rfl (by decide)
      · have e7 : F 7 = 3 := by have u := t3.2.2.2; rw [e3] at u; exact u
        have n0 : F 4 ≠ 0 := fun q => by
          have u := t4.2.2.2
          rw [q, e0] at u
          exact absurd u (by decide)
        have n1 : F 4 ≠ 1 := fun q => by
          have u := t4.2.2.2
          rw [q, e1] at u
          exact absurd u (by decide)
        have n2 : F 4 ≠ 2 := fun q => by
          have u := t4.2.2.2
          rw [q, e2] at u
          exact absurd u (by decide)
        have n3 : F 4 ≠ 3 := fun q => by
          have u := t4.2.2.2
          rw [q, e3] at u
          exact absurd u (by decide)
        have n5 : F 4 ≠ 5 := fun q => by
          have u := t4.2.2.2
          rw [q, e5] at u
          exact absurd u (by decide)
        have n7 : F 4 ≠ 7 := fun q => by
          have u := t4.2.2.2
          rw [q, e7] at u
          exact absurd u (by decide)
        have e4 : F 4 = 6 := by omega
        have e6 : F 6 = 4 := by have u := t4.2.2.2; rw [e4] at u; exact u
        exact pr_l4 8 e0 e1 e2 e3 e4 e5 e6 e7 rfl (by decide)
    · have e6 : F 6 = 2 := by have u := t2.2.2.2; rw [e2] at u; exact u
      have n0 : F 3 ≠ 0 := fun q => by
        have u := t3.2.2.2
        rw [q, e0] at u
        exact absurd u (by decide)
      have n1 : F 3 ≠ 1 := fun q => by
        have u := t3.2.2.2
        rw [q, e1] at u
        exact absurd u (by decide)
      have n2 : F 3 ≠ 2 := fun q => by
        have u := t3.2.2.2
        rw [q, e2] at u
        exact absurd u (by decide)
      have n6 : F 3 ≠ 6 := fun q => by
        have u := t3.2.2.2
        rw [q, e6] at u
        exact absurd u (by decide)
      have s : F 3 = 4 ∨ F 3 = 5 ∨ F 3 = 7 := by omega
      rcases s with e3 | e3 | e3
      · have e4 : F 4 = 3 := by have u := t3.2.2.2; rw [e3] at u; exact u
        have n0 : F 5 ≠ 0 := fun q => by
          have u := t5.2.2.2
          rw [q, e0] at u
          exact absurd u (by decide)
        have n1 : F 5 ≠ 1 := fun q => by
          have u := t5.2.2.2
          rw [q, e1] at u
          exact absurd u (by decide)
        have n2 : F 5 ≠ 2 := fun q => by
          have u := t5.2.2.2
          rw [q, e2] at u
          exact absurd u (by decide)
        have n3 : F 5 ≠ 3 := fun q => by
          have u := t5.2.2.2
          rw [q, e3] at u
          exact absurd u (by decide)
        have n4 : F 5 ≠ 4 := fun q => by
          have u := t5.2.2.2
          rw [q, e4] at u
          exact absurd u (by decide)
        have n6 : F 5 ≠ 6 := fun q => by
          have u := t5.2.2.2
          rw [q, e6] at u
          exact absurd u (by decide)
        have e5 : F 5 = 7 := by omega
        have e7 : F 7 = 5 := by have u := t5.2.2.2; rw [e5] at u; exact u
        exact pr_l4 9 e0 e1 e2 e3 e4 e5 e6 e7 rfl (by decide)
      · have e5 : F 5 = 3 := by have u := t3.2.2.2; rw [e3] at u; exact u
        have n0 : F 4 ≠ 0 := fun q => by
          have u := t4.2.2.2
          rw [q, e0] at u
          exact absurd u (by decide)
        have n1 : F 4 ≠ 1 := fun q => by
          have u := t4.2.2.2
          rw [q, e1] at u
          exact absurd u (by decide)
        have n2 : F 4 ≠ 2 := fun q => by
          have u := t4.2.2.2
          rw [q, e2] at u
          exact absurd u (by decide)
        have n3 : F 4 ≠ 3 := fun q => by
          have u := t4.2.2.2
          rw [q, e3] at u
          exact absurd u (by decide)
        have n5 : F 4 ≠ 5 := fun q => by
          have u := t4.2.2.2
          rw [q, e5] at u
          exact absurd u (by decide)
        have n6 : F 4 ≠ 6 := fun q => by
          have u := t4.2.2.2
          rw [q, e6] at u
          exact absurd u (by decide)
        have e4 : F 4 = 7 := by omega
        have e7 : F 7 = 4 := by have u := t4.2.2.2; rw [e4] at u; exact u
        exact pr_l4 10 e0 e1 e2 e3 e4 e5 e6 e7 rfl (by decide)
      · have e7 : F 7 = 3 := by have u := t3.2.2.2; rw [e3] at u; exact u
        have n0 : F 4 ≠ 0 := fun q => by
          have u := t4.2.2.2
          rw [q, e0] at u
          exact absurd u (by decide)
        have n1 : F 4 ≠ 1 := fun q => by
          have u := t4.2.2.2
          rw [q, e1] at u
          exact absurd u (by decide)
        have n2 : F 4 ≠ 2 := fun q => by
          have u := t4.2.2.2
          rw [q, e2] at u
          exact absurd u (by decide)
        have n3 : F 4 ≠ 3 := fun q => by
          have u := t4.2.2.2
          rw [q, e3] at u
          exact absurd u (by decide)
        have n6 : F 4 ≠ 6 := fun q => by
          have u := t4.2.2.2
          rw [q, e6] at u
          exact absurd u (by decide)
        have n7 : F 4 ≠ 7 := fun q => by
          have u := t4.2.2.2
          rw [q, e7] at u
          exact absurd u (by decide)
        have e4 : F 4 = 5 := by omega
        have e5 : F 5 = 4 := by have u := t4.2.2.2; rw [e4] at u; exact u
        exact pr_l4 11 e0 e1 e2 e3 e4 e5 e6 e7 rfl (by decide)
    · have e7 : F 7 = 2 := by have u := t2.2.2.2; rw [e2] at u; exact u
      have n0 : F 3 ≠ 0 := fun q => by
        have u := t3.2.2.2
        rw [q, e0] at u
        exact absurd u (by decide)
      have n1 : F 3 ≠ 1 := fun q => by
        have u := t3.2.2.2
        rw [q, e1] at u
        exact absurd u (by decide)
      have n2 : F 3 ≠ 2 := fun q => by
        have u := t3.2.2.2
        rw [q, e2] at u
        exact absurd u (by decide)
      have n7 : F 3 ≠ 7 := fun q => by
        have u := t3.2.2.2
        rw [q, e7] at u
        exact absurd u (by decide)
      have s : F 3 = 4 ∨ F 3 = 5 ∨ F 3 = 6 := by omega
      rcases s with e3 | e3 | e3
      · have e4 : F 4 = 3 := by have u := t3.2.2.2; rw [e3] at u; exact u
        have n0 : F 5 ≠ 0 := fun q => by
          have u := t5.2.2.2
          rw [q, e0] at u
          exact absurd u (by decide)
        have n1 : F 5 ≠ 1 := fun q => by
          have u := t5.2.2.2
          rw [q, e1] at u
          exact absurd u (by decide)
        have n2 : F 5 ≠ 2 := fun q => by
          have u := t5.2.2.2
          rw [q, e2] at u
          exact absurd u (by decide)
        have n3 : F 5 ≠ 3 := fun q => by
          have u := t5.2.2.2
          rw [q, e3] at u
          exact absurd u (by decide)
        have n4 : F 5 ≠ 4 := fun q => by
          have u := t5.2.2.2
          rw [q, e4] at u
          exact absurd u (by decide)
        have n7 : F 5 ≠ 7 := fun q => by
          have u := t5.2.2.2
          rw [q, e7] at u
          exact absurd u (by decide)
        have e5 : F 5 = 6 := by omega
        have e6 : F 6 = 5 := by have u := t5.2.2.2; rw [e5] at u; exact u
        exact pr_l4 12 e0 e1 e2 e3 e4 e5 e6 e7 rfl (by decide)
      · have e5 : F 5 = 3 := by have u := t3.2.2.2; rw [e3] at u; exact u
        have n0 : F 4 ≠ 0 := fun q => by
          have u := t4.2.2.2
          rw [q, e0] at u
          exact absurd u (by decide)
        have n1 : F 4 ≠ 1 := fun q => by
          have u := t4.2.2.2
          rw [q, e1] at u
          exact absurd u (by decide)
        have n2 : F 4 ≠ 2 := fun q => by
          have u := t4.2.2.2
          rw [q, e2] at u
          exact absurd u (by decide)
        have n3 : F 4 ≠ 3 := fun q => by
          have u := t4.2.2.2
          rw [q, e3] at u
          exact absurd u (by decide)
        have n5 : F 4 ≠ 5 := fun q => by
          have u := t4.2.2.2
          rw [q, e5] at u
          exact absurd u (by decide)
        have n7 : F 4 ≠ 7 := fun q => by
          have u := t4.2.2.2
          rw [q, e7] at u
          exact absurd u (by decide)
        have e4 : F 4 = 6 := by omega
        have e6 : F 6 = 4 := by have u := t4.2.2.2; rw [e4] at u; exact u
        exact pr_l4 13 e0 e1 e2 e3 e4 e5 e6 e7 rfl (by decide)
      · have e6 : F 6 = 3 := by have u := t3.2.2.2; rw [e3] at u; exact u
        have n0 : F 4 ≠ 0 := fun q => by
          have u := t4.2.2.2
          rw [q, e0] at u
          exact absurd u (by decide)
        have n1 : F 4 ≠ 1 := fun q => by
          have u := t4.2.2.2
          rw [q, e1] at u
          exact absurd u (by decide)
        have n2 : F 4 ≠ 2 := fun q => by
          have u := t4.2.2.2
          rw [q, e2] at u
          exact absurd u (by decide)
        have n3 : F 4 ≠ 3 := fun q => by
          have u := t4.2.2.2
          rw [q, e3] at u
          exact absurd u (by decide)
        have n6 : F 4 ≠ 6 := fun q => by
          have u := t4.2.2.2
          rw [q, e6] at u
          exact absurd u (by decide)
        have n7 : F 4 ≠ 7 := fun q => by
          have u := t4.2.2.2
          rw [q, e7] at u
          exact absurd u (by decide)
        have e4 : F 4 = 5 := by omega
        have e5 : F 5 = 4 := by have u := t4.2.2.2; rw [e4] at u; exact u
        exact pr_l4 14 e0 e1 e2 e3 e4 e5 e6 e7 rfl (by decide)
  · have e2 : F 2 = 0 := by have u := t0.2.2.2; rw [e0] at u; exact u
    have n0 : F 1 ≠ 0 := fun q => by
      have u := t1.2.2.2
      rw [q, e0] at u
      exact absurd u (by decide)
    have n2 : F 1 ≠ 2 := fun q => by
      have u := t1.2.2.2
      rw [q, e2] at u
      exact absurd u (by decide)
    have s : F 1 = 3 ∨ F 1 = 4 ∨ F 1 = 5 ∨ F 1 = 6 ∨ F 1 = 7 := by omega
    rcases s with e1 | e1 | e1 | e1 | e1
    · have e3 : F 3 = 1 := by have u := t1.2.2.2; rw [e1] at u; exact u
      have n0 : F 4 ≠ 0 := fun q => by
        have u := t4.2.2.2
        rw [q, e0] at u
        exact absurd u (by decide)
      have n1 : F 4 ≠ 1 := fun q => by
        have u := t4.2.2.2
        rw [q, e1] at u
        exact absurd u (by decide)
      have n2 : F 4 ≠ 2 := fun q => by
        have u := t4.2.2.2
        rw [q, e2] at u
        exact absurd u (by decide)
      have n3 : F 4 ≠ 3 := fun q => by
        have u := t4.2.2.2
        rw [q, e3] at u
        exact absurd u (by decide)
      have s : F 4 = 5 ∨ F 4 = 6 ∨ F 4 = 7 := by omega
      rcases s with e4 | e4 | e4
      · have e5 : F 5 = 4 := by have u := t4.2.2.2; rw [e4] at u; exact u
        have n0 : F 6 ≠ 0 := fun q => by
          have u := t6.2.2.2
          rw [q, e0] at u
          exact absurd u (by decide)
        have n1 : F 6 ≠ 1 := fun q => by
          have u := t6.2.2.2
          rw [q, e1] at u
          exact absurd u (by decide)
        have n2 : F 6 ≠ 2 := fun q => by
          have u := t6.2.2.2
          rw [q, e2] at u
          exact absurd u (by decide)
        have n3 : F 6 ≠ 3 := fun q => by
          have u := t6.2.2.2
          rw [q, e3] at u
          exact absurd u (by decide)
        have n4 : F 6 ≠ 4 := fun q => by
          have u := t6.2.2.2
          rw [q, e4] at u
          exact absurd u (by decide)
        have n5 : F 6 ≠ 5 := fun q => by
          have u := t6.2.2.2
          rw [q, e5] at u
          exact absurd u (by decide)
        have e6 : F 6 = 7 := by omega
        have e7 : F 7 = 6 := by have u := t6.2.2.2; rw [e6] at u; exact u
        exact pr_l4 15 e0 e1 e2 e3 e4 e5 e6 e7 rfl (by decide)
      · have e6 : F 6 = 4 := by have u := t4.2.2.2; rw [e4] at u; exact u
        have n0 : F 5 ≠ 0 := fun q => by
          have u := t5.2.2.2
          rw [q, e0] at u
          exact absurd u (by decide)
        have n1 : F 5 ≠ 1 := fun q => by
          have u := t5.2.2.2
          rw [q, e1] at u
          exact absurd u (by decide)
        have n2 : F 5 ≠ 2 := fun q => by
          have u := t5.2.2.2
          rw [q, e2] at u
          exact absurd u (by decide)
        have n3 : F 5 ≠ 3 := fun q => by
          have u := t5.2.2.2
          rw [q, e3] at u
          exact absurd u (by decide)
        have n4 : F 5 ≠ 4 := fun q => by
          have u := t5.2.2.2
          rw [q, e4] at u
          exact absurd u (by decide)
        have n6 : F 5 ≠ 6 := fun q => by
          have u := t5.2.2.2
          rw [q, e6] at u
          exact absurd u (by decide)
        have e5 : F 5 = 7 := by omega
        have e7 : F 7 = 5 := by have u := t5.2.2.2; rw [e5] at u; exact u
        exact pr_l4 16 e0 e1 e2 e3 e4 e5 e6 e7 rfl (by decide)
      · have e7 : F 7 = 4 := by have u := t4.2.2.2; rw [e4] at u; exact u
        have n0 : F 5 ≠ 0 := fun q => by
          have u := t5.2.2.2
          rw [q, e0] at u
          exact absurd u (by decide)
        have n1 : F 5 ≠ 1 := fun q => by
          have u := t5.2.2.2
          rw [q, e1] at u
          exact absurd u (by decide)
        have n2 : F 5 ≠ 2 := fun q => by
          have u := t5.2.2.2
          rw [q, e2] at u
          exact absurd u (by decide)
        have n3 : F 5 ≠ 3 := fun q => by
          have u := t5.2.2.2
          rw [q, e3] at u
          exact absurd u (by decide)
        have n4 : F 5 ≠ 4 := fun q => by
          have u := t5.2.2.2
          rw [q, e4] at u
          exact absurd u (by decide)
        have n7 : F 5 ≠ 7 := fun q => by
          have u := t5.2.2.2
          rw [q, e7] at u
          exact absurd u (by decide)
        have e5 : F 5 = 6 := by omega
        have e6 : F 6 = 5 := by have u := t5.2.2.2; rw [e5] at u; exact u
        exact pr_l4 17 e0 e1 e2 e3 e4 e5 e6 e7 rfl (by decide)
    · have e4 : F 4 = 1 := by have u := t1.2.2.2; rw [e1] at u; exact u
      have n0 : F 3 ≠ 0 := fun q => by
        have u := t3.2.2.2
        rw [q, e0] at u
        exact absurd u (by decide)
      have n1 : F 3 ≠ 1 := fun q => by
        have u := t3.2.2.2
        rw [q, e1] at u
        exact absurd u (by decide)
      have n2 : F 3 ≠ 2 := fun q => by
        have u := t3.2.2.2
        rw [q, e2] at u
        exact absurd u (by decide)
      have n4 : F 3 ≠ 4 := fun q => by
        have u := t3.2.2.2
        rw [q, e4] at u
        exact absurd u (by decide)
      have s : F 3 = 5 ∨ F 3 = 6 ∨ F 3 = 7 := by omega
      rcases s with e3 | e3 | e3
      · have e5 : F 5 = 3 := by have u := t3.2.2.2; rw [e3] at u; exact u
        have n0 : F 6 ≠ 0 := fun q => by
          have u := t6.2.2.2
          rw [q, e0] at u
          exact absurd u (by decide)
        have n1 : F 6 ≠ 1 := fun q => by
          have u := t6.2.2.2
          rw [q, e1] at u
          exact absurd u (by decide)
        have n2 : F 6 ≠ 2 := fun q => by
          have u := t6.2.2.2
          rw [q, e2] at u
          exact absurd u (by decide)
        have n3 : F 6 ≠ 3 := fun q => by
          have u := t6.2.2.2
          rw [q, e3] at u
          exact absurd u (by decide)
        have n4 : F 6 ≠ 4 := fun q => by
          have u := t6.2.2.2
          rw [q, e4] at u
          exact absurd u (by decide)
        have n5 : F 6 ≠ 5 := fun q => by
          have u := t6.2.2.2
          rw [q, e5] at u
          exact absurd u (by decide)
        have e6 : F 6 = 7 := by omega
        have e7 : F 7 = 6 := by have u := t6.2.2.2; rw [e6] at u; exact u
        exact pr_l4 18 e0 e1 e2 e3 e4 e5 e6 e7 rfl (by decide)
      · have e6 : F 6 = 3 := by have u := t3.2.2.2; rw [e3] at u; exact u
        have n0 : F 5 ≠ 0 := fun q => by
          have u := t5.2.2.2
          rw [q, e0] at u
          exact absurd u (by decide)
        have n1 : F 5 ≠ 1 := fun q => by
          have u := t5.2.2.2
          rw [q, e1] at u
          exact absurd u (by decide)
        have n2 : F 5 ≠ 2 := fun q => by
          have u := t5.2.2.2
          rw [q, e2] at u
          exact absurd u (by decide)
        have n3 : F 5 ≠ 3 := fun q => by
          have u := t5.2.2.2
          rw [q, e3] at u
          exact absurd u (by decide)
        have n4 : F 5 ≠ 4 := fun q => by
          have u := t5.2.2.2
          rw [q, e4] at u
          exact absurd u (by decide)
        have n6 : F 5 ≠ 6 := fun q => by
          have u := t5.2.2.2
          rw [q, e6] at u
          exact absurd u (by decide)
        have e5 : F 5 = 7 := by omega
        have e7 : F 7 = 5 := by have u := t5.2.2.2; rw [e5] at u; exact u
        exact pr_l4 19 e0 e1 e2 e3 e4 e5 e6 e7 rfl (by decide)
      · have e7 : F 7 = 3 := by have u := t3.2.2.2; rw [e3] at u; exact u
        have n0 : F 5 ≠ 0 := fun q => by
          have u := t5.2.2.2
          rw [q, e0] at u
          exact absurd u (by decide)
        have n1 : F 5 ≠ 1 := fun q => by
          have u := t5.2.2.2
          rw [q, e1] at u
          exact absurd u (by decide)
        have n2 : F 5 ≠ 2 := fun q => by
          have u := t5.2.2.2
          rw [q, e2] at u
          exact absurd u (by decide)
        have n3 : F 5 ≠ 3 := fun q => by
          have u := t5.2.2.2
          rw [q, e3] at u
          exact absurd u (by decide)
        have n4 : F 5 ≠ 4 := fun q => by
          have u := t5.2.2.2
          rw [q, e4] at u
          exact absurd u (by decide)
        have n7 : F 5 ≠ 7 := fun q => by
          have u := t5.2.2.2
          rw [q, e7] at u
          exact absurd u (by decide)
        have e5 : F 5 = 6 := by omega
        have e6 : F 6 = 5 := by have u := t5.2.2.2; rw [e5] at u; exact u
        exact pr_l4 20 e0 e1 e2 e3 e4 e5 e6 e7 rfl (by decide)
    · have e5 : F 5 = 1 := by have u := t1.2.2.2; rw [e1] at u; exact u
      have n0 : F 3 ≠ 0 := fun q => by
        have u := t3.2.2.2
        rw [q, e0] at u
        exact absurd u (by decide)
      have n1 : F 3 ≠ 1 := fun q => by
        have u := t3.2.2.2
        rw [q, e1] at u
        exact absurd u (by decide)
      have n2 : F 3 ≠ 2 := fun q => by
        have u := t3.2.2.2
        rw [q, e2] at u
        exact absurd u (by decide)
      have n5 : F 3 ≠ 5 := fun q => by
        have u := t3.2.2.2
        rw [q, e5] at u
        exact absurd u (by decide)
      have s : F 3 = 4 ∨ F 3 = 6 ∨ F 3 = 7 := by omega
      rcases s with e3 | e3 | e3
      · have e4 : F 4 = 3 := by have u := t3.2.2.2; rw [e3] at u; exact u
        have n0 : F 6 ≠ 0 := fun q => by
          have u := t6.2.2.2
          rw [q, e0] at u
          exact absurd u (by decide)
        have n1 : F 6 ≠ 1 := fun q => by
          have u := t6.2.2.2
          rw [q, e1] at u
          exact absurd u (by decide)
        have n2 : F 6 ≠ 2 := fun q => by
          have u := t6.2.2.2
          rw [q, e2] at u
          exact absurd u (by decide)
        have n3 : F 6 ≠ 3 := fun q => by
          have u := t6.2.2.2
          rw [q, e3] at u
          exact absurd u (by decide)
        have n4 : F 6 ≠ 4 := fun q => by
          have u := t6.2.2.2
          rw [q, e4] at u
          exact absurd u (by decide)
        have n5 : F 6 ≠ 5 := fun q => by
          have u := t6.2.2.2
          rw [q, e5] at u
          exact absurd u (by decide)
        have e6 : F 6 = 7 := by omega
        have e7 : F 7 = 6 := by have u := t6.2.2.2; rw [e6] at u; exact u
        exact pr_l4 21 e0 e1 e2 e3 e4 e5 e6 e7 rfl (by decide)
      · have e6 : F 6 = 3 := by have u := t3.2.2.2; rw [e3] at u; exact u
        have n0 : F 4 ≠ 0 := fun q => by
          have u := t4.2.2.2
          rw [q, e0] at u
          exact absurd u (by decide)
        have n1 : F 4 ≠ 1 := fun q => by
          have u := t4.2.2.2
          rw [q, e1] at u
          exact absurd u (by decide)
        have n2 : F 4 ≠ 2 := fun q => by
          have u := t4.2.2.2
          rw [q, e2] at u
          exact absurd u (by decide)
        have n3 : F 4 ≠ 3 := fun q => by
          have u := t4.2.2.2
          rw [q, e3] at u
          exact absurd u (by decide)
        have n5 : F 4 ≠ 5 := fun q => by
          have u := t4.2.2.2
          rw [q, e5] at u
          exact absurd u (by decide)
        have n6 : F 4 ≠ 6 := fun q => by
          have u := t4.2.2.2
          rw [q, e6] at u
          exact absurd u (by decide)
        have e4 : F 4 = 7 := by omega
        have e7 : F 7 = 4 := by have u := t4.2.2.2; rw [e4] at u; exact u
        exact pr_l4 22 e0 e1 e2 e3 e4 e5 e6 e7 rfl (by decide)
      · have e7 : F 7 = 3 := by have u := t3.2.2.2; rw [e3] at u; exact u
        have n0 : F 4 ≠ 0 := fun q => by
          have u := t4.2.2.2
          rw [q, e0] at u
          exact absurd u (by decide)
        have n1 : F 4 ≠ 1 := fun q => by
          have u := t4.2.2.2
          rw [q, e1] at u
          exact absurd u (by decide)
        have n2 : F 4 ≠ 2 := fun q => by
          have u := t4.2.2.2
          rw [q, e2] at u
          exact absurd u (by decide)
        have n3 : F 4 ≠ 3 := fun q => by
          have u := t4.2.2.2
          rw [q, e3] at u
          exact absurd u (by decide)
        have n5 : F 4 ≠ 5 := fun q => by
          have u := t4.2.2.2
          rw [q, e5] at u
          exact absurd u (by decide)
        have n7 : F 4 ≠ 7 := fun q => by
          have u := t4.2.2.2
          rw [q, e7] at u
          exact absurd u (by decide)
        have e4 : F 4 = 6 := by omega
        have e6 : F 6 = 4 := by have u := t4.2.2.2; rw [e4] at u; exact u
        exact pr_l4 23 e0 e1 e2 e3 e4 e5 e6 e7 rfl (by decide)
    · have e6 : F 6 = 1 := by have u := t1.2.2.2; rw [e1] at u; exact u
      have n0 : F 3 ≠ 0 := fun q => by
        have u := t3.2.2.2
        rw [q, e0] at u
        exact absurd u (by decide)
      have n1 : F 3 ≠ 1 := fun q => by
        have u := t3.2.2.2
        rw [q, e1] at u
        exact absurd u (by decide)
      have n2 : F 3 ≠ 2 := fun q => by
        have u := t3.2.2.2
        rw [q, e2] at u
        exact absurd u (by decide)
      have n6 : F 3 ≠ 6 := fun q => by
        have u := t3.2.2.2
        rw [q, e6] at u
        exact absurd u (by decide)
      have s : F 3 = 4 ∨ F 3 = 5 ∨ F 3 = 7 := by omega
      rcases s with e3 | e3 | e3
      · have e4 : F 4 = 3 := by have u := t3.2.2.2; rw [e3] at u; exact u
        have n0 : F 5 ≠ 0 := fun q => by
          have u := t5.2.2.2
          rw [q, e0] at u
          exact absurd u (by decide)
        have n1 : F 5 ≠ 1 := fun q => by
          have u := t5.2.2.2
          rw [q, e1] at u
          exact absurd u (by decide)
        have n2 : F 5 ≠ 2 := fun q => by
          have u := t5.2.2.2
          rw [q, e2] at u
          exact absurd u (by decide)
        have n3 : F 5 ≠ 3 := fun q => by
          have u := t5.2.2.2
          rw [q, e3] at u
          exact absurd u (by decide)
        have n4 : F 5 ≠ 4 := fun q => by
          have u := t5.2.2.2
          rw [q, e4] at u
          exact absurd u (by decide)
        have n6 : F 5 ≠ 6 := fun q => by
          have u := t5.2.2.2
          rw [q, e6] at u
          exact absurd u (by decide)
        have e5 : F 5 = 7 := by omega
        have e7 : F 7 = 5 := by have u := t5.2.2.2; rw [e5] at u; exact u
        exact pr_l4 24 e0 e1 e2 e3 e4 e5 e6 e7 rfl (by decide)
      · have e5 : F 5 = 3 := by have u := t3.2.2.2; rw [e3] at u; exact u
        have n0 : F 4 ≠ 0 := fun q => by
          have u := t4.2.2.2
          rw [q, e0] at u
          exact absurd u (by decide)
        have n1 : F 4 ≠ 1 := fun q => by
          have u := t4.2.2.2
          rw [q, e1] at u
          exact absurd u (by decide)
        have n2 : F 4 ≠ 2 := fun q => by
          have u := t4.2.2.2
          rw [q, e2] at u
          exact absurd u (by decide)
        have n3 : F 4 ≠ 3 := fun q => by
          have u := t4.2.2.2
          rw [q, e3] at u
          exact absurd u (by decide)
        have n5 : F 4 ≠ 5 := fun q => by
          have u := t4.2.2.2
          rw [q, e5] at u
          exact absurd u (by decide)
        have n6 : F 4 ≠ 6 := fun q => by
          have u := t4.2.2.2
          rw [q, e6] at u
          exact absurd u (by decide)
        have e4 : F 4 = 7 := by omega
        have e7 : F 7 = 4 := by have u := t4.2.2.2; rw [e4] at u; exact u
        exact pr_l4 25 e0 e1 e2 e3 e4 e5 e6 e7 rfl (by decide)
      · have e7 : F 7 = 3 := by have u := t3.2.2.2; rw [e3] at u; exact u
        have n0 : F 4 ≠ 0 := fun q => by
          have u := t4.2.2.2
          rw [q, e0] at u
          exact absurd u (by decide)
        have n1 : F 4 ≠ 1 := fun q => by
          have u := t4.2.2.2
          rw [q, e1] at u
          exact absurd u (by decide)
        have n2 : F 4 ≠ 2 := fun q => by
          have u := t4.2.2.2
          rw [q, e2] at u
          exact absurd u (by decide)
        have n3 : F 4 ≠ 3 := fun q => by
          have u := t4.2.2.2
          rw [q, e3] at u
          exact absurd u (by decide)
        have n6 : F 4 ≠ 6 := fun q => by
          have u := t4.2.2.2
          rw [q, e6] at u
          exact absurd u (by decide)
        have n7 : F 4 ≠ 7 := fun q => by
          have u := t4.2.2.2
          rw [q, e7] at u
          exact absurd u (by decide)
        have e4 : F 4 = 5 := by omega
        have e5 : F 5 = 4 := by have u := t4.2.2.2; rw [e4] at u; exact u
        exact pr_l4 26 e0 e1 e2 e3 e4 e5 e6 e7 rfl (by decide)
    · have e7 : F 7 = 1 := by have u := t1.2.2.2; rw [e1] at u; exact u
      have n0 : F 3 ≠ 0 := fun q => by
        have u := t3.2.2.2
        rw [q, e0] at u
        exact absurd u (by decide)
      have n1 : F 3 ≠ 1 := fun q => by
        have u := t3.2.2.2
        rw [q, e1] at u
        exact absurd u (by decide)
      have n2 : F 3 ≠ 2 := fun q => by
        have u := t3.2.2.2
        rw [q, e2] at u
        exact absurd u (by decide)
      have n7 : F 3 ≠ 7 := fun q => by
        have u := t3.2.2.2
        rw [q, e7] at u
        exact absurd u (by decide)
      have s : F 3 = 4 ∨ F 3 = 5 ∨ F 3 = 6 := by omega
      rcases s with e3 | e3 | e3
      · have e4 : F 4 = 3 := by have u := t3.2.2.2; rw [e3] at u; exact u
        have n0 : F 5 ≠ 0 := fun q => by
          have u := t5.2.2.2
          rw [q, e0] at u
          exact absurd u (by decide)
        have n1 : F 5 ≠ 1 := fun q => by
          have u := t5.2.2.2
          rw [q, e1] at u
          exact absurd u (by decide)
        have n2 : F 5 ≠ 2 := fun q => by
          have u := t5.2.2.2
          rw [q, e2] at u
          exact absurd u (by decide)
        have n3 : F 5 ≠ 3 := fun q => by
          have u := t5.2.2.2
          rw [q, e3] at u
          exact absurd u (by decide)
        have n4 : F 5 ≠ 4 := fun q => by
          have u := t5.2.2.2
          rw [q, e4] at u
          exact absurd u (by decide)
        have n7 : F 5 ≠ 7 := fun q => by
          have u := t5.2.2.2
          rw [q, e7] at u
          exact absurd u (by decide)
        have e5 : F 5 = 6 := by omega
        have e6 : F 6 = 5 := by have u := t5.2.2.2; rw [e5] at u; exact u
        exact pr_l4 27 e0 e1 e2 e3 e4 e5 e6 e7 rfl (by decide)
      · have e5 : F 5 = 3 := by have u := t3.2.2.2; rw [e3] at u; exact u
        have n0 : F 4 ≠ 0 := fun q => by
          have u := t4.2.2.2
          rw [q, e0] at u
          exact absurd u (by decide)
        have n1 : F 4 ≠ 1 := fun q => by
          have u := t4.2.2.2
          rw [q, e1] at u
          exact absurd u (by decide)
        have n2 : F 4 ≠ 2 := fun q => by
          have u := t4.2.2.2
          rw [q, e2] at u
          exact absurd u (by decide)
        have n3 : F 4 ≠ 3 := fun q => by
          have u := t4.2.2.2
          rw [q, e3] at u
          exact absurd u (by decide)
        have n5 : F 4 ≠ 5 := fun q => by
          have u := t4.2.2.2
          rw [q, e5] at u
          exact absurd u (by decide)
        have n7 : F 4 ≠ 7 := fun q => by
          have u := t4.2.2.2
          rw [q, e7] at u
          exact absurd u (by decide)
        have e4 : F 4 = 6 := by omega
        have e6 : F 6 = 4 := by have u := t4.2.2.2; rw [e4] at u; exact u
        exact pr_l4 28 e0 e1 e2 e3 e4 e5 e6 e7 rfl (by decide)
      · have e6 : F 6 = 3 := by have u := t3.2.2.2; rw [e3] at u; exact u
        have n0 : F 4 ≠ 0 := fun q => by
          have u := t4.2.2.2
          rw [q, e0] at u
          exact absurd u (by decide)
        have n1 : F 4 ≠ 1 := fun q => by
          have u := t4.2.2.2
          rw [q, e1] at u
          exact absurd u (by decide)
        have n2 : F 4 ≠ 2 := fun q => by
          have u := t4.2.2.2
          rw [q, e2] at u
          exact absurd u (by decide)
        have n3 : F 4 ≠ 3 := fun q => by
          have u := t4.2.2.2
          rw [q, e3] at u
          exact absurd u (by decide)
        have n6 : F 4 ≠ 6 := fun q => by
          have u := t4.2.2.2
          rw [q, e6] at u
          exact absurd u (by decide)
        have n7 : F 4 ≠ 7 := fun q => by
          have u := t4.2.2.2
          rw [q, e7] at u
          exact absurd u (by decide)
        have e4 : F 4 = 5 := by omega
        have e5 : F 5 = 4 := by have u := t4.2.2.2; rw [e4] at u; exact u
        exact pr_l4 29 e0 e1 e2 e3 e4 e5 e6 e7 rfl (by decide)
  · have e3 : F 3 = 0 := by have u := t0.2.2.2; rw [e0] at u; exact u
    have n0 : F 1 ≠ 0 := fun q => by
      have u := t1.2.2.2
      rw [q, e0] at u
      exact absurd u (by decide)
    have n3 : F 1 ≠ 3 := fun q => by
      have u := t1.2.2.2
      rw [q, e3] at u
      exact absurd u (by decide)
    have s : F 1 = 2 ∨ F 1 = 4 ∨ F 1 = 5 ∨ F 1 = 6 ∨ F 1 = 7 := by omega
    rcases s with e1 | e1 | e1 | e1 | e1
    · have e2 : F 2 = 1 := by have u := t1.2.2.2; rw [e1] at u; exact u
      have n0 : F 4 ≠ 0 := fun q => by
        have u := t4.2.2.2
        rw [q, e0] at u
        exact absurd u (by decide)
      have n1 : F 4 ≠ 1 := fun q => by
        have u := t4.2.2.2
        rw [q, e1] at u
        exact absurd u (by decide)
      have n2 : F 4 ≠ 2 := fun q => by
        have u := t4.2.2.2
        rw [q, e2] at u
        exact absurd u (by decide)
      have n3 : F 4 ≠ 3 := fun q => by
        have u := t4.2.2.2
        rw [q, e3] at u
        exact absurd u (by decide)
      have s : F 4 = 5 ∨ F 4 = 6 ∨ F 4 = 7 := by omega
      rcases s with e4 | e4 | e4
      · have e5 : F 5 = 4 := by have u := t4.2.2.2; rw [e4] at u; exact u
        have n0 : F 6 ≠ 0 := fun q => by
          have u := t6.2.2.2
          rw [q, e0] at u
          exact absurd u (by decide)
        have n1 : F 6 ≠ 1 := fun q => by
          have u := t6.2.2.2
          rw [q, e1] at u
          exact absurd u (by decide)
        have n2 : F 6 ≠ 2 := fun q => by
          have u := t6.2.2.2
          rw [q, e2] at u
          exact absurd u (by decide)
        have n3 : F 6 ≠ 3 := fun q => by
          have u := t6.2.2.2
          rw [q, e3] at u
          exact absurd u (by decide)
        have n4 : F 6 ≠ 4 := fun q => by
          have u := t6.2.2.2
          rw [q, e4] at u
          exact absurd u (by decide)
        have n5 : F 6 ≠ 5 := fun q => by
          have u := t6.2.2.2
          rw [q, e5] at u
          exact absurd u (by decide)
        have e6 : F 6 = 7 := by omega
        have e7 : F 7 = 6 := by have u := t6.2.2.2; rw [e6] at u; exact u
        exact pr_l4 30 e0 e1 e2 e3 e4 e5 e6 e7 rfl (by decide)
      · have e6 : F 6 = 4 := by have u := t4.2.2.2; rw [e4] at u; exact u
        have n0 : F 5 ≠ 0 := fun q => by
          have u := t5.2.2.2
          rw [q, e0] at u
          exact absurd u (by decide)
        have n1 : F 5 ≠ 1 := fun q => by
          have u := t5.2.2.2
          rw [q, e1] at u
          exact absurd u (by decide)
        have n2 : F 5 ≠ 2 := fun q => by
          have u := t5.2.2.2
          rw [q, e2] at u
          exact absurd u (by decide)
        have n3 : F 5 ≠ 3 := fun q => by
          have u := t5.2.2.2
          rw [q, e3] at u
          exact absurd u (by decide)
        have n4 : F 5 ≠ 4 := fun q => by
          have u := t5.2.2.2
          rw [q, e4] at u
          exact absurd u (by decide)
        have n6 : F 5 ≠ 6 := fun q => by
          have u := t5.2.2.2
          rw [q, e6] at u
          exact absurd u (by decide)
        have e5 : F 5 = 7 := by omega
        have e7 : F 7 = 5 := by have u := t5.2.2.2; rw [e5] at u; exact u
        exact pr_l4 31 e0 e1 e2 e3 e4 e5 e6 e7 rfl (by decide)
      · have e7 : F 7 = 4 := by have u := t4.2.2.2; rw [e4] at u; exact u
        have n0 : F 5 ≠ 0 := fun q => by
          have u := t5.2.2.2
          rw [q, e0] at u
          exact absurd u (by decide)
        have n1 : F 5 ≠ 1 := fun q => by
          have u := t5.2.2.2
          rw [q, e1] at u
          exact absurd u (by decide)
        have n2 : F 5 ≠ 2 := fun q => by
          have u := t5.2.2.2
          rw [q, e2] at u
          exact absurd u (by decide)
        have n3 : F 5 ≠ 3 := fun q => by
          have u := t5.2.2.2
          rw [q, e3] at u
          exact absurd u (by decide)
        have n4 : F 5 ≠ 4 := fun q => by
          have u := t5.2.2.2
          rw [q, e4] at u
          exact absurd u (by decide)
        have n7 : F 5 ≠ 7 := fun q => by
          have u := t5.2.2.2
          rw [q, e7] at u
          exact absurd u (by decide)
        have e5 : F 5 = 6 := by omega
        have e6 : F 6 = 5 := by have u := t5.2.2.2; rw [e5] at u; exact u
        exact pr_l4 32 e0 e1 e2 e3 e4 e5 e6 e7 rfl (by decide)
    · have e4 : F 4 = 1 := by have u := t1.2.2.2; rw [e1] at u; exact u
      have n0 : F 2 ≠ 0 := fun q => by
        have u := t2.2.2.2
        rw [q, e0] at u
        exact absurd u (by decide)
      have n1 : F 2 ≠ 1 := fun q => by
        have u := t2.2.2.2
        rw [q, e1] at u
        exact absurd u (by decide)
      have n3 : F 2 ≠ 3 := fun q => by
        have u := t2.2.2.2
        rw [q, e3] at u
        exact absurd u (by decide)
      have n4 : F 2 ≠ 4 := fun q => by
        have u := t2.2.2.2
        rw [q, e4] at u
        exact absurd u (by decide)
      have s : F 2 = 5 ∨ F 2 = 6 ∨ F 2 = 7 := by omega
      rcases s with e2 | e2 | e2
      · have e5 : F 5 = 2 := by have u := t2.2.2.2; rw [e2] at u; exact u
        have n0 : F 6 ≠ 0 := fun q => by
          have u := t6.2.2.2
          rw [q, e0] at u
          exact absurd u (by decide)
        have n1 : F 6 ≠ 1 := fun q => by
          have u := t6.2.2.2
          rw [q, e1] at u
          exact absurd u (by decide)
        have n2 : F 6 ≠ 2 := fun q => by
          have u := t6.2.2.2
          rw [q, e2] at u
          exact absurd u (by decide)
        have n3 : F 6 ≠ 3 := fun q => by
          have u := t6.2.2.2
          rw [q, e3] at u
          exact absurd u (by decide)
        have n4 : F 6 ≠ 4 := fun q => by
          have u := t6.2.2.2
          rw [q, e4] at u
          exact absurd u (by decide)
        have n5 : F 6 ≠ 5 := fun q => by
          have u := t6.2.2.2
          rw [q, e5] at u
          exact absurd u (by decide)
        have e6 : F 6 = 7 := by omega
        have e7 : F 7 = 6 := by have u := t6.2.2.2; rw [e6] at u; exact u
        exact pr_l4 33 e0 e1 e2 e3 e4 e5 e6 e7 rfl (by decide)
      · have e6 : F 6 = 2 := by have u := t2.2.2.2; rw [e2] at u; exact u
        have n0 : F 5 ≠ 0 := fun q => by
          have u := t5.2.2.2
          rw [q, e0] at u
          exact absurd u (by decide)
        have n1 : F 5 ≠ 1 := fun q => by
          have u := t5.2.2.2
          rw [q, e1] at u
          exact absurd u (by decide)
        have n2 : F 5 ≠ 2 := fun q => by
          have u := t5.2.2.2
          rw [q, e2] at u
          exact absurd u (by decide)
        have n3 : F 5 ≠ 3 := fun q => by
          have u := t5.2.2.2
          rw [q, e3] at u
          exact absurd u (by decide)
        have n4 : F 5 ≠ 4 := fun q => by
          have u := t5.2.2.2
          rw [q, e4] at u
          exact absurd u (by decide)
        have n6 : F 5 ≠ 6 := fun q => by
          have u := t5.2.2.2
          rw [q, e6] at u
          exact absurd u (by decide)
        have e5 : F 5 = 7 := by omega
        have e7 : F 7 = 5 := by have u := t5.2.2.2; rw [e5] at u; exact u
        exact pr_l4 34 e0 e1 e2 e3 e4 e5 e6 e7 rfl (by decide)
      · have e7 : F 7 = 2 := by have u := t2.2.2.2; rw [e2] at u; exact u
        have n0 : F 5 ≠ 0 := fun q => by
          have u := t5.2.2.2
          rw [q, e0] at u
          exact absurd u (by decide)
        have n1 : F 5 ≠ 1 := fun q => by
          have u := t5.2.2.2
          rw [q, e1] at u
          exact absurd u (by decide)
        have n2 : F 5 ≠ 2 := fun q => by
          have u := t5.2.2.2
          rw [q, e2] at u
          exact absurd u (by decide)
        have n3 : F 5 ≠ 3 := fun q => by
          have u := t5.2.2.2
          rw [q, e3] at u
          exact absurd u (by decide)
        have n4 : F 5 ≠ 4 := fun q => by
          have u := t5.2.2.2
          rw [q, e4] at u
          exact absurd u (by decide)
        have n7 : F 5 ≠ 7 := fun q => by
          have u := t5.2.2.2
          rw [q, e7] at u
          exact absurd u (by decide)
        have e5 : F 5 = 6 := by omega
        have e6 : F 6 = 5 := by have u := t5.2.2.2; rw [e5] at u; exact u
        exact pr_l4 35 e0 e1 e2 e3 e4 e5 e6 e7 rfl (by decide)
    · have e5 : F 5 = 1 := by have u := t1.2.2.2; rw [e1] at u; exact u
      have n0 : F 2 ≠ 0 := fun q => by
        have u := t2.2.2.2
        rw [q, e0] at u
        exact absurd u (by decide)
      have n1 : F 2 ≠ 1 := fun q => by
        have u := t2.2.2.2
        rw [q, e1] at u
        exact absurd u (by decide)
      have n3 : F 2 ≠ 3 := fun q => by
        have u := t2.2.2.2
        rw [q, e3] at u
        exact absurd u (by decide)
      have n5 : F 2 ≠ 5 := fun q => by
        have u := t2.2.2.2
        rw [q, e5] at u
        exact absurd u (by decide)
      have s : F 2 = 4 ∨ F 2 = 6 ∨ F 2 = 7 := by omega
      rcases s with e2 | e2 | e2
      · have e4 : F 4 = 2 := by have u := t2.2.2.2; rw [e2] at u; exact u
        have n0 : F 6 ≠ 0 := fun q => by
          have u := t6.2.2.2
          rw [q, e0] at u
          exact absurd u (by decide)
        have n1 : F 6 ≠ 1 := fun q => by
          have u := t6.2.2.2
          rw [q, e1] at u
          exact absurd u (by decide)
        have n2 : F 6 ≠ 2 := fun q => by
          have u := t6.2.2.2
          rw [q, e2] at u
          exact absurd u (by decide)
        have n3 : F 6 ≠ 3 := fun q => by
          have u := t6.2.2.2
          rw [q, e3] at u
          exact absurd u (by decide)
        have n4 : F 6 ≠ 4 := fun q => by
          have u := t6.2.2.2
          rw [q, e4] at u
          exact absurd u (by decide)
        have n5 : F 6 ≠ 5 := fun q => by
          have u := t6.2.2.2
          rw [q, e5] at u
          exact absurd u (by decide)
        have e6 : F 6 = 7 := by omega
        have e7 : F 7 = 6 := by have u := t6.2.2.2; rw [e6] at u; exact u
        exact pr_l4 36 e0 e1 e2 e3 e4 e5 e6 e7 rfl (by decide)
      · have e6 : F 6 = 2 := by have u := t2.2.2.2; rw [e2] at u; exact u
        have n0 : F 4 ≠ 0 := fun q => by
          have u := t4.2.2.2
          rw [q, e0] at u
          exact absurd u (by decide)
        have n1 : F 4 ≠ 1 := fun q => by
          have u := t4.2.2.2
          rw [q, e1] at u
          exact absurd u (by decide)
        have n2 : F 4 ≠ 2 := fun q => by
          have u := t4.2.2.2
          rw [q, e2] at u
          exact absurd u (by decide)
        have n3 : F 4 ≠ 3 := fun q => by
          have u := t4.2.2.2
          rw [q, e3] at u
          exact absurd u (by decide)
        have n5 : F 4 ≠ 5 := fun q => by
          have u := t4.2.2.2
          rw [q, e5] at u
          exact absurd u (by decide)
        have n6 : F 4 ≠ 6 := fun q => by
          have u := t4.2.2.2
          rw [q, e6] at u
          exact absurd u (by decide)
        have e4 : F 4 = 7 := by omega
        have e7 : F 7 = 4 := by have u := t4.2.2.2; rw [e4] at u; exact u
        exact pr_l4 37 e0 e1 e2 e3 e4 e5 e6 e7 rfl (by decide)
      · have e7 : F 7 = 2 := by have u := t2.2.2.2; rw [e2] at u; exact u
        have n0 : F 4 ≠ 0 := fun q => by
          have u := t4.2.2.2
          rw [q, e0] at u
          exact absurd u (by decide)
        have n1 : F 4 ≠ 1 := fun q => by
          have u := t4.2.2.2
          rw [q, e1] at u
          exact absurd u (by decide)
        have n2 : F 4 ≠ 2 := fun q => by
          have u := t4.2.2.2
          rw [q, e2] at u
          exact absurd u (by decide)
        have n3 : F 4 ≠ 3 := fun q => by
          have u := t4.2.2.2
          rw [q, e3] at u
          exact absurd u (by decide)
        have n5 : F 4 ≠ 5 := fun q => by
          have u := t4.2.2.2
          rw [q, e5] at u
          exact absurd u (by decide)
        have n7 : F 4 ≠ 7 := fun q => by
          have u := t4.2.2.2
          rw [q, e7] at u
          exact absurd u (by decide)
        have e4 : F 4 = 6 := by omega
        have e6 : F 6 = 4 := by have u := t4.2.2.2; rw [e4] at u; exact u
        exact pr_l4 38 e0 e1 e2 e3 e4 e5 e6 e7 rfl (by decide)
    · have e6 : F 6 = 1 := by have u := t1.2.2.2; rw [e1] at u; exact u
      have n0 : F 2 ≠ 0 := fun q => by
        have u := t2.2.2.2
        rw [q, e0] at u
        exact absurd u (by decide)
      have n1 : F 2 ≠ 1 := fun q => by
        have u := t2.2.2.2
        rw [q, e1] at u
        exact absurd u (by decide)
      have n3 : F 2 ≠ 3 := fun q => by
        have u := t2.2.2.2
        rw [q, e3] at u
        exact absurd u (by decide)
      have n6 : F 2 ≠ 6 := fun q => by
        have u := t2.2.2.2
        rw [q, e6] at u
        exact absurd u (by decide)
      have s : F 2 = 4 ∨ F 2 = 5 ∨ F 2 = 7 := by omega
      rcases s with e2 | e2 | e2
      · have e4 : F 4 = 2 := by have u := t2.2.2.2; rw [e2] at u; exact u
        have n0 : F 5 ≠ 0 := fun q => by
          have u := t5.2.2.2
          rw [q, e0] at u
          exact absurd u (by decide)
        have n1 : F 5 ≠ 1 := fun q => by
          have u := t5.2.2.2
          rw [q, e1] at u
          exact absurd u (by decide)
        have n2 : F 5 ≠ 2 := fun q => by
          have u := t5.2.2.2
          rw [q, e2] at u
          exact absurd u (by decide)
        have n3 : F 5 ≠ 3 := fun q => by
          have u := t5.2.2.2
          rw [q, e3] at u
          exact absurd u (by decide)
        have n4 : F 5 ≠ 4 := fun q => by
          have u := t5.2.2.2
          rw [q, e4] at u
          exact absurd u (by decide)
        have n6 : F 5 ≠ 6 := fun q => by
          have u := t5.2.2.2
          rw [q, e6] at u
          exact absurd u (by decide)
        have e5 : F 5 = 7 := by omega
        have e7 : F 7 = 5 := by have u := t5.2.2.2; rw [e5] at u; exact u
        exact pr_l4 39 e0 e1 e2 e3 e4 e5 e6 e7 rfl (by decide)
      · have e5 : F 5 = 2 := by have u := t2.2.2.2; rw [e2] at u; exact u
        have n0 : F 4 ≠ 0 := fun q => by
          have u := t4.2.2.2
          rw [q, e0] at u
          exact absurd u (by decide)
        have n1 : F 4 ≠ 1 := fun q => by
          have u := t4.2.2.2
          rw [q, e1] at u
          exact absurd u (by decide)
        have n2 : F 4 ≠ 2 := fun q => by
          have u := t4.2.2.2
          rw [q, e2] at u
          exact absurd u (by decide)
        have n3 : F 4 ≠ 3 := fun q => by
          have u := t4.2.2.2
          rw [q, e3] at u
          exact absurd u (by decide)
        have n5 : F 4 ≠ 5 := fun q => by
          have u := t4.2.2.2
          rw [q, e5] at u
          exact absurd u (by decide)
        have n6 : F 4 ≠ 6 := fun q => by
          have u := t4.2.2.2
          rw [q, e6] at u
          exact absurd u (by decide)
        have e4 : F 4 = 7 := by omega
        have e7 : F 7 = 4 := by have u := t4.2.2.2; rw [e4] at u; exact u
        exact pr_l4 40 e0 e1 e2 e3 e4 e5 e6 e7 rfl (by decide)
      · have e7 : F 7 = 2 := by have u := t2.2.2.2; rw [e2] at u; exact u
        have n0 : F 4 ≠ 0 := fun q => by
          have u := t4.2.2.2
          rw [q, e0] at u
          exact absurd u (by decide)
        have n1 : F 4 ≠ 1 := fun q => by
          have u := t4.2.2.2
          rw [q, e1] at u
          exact absurd u (by decide)
        have n2 : F 4 ≠ 2 := fun q => by
          have u := t4.2.2.2
          rw [q, e2] at u
          exact absurd u (by decide)
        have n3 : F 4 ≠ 3 := fun q => by
          have u := t4.2.2.2
          rw [q, e3] at u
          exact absurd u (by decide)
        have n6 : F 4 ≠ 6 := fun q => by
          have u := t4.2.2.2
          rw [q, e6] at u
          exact absurd u (by decide)
        have n7 : F 4 ≠ 7 := fun q => by
          have u := t4.2.2.2
          rw [q, e7] at u
          exact absurd u (by decide)
        have e4 : F 4 = 5 := by omega
        have e5 : F 5 = 4 := by have u := t4.2.2.2; rw [e4] at u; exact u
        exact pr_l4 41 e0 e1 e2 e3 e4 e5 e6 e7 rfl (by decide)
    · have e7 : F 7 = 1 := by have u := t1.2.2.2; rw [e1] at u; exact u
      have n0 : F 2 ≠ 0 := fun q => by
        have u := t2.2.2.2
        rw [q, e0] at u
        exact absurd u (by decide)
      have n1 : F 2 ≠ 1 := fun q => by
        have u := t2.2.2.2
        rw [q, e1] at u
        exact absurd u (by decide)
      have n3 : F 2 ≠ 3 := fun q => by
        have u := t2.2.2.2
        rw [q, e3] at u
        exact absurd u (by decide)
      have n7 : F 2 ≠ 7 := fun q => by
        have u := t2.2.2.2
        rw [q, e7] at u
        exact absurd u (by decide)
      have s : F 2 = 4 ∨ F 2 = 5 ∨ F 2 = 6 := by omega
      rcases s with e2 | e2 | e2
      · have e4 : F 4 = 2 := by have u := t2.2.2.2; rw [e2] at u; exact u
        have n0 : F 5 ≠ 0 := fun q => by
          have u := t5.2.2.2
          rw [q, e0] at u
          exact absurd u (by decide)
        have n1 : F 5 ≠ 1 := fun q => by
          have u := t5.2.2.2
          rw [q, e1] at u
          exact absurd u (by decide)
        have n2 : F 5 ≠ 2 := fun q => by
          have u := t5.2.2.2
          rw [q, e2] at u
          exact absurd u (by decide)
        have n3 : F 5 ≠ 3 := fun q => by
          have u := t5.2.2.2
          rw [q, e3] at u
          exact absurd u (by decide)
        have n4 : F 5 ≠ 4 := fun q => by
          have u := t5.2.2.2
          rw [q, e4] at u
          exact absurd u (by decide)
        have n7 : F 5 ≠ 7 := fun q => by
          have u := t5.2.2.2
          rw [q, e7] at u
          exact absurd u (by decide)
        have e5 : F 5 = 6 := by omega
        have e6 : F 6 = 5 := by have u := t5.2.2.2; rw [e5] at u; exact u
        exact pr_l4 42 e0 e1 e2 e3 e4 e5 e6 e7 rfl (by decide)
      · have e5 : F 5 = 2 := by have u := t2.2.2.2; rw [e2] at u; exact u
        have n0 : F 4 ≠ 0 := fun q => by
          have u := t4.2.2.2
          rw [q, e0] at u
          exact absurd u (by decide)
        have n1 : F 4 ≠ 1 := fun q => by
          have u := t4.2.2.2
          rw [q, e1] at u
          exact absurd u (by decide)
        have n2 : F 4 ≠ 2 := fun q => by
          have u := t4.2.2.2
          rw [q, e2] at u
          exact absurd u (by decide)
        have n3 : F 4 ≠ 3 := fun q => by
          have u := t4.2.2.2
          rw [q, e3] at u
          exact absurd u (by decide)
        have n5 : F 4 ≠ 5 := fun q => by
          have u := t4.2.2.2
          rw [q, e5] at u
          exact absurd u (by decide)
        have n7 : F 4 ≠ 7 := fun q => by
          have u := t4.2.2.2
          rw [q, e7] at u
          exact absurd u (by decide)
        have e4 : F 4 = 6 := by omega
        have e6 : F 6 = 4 := by have u := t4.2.2.2; rw [e4] at u; exact u
        exact pr_l4 43 e0 e1 e2 e3 e4 e5 e6 e7 rfl (by decide)
      · have e6 : F 6 = 2 := by have u := t2.2.2.2; rw [e2] at u; exact u
        have n0 : F 4 ≠ 0 := fun q => by
          have u := t4.2.2.2
          rw [q, e0] at u
          exact absurd u (by decide)
        have n1 : F 4 ≠ 1 := fun q => by
          have u := t4.2.2.2
          rw [q, e1] at u
          exact absurd u (by decide)
        have n2 : F 4 ≠ 2 := fun q => by
          have u := t4.2.2.2
          rw [q, e2] at u
          exact absurd u (by decide)
        have n3 : F 4 ≠ 3 := fun q => by
          have u := t4.2.2.2
          rw [q, e3] at u
          exact absurd u (by decide)
        have n6 : F 4 ≠ 6 := fun q => by
          have u := t4.2.2.2
          rw [q, e6] at u
          exact absurd u (by decide)
        have n7 : F 4 ≠ 7 := fun q => by
          have u := t4.2.2.2
          rw [q, e7] at u
          exact absurd u (by decide)
        have e4 : F 4 = 5 := by omega
        have e5 : F 5 = 4 := by have u := t4.2.2.2; rw [e4] at u; exact u
        exact pr_l4 44 e0 e1 e2 e3 e4 e5 e6 e7 rfl (by decide)
  · have e4 : F 4 = 0 := by have u := t0.2.2.2; rw [e0] at u; exact u
    have n0 : F 1 ≠ 0 := fun q => by
      have u := t1.2.2.2
      rw [q, e0] at u
      exact absurd u (by decide)
    have n4 : F 1 ≠ 4 := fun q => by
      have u := t1.2.2.2
      rw [q, e4] at u
      exact absurd u (by decide)
    have s : F 1 = 2 ∨ F 1 = 3 ∨ F 1 = 5 ∨ F 1 = 6 ∨ F 1 = 7 := by omega
    rcases s with e1 | e1 | e1 | e1 | e1
    · have e2 : F 2 = 1 := by have u := t1.2.2.2; rw [e1] at u; exact u
      have n0 : F 3 ≠ 0 := fun q => by
        have u := t3.2.2.2
        rw [q, e0] at u
        exact absurd u (by decide)
      have n1 : F 3 ≠ 1 := fun q => by
        have u := t3.2.2.2
        rw [q, e1] at u
        exact absurd u (by decide)
      have n2 : F 3 ≠ 2 := fun q => by
        have u := t3.2.2.2
        rw [q, e2] at u
        exact absurd u (by decide)
      have n4 : F 3 ≠ 4 := fun q => by
        have u := t3.2.2.2
        rw [q, e4] at u
        exact absurd u (by decide)
      have s : F 3 = 5 ∨ F 3 = 6 ∨ F 3 = 7 := by omega
      rcases s with e3 | e3 | e3
      · have e5 : F 5 = 3 := by have u := t3.2.2.2; rw [e3] at u; exact u
        have n0 : F 6 ≠ 0 := fun q => by
          have u := t6.2.2.2
          rw [q, e0] at u
          exact absurd u (by decide)
        have n1 : F 6 ≠ 1 := fun q => by
          have u := t6.2.2.2
          rw [q, e1] at u
          exact absurd u (by decide)
        have n2 : F 6 ≠ 2 := fun q => by
          have u := t6.2.2.2
          rw [q, e2] at u
          exact absurd u (by decide)
        have n3 : F 6 ≠ 3 := fun q => by
          have u := t6.2.2.2
          rw [q, e3] at u
          exact absurd u (by decide)
        have n4 : F 6 ≠ 4 := fun q => by
          have u := t6.2.2.2
          rw [q, e4] at u
          exact absurd u (by decide)
        have n5 : F 6 ≠ 5 := fun q => by
          have u := t6.2.2.2
          rw [q, e5] at u
          exact absurd u (by decide)
        have e6 : F 6 = 7 := by omega
        have e7 : F 7 = 6 := by have u := t6.2.2.2; rw [e6] at u; exact u
        exact pr_l4 45 e0 e1 e2 e3 e4 e5 e6 e7 rfl (by decide)
      · have e6 : F 6 = 3 := by have u := t3.2.2.2; rw [e3] at u; exact u
        have n0 : F 5 ≠ 0 := fun q => by
          have u := t5.2.2.2
          rw [q, e0] at u
          exact absurd u (by decide)
        have n1 : F 5 ≠ 1 := fun q => by
          have u := t5.2.2.2
          rw [q, e1] at u
          exact absurd u (by decide)
        have n2 : F 5 ≠ 2 := fun q => by
          have u := t5.2.2.2
          rw [q, e2] at u
          exact absurd u (by decide)
        have n3 : F 5 ≠ 3 := fun q => by
          have u := t5.2.2.2
          rw [q, e3] at u
          exact absurd u (by decide)
        have n4 : F 5 ≠ 4 := fun q => by
          have u := t5.2.2.2
          rw [q, e4] at u
          exact absurd u (by decide)
        have n6 : F 5 ≠ 6 := fun q => by
          have u := t5.2.2.2
          rw [q, e6] at u
          exact absurd u (by decide)
        have e5 : F 5 = 7 := by omega
        have e7 : F 7 = 5 := by have u := t5.2.2.2; rw [e5] at u; exact u
        exact pr_l4 46 e0 e1 e2 e3 e4 e5 e6 e7 rfl (by decide)
      · have e7 : F 7 = 3 := by have u := t3.2.2.2; rw [e3] at u; exact u
        have n0 : F 5 ≠ 0 := fun q => by
          have u := t5.2.2.2
          rw [q, e0] at u
          exact absurd u (by decide)
        have n1 : F 5 ≠ 1 := fun q => by
          have u := t5.2.2.2
          rw [q, e1] at u
          exact absurd u (by decide)
        have n2 : F 5 ≠ 2 := fun q => by
          have u := t5.2.2.2
          rw [q, e2] at u
          exact absurd u (by decide)
        have n3 : F 5 ≠ 3 := fun q => by
          have u := t5.2.2.2
          rw [q, e3] at u
          exact absurd u (by decide)
        have n4 : F 5 ≠ 4 := fun q => by
          have u := t5.2.2.2
          rw [q, e4] at u
          exact absurd u (by decide)
        have n7 : F 5 ≠ 7 := fun q => by
          have u := t5.2.2.2
          rw [q, e7] at u
          exact absurd u (by decide)
        have e5 : F 5 = 6 := by omega
        have e6 : F 6 = 5 := by have u := t5.2.2.2; rw [e5] at u; exact u
        exact pr_l4 47 e0 e1 e2 e3 e4 e5 e6 e7 rfl (by decide)
    · have e3 : F 3 = 1 := by have u := t1.2.2.2; rw [e1] at u; exact u
      have n0 : F 2 ≠ 0 := fun q => by
        have u := t2.2.2.2
        rw [q, e0] at u
        exact absurd u (by decide)
      have n1 : F 2 ≠ 1 := fun q => by
        have u := t2.2.2.2
        rw [q, e1] at u
        exact absurd u (by decide)
      have n3 : F 2 ≠ 3 := fun q => by
        have u := t2.2.2.2
        rw [q, e3] at u
        exact absurd u (by decide)
      have n4 : F 2 ≠ 4 := fun q => by
        have u := t2.2.2.2
        rw [q, e4] at u
        exact absurd u (by decide)
      have s : F 2 = 5 ∨ F 2 = 6 ∨ F 2 = 7 := by omega
      rcases s with e2 | e2 | e2
      · have e5 : F 5 = 2 := by have u := t2.2.2.2; rw [e2] at u; exact u
        have n0 : F 6 ≠ 0 := fun q => by
          have u := t6.2.2.2
          rw [q, e0] at u
          exact absurd u (by decide)
        have n1 : F 6 ≠ 1 := fun q => by
          have u := t6.2.2.2
          rw [q, e1] at u
          exact absurd u (by decide)
        have n2 : F 6 ≠ 2 := fun q => by
          have u := t6.2.2.2
          rw [q, e2] at u
          exact absurd u (by decide)
        have n3 : F 6 ≠ 3 := fun q => by
          have u := t6.2.2.2
          rw [q, e3] at u
          exact absurd u (by decide)
        have n4 : F 6 ≠ 4 := fun q => by
          have u := t6.2.2.2
          rw [q, e4] at u
          exact absurd u (by decide)
        have n5 : F 6 ≠ 5 := fun q => by
          have u := t6.2.2.2
          rw [q, e5] at u
          exact absurd u (by decide)
        have e6 : F 6 = 7 := by omega
        have e7 : F 7 = 6 := by have u := t6.2.2.2; rw [e6] at u; exact u
        exact pr_l4 48 e0 e1 e2 e3 e4 e5 e6 e7 rfl (by decide)
      · have e6 : F 6 = 2 := by have u := t2.2.2.2; rw [e2] at u; exact u
        have n0 : F 5 ≠ 0 := fun q => by
          have u := t5.2.2.2
          rw [q, e0] at u
          exact absurd u (by decide)
        have n1 : F 5 ≠ 1 := fun q => by
          have u := t5.2.2.2
          rw [q, e1] at u
          exact absurd u (by decide)
        have n2 : F 5 ≠ 2 := fun q => by
          have u := t5.2.2.2
          rw [q, e2] at u
          exact absurd u (by decide)
        have n3 : F 5 ≠ 3 := fun q => by
          have u := t5.2.2.2
          rw [q, e3] at u
          exact absurd u (by decide)
        have n4 : F 5 ≠ 4 := fun q => by
          have u := t5.2.2.2
          rw [q, e4] at u
          exact absurd u (by decide)
        have n6 : F 5 ≠ 6 := fun q => by
          have u := t5.2.2.2
          rw [q, e6] at u
          exact absurd u (by decide)
        have e5 : F 5 = 7 := by omega
        have e7 : F 7 = 5 := by have u := t5.2.2.2; rw [e5] at u; exact u
        exact pr_l4 49 e0 e1 e2 e3 e4 e5 e6 e7 rfl (by decide)
      · have e7 : F 7 = 2 := by have u := t2.2.2.2; rw [e2] at u; exact u
        have n0 : F 5 ≠ 0 := fun q => by
          have u := t5.2.2.2
          rw [q, e0] at u
          exact absurd u (by decide)
        have n1 : F 5 ≠ 1 := fun q => by
          have u := t5.2.2.2
          rw [q, e1] at u
          exact absurd u (by decide)
        have n2 : F 5 ≠ 2 := fun q => by
          have u := t5.2.2.2
          rw [q, e2] at u
          exact absurd u (by decide)
        have n3 : F 5 ≠ 3 := fun q => by
          have u := t5.2.2.2
          rw [q, e3] at u
          exact absurd u (by decide)
        have n4 : F 5 ≠ 4 := fun q => by
          have u := t5.2.2.2
          rw [q, e4] at u
          exact absurd u (by decide)
        have n7 : F 5 ≠ 7 := fun q => by
          have u := t5.2.2.2
          rw [q, e7] at u
          exact absurd u (by decide)
        have e5 : F 5 = 6 := by omega
        have e6 : F 6 = 5 := by have u := t5.2.2.2; rw [e5] at u; exact u
        exact pr_l4 50 e0 e1 e2 e3 e4 e5 e6 e7 rfl (by decide)
    · have e5 : F 5 = 1 := by have u := t1.2.2.2; rw [e1] at u; exact u
      have n0 : F 2 ≠ 0 := fun q => by
        have u := t2.2.2.2
        rw [q, e0] at u
        exact absurd u (by decide)
      have n1 : F 2 ≠ 1 := fun q => by
        have u := t2.2.2.2
        rw [q, e1] at u
        exact absurd u (by decide)
      have n4 : F 2 ≠ 4 := fun q => by
        have u := t2.2.2.2
        rw [q, e4] at u
        exact absurd u (by decide)
      have n5 : F 2 ≠ 5 := fun q => by
        have u := t2.2.2.2
        rw [q, e5] at u
        exact absurd u (by decide)
      have s : F 2 = 3 ∨ F 2 = 6 ∨ F 2 = 7 := by omega
      rcases s with e2 | e2 | e2
      · have e3 : F 3 = 2 := by have u := t2.2.2.2; rw [e2] at u; exact u
        have n0 : F 6 ≠ 0 := fun q => by
          have u := t6.2.2.2
          rw [q, e0] at u
          exact absurd u (by decide)
        have n1 : F 6 ≠ 1 := fun q => by
          have u := t6.2.2.2
          rw [q, e1] at u
          exact absurd u (by decide)
        have n2 : F 6 ≠ 2 := fun q => by
          have u := t6.2.2.2
          rw [q, e2] at u
          exact absurd u (by decide)
        have n3 : F 6 ≠ 3 := fun q => by
          have u := t6.2.2.2
          rw [q, e3] at u
          exact absurd u (by decide)
        have n4 : F 6 ≠ 4 := fun q => by
          have u := t6.2.2.2
          rw [q, e4] at u
          exact absurd u (by decide)
        have n5 : F 6 ≠ 5 := fun q => by
          have u := t6.2.2.2
          rw [q, e5] at u
          exact absurd u (by decide)
        have e6 : F 6 = 7 := by omega
        have e7 : F 7 = 6 := by have u := t6.2.2.2; rw [e6] at u; exact u
        exact pr_l4 51 e0 e1 e2 e3 e4 e5 e6 e7 rfl (by decide)
      · have e6 : F 6 = 2 := by have u := t2.2.2.2; rw [e2] at u; exact u
        have n0 : F 3 ≠ 0 := fun q => by
          have u := t3.2.2.2
          rw [q, e0] at u
          exact absurd u (by decide)
        have n1 : F 3 ≠ 1 := fun q => by
          have u := t3.2.2.2
          rw [q, e1] at u
          exact absurd u (by decide)
        have n2 : F 3 ≠ 2 := fun q => by
          have u := t3.2.2.2
          rw [q, e2] at u
          exact absurd u (by decide)
        have n4 : F 3 ≠ 4 := fun q => by
          have u := t3.2.2.2
          rw [q, e4] at u
          exact absurd u (by decide)
        have n5 : F 3 ≠ 5 := fun q => by
          have u := t3.2.2.2
          rw [q, e5] at u
          exact absurd u (by decide)
        have n6 : F 3 ≠ 6 := fun q => by
          have u := t3.2.2.2
          rw [q, e6] at u
          exact absurd u (by decide)
        have e3 : F 3 = 7 := by omega
        have e7 : F 7 = 3 := by have u := t3.2.2.2; rw [e3] at u; exact u
        exact pr_l4 52 e0 e1 e2 e3 e4 e5 e6 e7 rfl (by decide)
      · have e7 : F 7 = 2 := by have u := t2.2.2.2; rw [e2] at u; exact u
        have n0 : F 3 ≠ 0 := fun q => by
          have u := t3.2.2.2
          rw [q, e0] at u
          exact absurd u (by decide)
        have n1 : F 3 ≠ 1 := fun q => by
          have u := t3.2.2.2
          rw [q, e1] at u
          exact absurd u (by decide)
        have n2 : F 3 ≠ 2 := fun q => by
          have u := t3.2.2.2
          rw [q, e2] at u
          exact absurd u (by decide)
        have n4 : F 3 ≠ 4 := fun q => by
          have u := t3.2.2.2
          rw [q, e4] at u
          exact absurd u (by decide)
        have n5 : F 3 ≠ 5 := fun q => by
          have u := t3.2.2.2
          rw [q, e5] at u
          exact absurd u (by decide)
        have n7 : F 3 ≠ 7 := fun q => by
          have u := t3.2.2.2
          rw [q, e7] at u
          exact absurd u (by decide)
        have e3 : F 3 = 6 := by omega
        have e6 : F 6 = 3 := by have u := t3.2.2.2; rw [e3] at u; exact u
        exact pr_l4 53 e0 e1 e2 e3 e4 e5 e6 e7 rfl (by decide)
    · have e6 : F 6 = 1 := by have u := t1.2.2.2; rw [e1] at u; exact u
      have n0 : F 2 ≠ 0 := fun q => by
        have u := t2.2.2.2
        rw [q, e0] at u
        exact absurd u (by decide)
      have n1 : F 2 ≠ 1 := fun q => by
        have u := t2.2.2.2
        rw [q, e1] at u
        exact absurd u (by decide)
      have n4 : F 2 ≠ 4 := fun q => by
        have u := t2.2.2.2
        rw [q, e4] at u
        exact absurd u (by decide)
      have n6 : F 2 ≠ 6 := fun q => by
        have u := t2.2.2.2
        rw [q, e6] at u
        exact absurd u (by decide)
      have s : F 2 = 3 ∨ F 2 = 5 ∨ F 2 = 7 := by omega
      rcases s with e2 | e2 | e2
      · have e3 : F 3 = 2 := by have u := t2.2.2.2; rw [e2] at u; exact u
        have n0 : F 5 ≠ 0 := fun q => by
          have u := t5.2.2.2
          rw [q, e0] at u
          exact absurd u (by decide)
        have n1 : F 5 ≠ 1 := fun q => by
          have u := t5.2.2.2
          rw [q, e1] at u
          exact absurd u (by decide)
        have n2 : F 5 ≠ 2 := fun q => by
          have u := t5.2.2.2
          rw [q, e2] at u
          exact absurd u (by decide)
        have n3 : F 5 ≠ 3 := fun q => by
          have u := t5.2.2.2
          rw [q, e3] at u
          exact absurd u (by decide)
        have n4 : F 5 ≠ 4 := fun q => by
          have u := t5.2.2.2
          rw [q, e4] at u
          exact absurd u (by decide)
        have n6 : F 5 ≠ 6 := fun q => by
          have u := t5.2.2.2
          rw [q, e6] at u
          exact absurd u (by decide)
        have e5 : F 5 = 7 := by omega
        have e7 : F 7 = 5 := by have u := t5.2.2.2; rw [e5] at u; exact u
        exact pr_l4 54 e0 e1 e2 e3 e4 e5 e6 e7 rfl (by decide)
      · have e5 : F 5 = 2 := by have u := t2.2.2.2; rw [e2] at u; exact u
        have n0 : F 3 ≠ 0 := fun q => by
          have u := t3.2.2.2
          rw [q, e0] at u
          exact absurd u (by decide)
        have n1 : F 3 ≠ 1 := fun q => by
          have u := t3.2.2.2
          rw [q, e1] at u
          exact absurd u (by decide)
        have n2 : F 3 ≠ 2 := fun q => by
          have u := t3.2.2.2
          rw [q, e2] at u
          exact absurd u (by decide)
        have n4 : F 3 ≠ 4 := fun q => by
          have u := t3.2.2.2
          rw [q, e4] at u
          exact absurd u (by decide)
        have n5 : F 3 ≠ 5 := fun q => by
          have u := t3.2.2.2
          rw [q, e5] at u
          exact absurd u (by decide)
        have n6 : F 3 ≠ 6 := fun q => by
          have u := t3.2.2.2
          rw [q, e6] at u
          exact absurd u (by decide)
        have e3 : F 3 = 7 := by omega
        have e7 : F 7 = 3 := by have u := t3.2.2.2; rw [e3] at u; exact u
        exact pr_l4 55 e0 e1 e2 e3 e4 e5 e6 e7 rfl (by decide)
      · have e7 : F 7 = 2 := by have u := t2.2.2.2; rw [e2] at u; exact u
        have n0 : F 3 ≠ 0 := fun q => by
          have u := t3.2.2.2
          rw [q, e0] at u
          exact absurd u (by decide)
        have n1 : F 3 ≠ 1 := fun q => by
          have u := t3.2.2.2
          rw [q, e1] at u
          exact absurd u (by decide)
        have n2 : F 3 ≠ 2 := fun q => by
          have u := t3.2.2.2
          rw [q, e2] at u
          exact absurd u (by decide)
        have n4 : F 3 ≠ 4 := fun q => by
          have u := t3.2.2.2
          rw [q, e4] at u
          exact absurd u (by decide)
        have n6 : F 3 ≠ 6 := fun q => by
          have u := t3.2.2.2
          rw [q, e6] at u
          exact absurd u (by decide)
        have n7 : F 3 ≠ 7 := fun q => by
          have u := t3.2.2.2
          rw [q, e7] at u
          exact absurd u (by decide)
        have e3 : F 3 = 5 := by omega
        have e5 : F 5 = 3 := by have u := t3.2.2.2; rw [e3] at u; exact u
        exact pr_l4 56 e0 e1 e2 e3 e4 e5 e6 e7 rfl (by decide)
    · have e7 : F 7 = 1 := by have u := t1.2.2.2; rw [e1] at u; exact u
      have n0 : F 2 ≠ 0 := fun q => by
        have u := t2.2.2.2
        rw [q, e0] at u
        exact absurd u (by decide)
      have n1 : F 2 ≠ 1 := fun q => by
        have u := t2.2.2.2
        rw [q, e1] at u
        exact absurd u (by decide)
      have n4 : F 2 ≠ 4 := fun q => by
        have u := t2.2.2.2
        rw [q, e4] at u
        exact absurd u (by decide)
      have n7 : F 2 ≠ 7 := fun q => by
        have u := t2.2.2.2
        rw [q, e7] at u
        exact absurd u (by decide)
      have s : F 2 = 3 ∨ F 2 = 5 ∨ F 2 = 6 := by omega
      rcases s with e2 | e2 | e2
      · have e3 : F 3 = 2 := by have u := t2.2.2.2; rw [e2] at u; exact u
        have n0 : F 5 ≠ 0 := fun q => by
          have u := t5.2.2.2
          rw [q, e0] at u
          exact absurd u (by decide)
        have n1 : F 5 ≠ 1 := fun q => by
          have u := t5.2.2.2
          rw [q, e1] at u
          exact absurd u (by decide)
        have n2 : F 5 ≠ 2 := fun q => by
          have u := t5.2.2.2
          rw [q, e2] at u
          exact absurd u (by decide)
        have n3 : F 5 ≠ 3 := fun q => by
          have u := t5.2.2.2
          rw [q, e3] at u
          exact absurd u (by decide)
        have n4 : F 5 ≠ 4 := fun q => by
          have u := t5.2.2.2
          rw [q, e4] at u
          exact absurd u (by decide)
        have n7 : F 5 ≠ 7 := fun q => by
          have u := t5.2.2.2
          rw [q, e7] at u
          exact absurd u (by decide)
        have e5 : F 5 = 6 := by omega
        have e6 : F 6 = 5 := by have u := t5.2.2.2; rw [e5] at u; exact u
        exact pr_l4 57 e0 e1 e2 e3 e4 e5 e6 e7 rfl (by decide)
      · have e5 : F 5 = 2 := by have u := t2.2.2.2; rw [e2] at u; exact u
        have n0 : F 3 ≠ 0 := fun q => by
          have u := t3.2.2.2
          rw [q, e0] at u
          exact absurd u (by decide)
        have n1 : F 3 ≠ 1 := fun q => by
          have u := t3.2.2.2
          rw [q, e1] at u
          exact absurd u (by decide)
        have n2 : F 3 ≠ 2 := fun q => by
          have u := t3.2.2.2
          rw [q, e2] at u
          exact absurd u (by decide)
        have n4 : F 3 ≠ 4 := fun q => by
          have u := t3.2.2.2
          rw [q, e4] at u
          exact absurd u (by decide)
        have n5 : F 3 ≠ 5 := fun q => by
          have u := t3.2.2.2
          rw [q, e5] at u
          exact absurd u (by decide)
        have n7 : F 3 ≠ 7 := fun q => by
          have u := t3.2.2.2
          rw [q, e7] at u
          exact absurd u (by decide)
        have e3 : F 3 = 6 := by omega
        have e6 : F 6 = 3 := by have u := t3.2.2.2; rw [e3] at u; exact u
        exact pr_l4 58 e0 e1 e2 e3 e4 e5 e6 e7 rfl (by decide)
      · have e6 : F 6 = 2 := by have u := t2.2.2.2; rw [e2] at u; exact u
        have n0 : F 3 ≠ 0 := fun q => by
          have u := t3.2.2.2
          rw [q, e0] at u
          exact absurd u (by decide)
        have n1 : F 3 ≠ 1 := fun q => by
          have u := t3.2.2.2
          rw [q, e1] at u
          exact absurd u (by decide)
        have n2 : F 3 ≠ 2 := fun q => by
          have u := t3.2.2.2
          rw [q, e2] at u
          exact absurd u (by decide)
        have n4 : F 3 ≠ 4 := fun q => by
          have u := t3.2.2.2
          rw [q, e4] at u
          exact absurd u (by decide)
        have n6 : F 3 ≠ 6 := fun q => by
          have u := t3.2.2.2
          rw [q, e6] at u
          exact absurd u (by decide)
        have n7 : F 3 ≠ 7 := fun q => by
          have u := t3.2.2.2
          rw [q, e7] at u
          exact absurd u (by decide)
        have e3 : F 3 = 5 := by omega
        have e5 : F 5 = 3 := by have u := t3.2.2.2; rw [e3] at u; exact u
        exact pr_l4 59 e0 e1 e2 e3 e4 e5 e6 e7 rfl (by decide)
  · have e5 : F 5 = 0 := by have u := t0.2.2.2; rw [e0] at u; exact u
    have n0 : F 1 ≠ 0 := fun q => by
      have u := t1.2.2.2
      rw [q, e0] at u
      exact absurd u (by decide)
    have n5 : F 1 ≠ 5 := fun q => by
      have u := t1.2.2.2
      rw [q, e5] at u
      exact absurd u (by decide)
    have s : F 1 = 2 ∨ F 1 = 3 ∨ F 1 = 4 ∨ F 1 = 6 ∨ F 1 = 7 := by omega
    rcases s with e1 | e1 | e1 | e1 | e1
    · have e2 : F 2 = 1 := by have u := t1.2.2.2; rw [e1] at u; exact u
      have n0 : F 3 ≠ 0 := fun q => by
        have u := t3.2.2.2
        rw [q, e0] at u
        exact absurd u (by decide)
      have n1 : F 3 ≠ 1 := fun q => by
        have u := t3.2.2.2
        rw [q, e1] at u
        exact absurd u (by decide)
      have n2 : F 3 ≠ 2 := fun q => by
        have u := t3.2.2.2
        rw [q, e2] at u
        exact absurd u (by decide)
      have n5 : F 3 ≠ 5 := fun q => by
        have u := t3.2.2.2
        rw [q, e5] at u
        exact absurd u (by decide)
      have s : F 3 = 4 ∨ F 3 = 6 ∨ F 3 = 7 := by omega
      rcases s with e3 | e3 | e3
      · have e4 : F 4 = 3 := by have u := t3.2.2.2; rw [e3] at u; exact u
        have n0 : F 6 ≠ 0 := fun q => by
          have u := t6.2.2.2
          rw [q, e0] at u
          exact absurd u (by decide)
        have n1 : F 6 ≠ 1 := fun q => by
          have u := t6.2.2.2
          rw [q, e1] at u
          exact absurd u (by decide)
        have n2 : F 6 ≠ 2 := fun q => by
          have u := t6.2.2.2
          rw [q, e2] at u
          exact absurd u (by decide)
        have n3 : F 6 ≠ 3 := fun q => by
          have u := t6.2.2.2
          rw [q, e3] at u
          exact absurd u (by decide)
        have n4 : F 6 ≠ 4 := fun q => by
          have u := t6.2.2.2
          rw [q, e4] at u
          exact absurd u (by decide)
        have n5 : F 6 ≠ 5 := fun q => by
          have u := t6.2.2.2
          rw [q, e5] at u
          exact absurd u (by decide)
        have e6 : F 6 = 7 := by omega
        have e7 : F 7 = 6 := by have u := t6.2.2.2; rw [e6] at u; exact u
        exact pr_l4 60 e0 e1 e2 e3 e4 e5 e6 e7 rfl (by decide)
      · have e6 : F 6 = 3 := by have u := t3.2.2.2; rw [e3] at u; exact u
        have n0 : F 4 ≠ 0 := fun q => by
          have u := t4.2.2.2
          rw [q, e0] at u
          exact absurd u (by decide)
        have n1 : F 4 ≠ 1 := fun q => by
          have u := t4.2.2.2
          rw [q, e1] at u
          exact absurd u (by decide)
        have n2 : F 4 ≠ 2 := fun q => by
          have u := t4.2.2.2
          rw [q, e2] at u
          exact absurd u (by decide)
        have n3 : F 4 ≠ 3 := fun q => by
          have u := t4.2.2.2
          rw [q, e3] at u
          exact absurd u (by decide)
        have n5 : F 4 ≠ 5 := fun q => by
          have u := t4.2.2.2
          rw [q, e5] at u
          exact absurd u (by decide)
        have n6 : F 4 ≠ 6 := fun q => by
          have u := t4.2.2.2
          rw [q, e6] at u
          exact absurd u (by decide)
        have e4 : F 4 = 7 := by omega
        have e7 : F 7 = 4 := by have u := t4.2.2.2; rw [e4] at u; exact u
        exact pr_l4 61 e0 e1 e2 e3 e4 e5 e6 e7 rfl (by decide)
      · have e7 : F 7 = 3 := by have u := t3.2.2.2; rw [e3] at u; exact u
        have n0 : F 4 ≠ 0 := fun q => by
          have u := t4.2.2.2
          rw [q, e0] at u
          exact absurd u (by decide)
        have n1 : F 4 ≠ 1 := fun q => by
          have u := t4.2.2.2
          rw [q, e1] at u
          exact absurd u (by decide)
        have n2 : F 4 ≠ 2 := fun q => by
          have u := t4.2.2.2
          rw [q, e2] at u
          exact absurd u (by decide)
        have n3 : F 4 ≠ 3 := fun q => by
          have u := t4.2.2.2
          rw [q, e3] at u
          exact absurd u (by decide)
        have n5 : F 4 ≠ 5 := fun q => by
          have u := t4.2.2.2
          rw [q, e5] at u
          exact absurd u (by decide)
        have n7 : F 4 ≠ 7 := fun q => by
          have u := t4.2.2.2
          rw [q, e7] at u
          exact absurd u (by decide)
        have e4 : F 4 = 6 := by omega
        have e6 : F 6 = 4 := by have u := t4.2.2.2; rw [e4] at u; exact u
        exact pr_l4 62 e0 e1 e2 e3 e4 e5 e6 e7 rfl (by decide)
    · have e3 : F 3 = 1 := by have u := t1.2.2.2; rw [e1] at u; exact u
      have n0 : F 2 ≠ 0 := fun q => by
        have u := t2.2.2.2
        rw [q, e0] at u
        exact absurd u (by decide)
      have n1 : F 2 ≠ 1 := fun q => by
        have u := t2.2.2.2
        rw [q, e1] at u
        exact absurd u (by decide)
      have n3 : F 2 ≠ 3 := fun q => by
        have u := t2.2.2.2
        rw [q, e3] at u
        exact absurd u (by decide)
      have n5 : F 2 ≠ 5 := fun q => by
        have u := t2.2.2.2
        rw [q, e5] at u
        exact absurd u (by decide)
      have s : F 2 = 4 ∨ F 2 = 6 ∨ F 2 = 7 := by omega
      rcases s with e2 | e2 | e2
      · have e4 : F 4 = 2 := by have u := t2.2.2.2; rw [e2] at u; exact u
        have n0 : F 6 ≠ 0 := fun q => by
          have u := t6.2.2.2
          rw [q, e0] at u
          exact absurd u (by decide)
        have n1 : F 6 ≠ 1 := fun q => by
          have u := t6.2.2.2
          rw [q, e1] at u
          exact absurd u (by decide)
        have n2 : F 6 ≠ 2 := fun q => by
          have u := t6.2.2.2
          rw [q, e2] at u
          exact absurd u (by decide)
        have n3 : F 6 ≠ 3 := fun q => by
          have u := t6.2.2.2
          rw [q, e3] at u
          exact absurd u (by decide)
        have n4 : F 6 ≠ 4 := fun q => by
          have u := t6.2.2.2
          rw [q, e4] at u
          exact absurd u (by decide)
        have n5 : F 6 ≠ 5 := fun q => by
          have u := t6.2.2.2
          rw [q, e5] at u
          exact absurd u (by decide)
        have e6 : F 6 = 7 := by omega
        have e7 : F 7 = 6 := by have u := t6.2.2.2; rw [e6] at u; exact u
        exact pr_l4 63 e0 e1 e2 e3 e4 e5 e6 e7 rfl (by decide)
      · have e6 : F 6 = 2 := by have u := t2.2.2.2; rw [e2] at u; exact u
        have n0 : F 4 ≠ 0 := fun q => by
          have u := t4.2.2.2
          rw [q, e0] at u
          exact absurd u (by decide)
        have n1 : F 4 ≠ 1 := fun q => by
          have u := t4.2.2.2
          rw [q, e1] at u
          exact absurd u (by decide)
        have n2 : F 4 ≠ 2 := fun q => by
          have u := t4.2.2.2
          rw [q, e2] at u
          exact absurd u (by decide)
        have n3 : F 4 ≠ 3 := fun q => by
          have u := t4.2.2.2
          rw [q, e3] at u
          exact absurd u (by decide)
        have n5 : F 4 ≠ 5 := fun q => by
          have u := t4.2.2.2
          rw [q, e5] at u
          exact absurd u (by decide)
        have n6 : F 4 ≠ 6 := fun q => by
          have u := t4.2.2.2
          rw [q, e6] at u
          exact absurd u (by decide)
        have e4 : F 4 = 7 := by omega
        have e7 : F 7 = 4 := by have u := t4.2.2.2; rw [e4] at u; exact u
        exact pr_l4 64 e0 e1 e2 e3 e4 e5 e6 e7 rfl (by decide)
      · have e7 : F 7 = 2 := by have u := t2.2.2.2; rw [e2] at u; exact u
        have n0 : F 4 ≠ 0 := fun q => by
          have u := t4.2.2.2
          rw [q, e0] at u
          exact absurd u (by decide)
        have n1 : F 4 ≠ 1 := fun q => by
          have u := t4.2.2.2
          rw [q, e1] at u
          exact absurd u (by decide)
        have n2 : F 4 ≠ 2 := fun q => by
          have u := t4.2.2.2
          rw [q, e2] at u
          exact absurd u (by decide)
        have n3 : F 4 ≠ 3 := fun q => by
          have u := t4.2.2.2
          rw [q, e3] at u
          exact absurd u (by decide)
        have n5 : F 4 ≠ 5 := fun q => by
          have u := t4.2.2.2
          rw [q, e5] at u
          exact absurd u (by decide)
        have n7 : F 4 ≠ 7 := fun q => by
          have u := t4.2.2.2
          rw [q, e7] at u
          exact absurd u (by decide)
        have e4 : F 4 = 6 := by omega
        have e6 : F 6 = 4 := by have u := t4.2.2.2; rw [e4] at u; exact u
        exact pr_l4 65 e0 e1 e2 e3 e4 e5 e6 e7 rfl (by decide)
    · have e4 : F 4 = 1 := by have u := t1.2.2.2; rw [e1] at u; exact u
      have n0 : F 2 ≠ 0 := fun q => by
        have u := t2.2.2.2
        rw [q, e0] at u
        exact absurd u (by decide)
      have n1 : F 2 ≠ 1 := fun q => by
        have u := t2.2.2.2
        rw [q, e1] at u
        exact absurd u (by decide)
      have n4 : F 2 ≠ 4 := fun q => by
        have u := t2.2.2.2
        rw [q, e4] at u
        exact absurd u (by decide)
      have n5 : F 2 ≠ 5 := fun q => by
        have u := t2.2.2.2
        rw [q, e5] at u
        exact absurd u (by decide)
      have s : F 2 = 3 ∨ F 2 = 6 ∨ F 2 = 7 := by omega
      rcases s with e2 | e2 | e2
      · have e3 : F 3 = 2 := by have u := t2.2.2.2; rw [e2] at u; exact u
        have n0 : F 6 ≠ 0 := fun q => by
          have u := t6.2.2.2
          rw [q, e0] at u
          exact absurd u (by decide)
        have n1 : F 6 ≠ 1 := fun q => by
          have u := t6.2.2.2
          rw [q, e1] at u
          exact absurd u (by decide)
        have n2 : F 6 ≠ 2 := fun q => by
          have u := t6.2.2.2
          rw [q, e2] at u
          exact absurd u (by decide)
        have n3 : F 6 ≠ 3 := fun q => by
          have u := t6.2.2.2
          rw [q, e3] at u
          exact absurd u (by decide)
        have n4 : F 6 ≠ 4 := fun q => by
          have u := t6.2.2.2
          rw [q, e4] at u
          exact absurd u (by decide)
        have n5 : F 6 ≠ 5 := fun q => by
          have u := t6.2.2.2
          rw [q, e5] at u
          exact absurd u (by decide)
        have e6 : F 6 = 7 := by omega
        have e7 : F 7 = 6 := by have u := t6.2.2.2; rw [e6] at u; exact u
        exact pr_l4 66 e0 e1 e2 e3 e4 e5 e6 e7 rfl (by decide)
      · have e6 : F 6 = 2 := by have u := t2.2.2.2; rw [e2] at u; exact u
        have n0 : F 3 ≠ 0 := fun q => by
          have u := t3.2.2.2
          rw [q, e0] at u
          exact absurd u (by decide)
        have n1 : F 3 ≠ 1 := fun q => by
          have u := t3.2.2.2
          rw [q, e1] at u
          exact absurd u (by decide)
        have n2 : F 3 ≠ 2 := fun q => by
          have u := t3.2.2.2
          rw [q, e2] at u
          exact absurd u (by decide)
        have n4 : F 3 ≠ 4 := fun q => by
          have u := t3.2.2.2
          rw [q, e4] at u
          exact absurd u (by decide)
        have n5 : F 3 ≠ 5 := fun q => by
          have u := t3.2.2.2
          rw [q, e5] at u
          exact absurd u (by decide)
        have n6 : F 3 ≠ 6 := fun q => by
          have u := t3.2.2.2
          rw [q, e6] at u
          exact absurd u (by decide)
        have e3 : F 3 = 7 := by omega
        have e7 : F 7 = 3 := by have u := t3.2.2.2; rw [e3] at u; exact u
        exact pr_l4 67 e0 e1 e2 e3 e4 e5 e6 e7 rfl (by decide)
      · have e7 : F 7 = 2 := by have u := t2.2.2.2; rw [e2] at u; exact u
        have n0 : F 3 ≠ 0 := fun q => by
          have u := t3.2.2.2
          rw [q, e0] at u
          exact absurd u (by decide)
        have n1 : F 3 ≠ 1 := fun q => by
          have u := t3.2.2.2
          rw [q, e1] at u
          exact absurd u (by decide)
        have n2 : F 3 ≠ 2 := fun q => by
          have u := t3.2.2.2
          rw [q, e2] at u
          exact absurd u (by decide)
        have n4 : F 3 ≠ 4 := fun q => by
          have u := t3.2.2.2
          rw [q, e4] at u
          exact absurd u (by decide)
        have n5 : F 3 ≠ 5 := fun q => by
          have u := t3.2.2.2
          rw [q, e5] at u
          exact absurd u (by decide)
        have n7 : F 3 ≠ 7 := fun q => by
          have u := t3.2.2.2
          rw [q, e7] at u
          exact absurd u (by decide)
        have e3 : F 3 = 6 := by omega
        have e6 : F 6 = 3 := by have u := t3.2.2.2; rw [e3] at u; exact u
        exact pr_l4 68 e0 e1 e2 e3 e4 e5 e6 e7 rfl (by decide)
    · have e6 : F 6 = 1 := by have u := t1.2.2.2; rw [e1] at u; exact u
      have n0 : F 2 ≠ 0 := fun q => by
        have u := t2.2.2.2
        rw [q, e0] at u
        exact absurd u (by decide)
      have n1 : F 2 ≠ 1 := fun q => by
        have u := t2.2.2.2
        rw [q, e1] at u
        exact absurd u (by decide)
      have n5 : F 2 ≠ 5 := fun q => by
        have u := t2.2.2.2
        rw [q, e5] at u
        exact absurd u (by decide)
      have n6 : F 2 ≠ 6 := fun q => by
        have u := t2.2.2.2
        rw [q, e6] at u
        exact absurd u (by decide)
      have s : F 2 = 3 ∨ F 2 = 4 ∨ F 2 = 7 := by omega
      rcases s with e2 | e2 | e2
      · have e3 : F 3 = 2 := by have u := t2.2.2.2; rw [e2] at u; exact u
        have n0 : F 4 ≠ 0 := fun q => by
          have u := t4.2.2.2
          rw [q, e0] at u
          exact absurd u (by decide)
        have n1 : F 4 ≠ 1 := fun q => by
          have u := t4.2.2.2
          rw [q, e1] at u
          exact absurd u (by decide)
        have n2 : F 4 ≠ 2 := fun q => by
          have u := t4.2.2.2
          rw [q, e2] at u
          exact absurd u (by decide)
        have n3 : F 4 ≠ 3 := fun q => by
          have u := t4.2.2.2
          rw [q, e3] at u
          exact absurd u (by decide)
        have n5 : F 4 ≠ 5 := fun q => by
          have u := t4.2.2.2
          rw [q, e5] at u
          exact absurd u (by decide)
        have n6 : F 4 ≠ 6 := fun q => by
          have u := t4.2.2.2
          rw [q, e6] at u
          exact absurd u (by decide)
        have e4 : F 4 = 7 := by omega
        have e7 : F 7 = 4 := by have u := t4.2.2.2; rw [e4] at u; exact u
        exact pr_l4 69 e0 e1 e2 e3 e4 e5 e6 e7 rfl (by decide)
      · have e4 : F 4 = 2 := by have u := t2.2.2.2; rw [e2] at u; exact u
        have n0 : F 3 ≠ 0 := fun q => by
          have u := t3.2.2.2
          rw [q, e0] at u
          exact absurd u (by decide)
        have n1 : F 3 ≠ 1 := fun q => by
          have u := t3.2.2.2
          rw [q, e1] at u
          exact absurd u (by decide)
        have n2 : F 3 ≠ 2 := fun q => by
          have u := t3.2.2.2
          rw [q, e2] at u
          exact absurd u (by decide)
        have n4 : F 3 ≠ 4 := fun q => by
          have u := t3.2.2.2
          rw [q, e4] at u
          exact absurd u (by decide)
        have n5 : F 3 ≠ 5 := fun q => by
          have u := t3.2.2.2
          rw [q, e5] at u
          exact absurd u (by decide)
        have n6 : F 3 ≠ 6 := fun q => by
          have u := t3.2.2.2
          rw [q, e6] at u
          exact absurd u (by decide)
        have e3 : F 3 = 7 := by omega
        have e7 : F 7 = 3 := by have u := t3.2.2.2; rw [e3] at u; exact u
        exact pr_l4 70 e0 e1 e2 e3 e4 e5 e6 e7 rfl (by decide)
      · have e7 : F 7 = 2 := by have u := t2.2.2.2; rw [e2] at u; exact u
        have n0 : F 3 ≠ 0 := fun q => by
          have u := t3.2.2.2
          rw [q, e0] at u
          exact absurd u (by decide)
        have n1 : F 3 ≠ 1 := fun q => by
          have u := t3.2.2.2
          rw [q, e1] at u
          exact absurd u (by decide)
        have n2 : F 3 ≠ 2 := fun q => by
          have u := t3.2.2.2
          rw [q, e2] at u
          exact absurd u (by decide)
        have n5 : F 3 ≠ 5 := fun q => by
          have u := t3.2.2.2
          rw [q, e5] at u
          exact absurd u (by decide)
        have n6 : F 3 ≠ 6 := fun q => by
          have u := t3.2.2.2
          rw [q, e6] at u
          exact absurd u (by decide)
        have n7 : F 3 ≠ 7 := fun q => by
          have u := t3.2.2.2
          rw [q, e7] at u
          exact absurd u (by decide)
        have e3 : F 3 = 4 := by omega
        have e4 : F 4 = 3 := by have u := t3.2.2.2; rw [e3] at u; exact u
        exact pr_l4 71 e0 e1 e2 e3 e4 e5 e6 e7 rfl (by decide)
    · have e7 : F 7 = 1 := by have u := t1.2.2.2; rw [e1] at u; exact u
      have n0 : F 2 ≠ 0 := fun q => by
        have u := t2.2.2.2
        rw [q, e0] at u
        exact absurd u (by decide)
      have n1 : F 2 ≠ 1 := fun q => by
        have u := t2.2.2.2
        rw [q, e1] at u
        exact absurd u (by decide)
      have n5 : F 2 ≠ 5 := fun q => by
        have u := t2.2.2.2
        rw [q, e5] at u
        exact absurd u (by decide)
      have n7 : F 2 ≠ 7 := fun q => by
        have u := t2.2.2.2
        rw [q, e7] at u
        exact absurd u (by decide)
      have s : F 2 = 3 ∨ F 2 = 4 ∨ F 2 = 6 := by omega
      rcases s with e2 | e2 | e2
      · have e3 : F 3 = 2 := by have u := t2.2.2.2; rw [e2] at u; exact u
        have n0 : F 4 ≠ 0 := fun q => by
          have u := t4.2.2.2
          rw [q, e0] at u
          exact absurd u (by decide)
        have n1 : F 4 ≠ 1 := fun q => by
          have u := t4.2.2.2
          rw [q, e1] at u
          exact absurd u (by decide)
        have n2 : F 4 ≠ 2 := fun q => by
          have u := t4.2.2.2
          rw [q, e2] at u
          exact absurd u (by decide)
        have n3 : F 4 ≠ 3 := fun q => by
          have u := t4.2.2.2
          rw [q, e3] at u
          exact absurd u (by decide)
        have n5 : F 4 ≠ 5 := fun q => by
          have u := t4.2.2.2
          rw [q, e5] at u
          exact absurd u (by decide)
        have n7 : F 4 ≠ 7 := fun q => by
          have u := t4.2.2.2
          rw [q, e7] at u
          exact absurd u (by decide)
        have e4 : F 4 = 6 := by omega
        have e6 : F 6 = 4 := by have u := t4.2.2.2; rw [e4] at u; exact u
        exact pr_l4 72 e0 e1 e2 e3 e4 e5 e6 e7 rfl (by decide)
      · have e4 : F 4 = 2 := by have u := t2.2.2.2; rw [e2] at u; exact u
        have n0 : F 3 ≠ 0 := fun q => by
          have u := t3.2.2.2
          rw [q, e0] at u
          exact absurd u (by decide)
        have n1 : F 3 ≠ 1 := fun q => by
          have u := t3.2.2.2
          rw [q, e1] at u
          exact absurd u (by decide)
        have n2 : F 3 ≠ 2 := fun q => by
          have u := t3.2.2.2
          rw [q, e2] at u
          exact absurd u (by decide)
        have n4 : F 3 ≠ 4 := fun q => by
          have u := t3.2.2.2
          rw [q, e4] at u
          exact absurd u (by decide)
        have n5 : F 3 ≠ 5 := fun q => by
          have u := t3.2.2.2
          rw [q, e5] at u
          exact absurd u (by decide)
        have n7 : F 3 ≠ 7 := fun q => by
          have u := t3.2.2.2
          rw [q, e7] at u
          exact absurd u (by decide)
        have e3 : F 3 = 6 := by omega
        have e6 : F 6 = 3 := by have u := t3.2.2.2; rw [e3] at u; exact u
        exact pr_l4 73 e0 e1 e2 e3 e4 e5 e6 e7 rfl (by decide)
      · have e6 : F 6 = 2 := by have u := t2.2.2.2; rw [e2] at u; exact u
        have n0 : F 3 ≠ 0 := fun q => by
          have u := t3.2.2.2
          rw [q, e0] at u
          exact absurd u (by decide)
        have n1 : F 3 ≠ 1 := fun q => by
          have u := t3.2.2.2
          rw [q, e1] at u
          exact absurd u (by decide)
        have n2 : F 3 ≠ 2 := fun q => by
          have u := t3.2.2.2
          rw [q, e2] at u
          exact absurd u (by decide)
        have n5 : F 3 ≠ 5 := fun q => by
          have u := t3.2.2.2
          rw [q, e5] at u
          exact absurd u (by decide)
        have n6 : F 3 ≠ 6 := fun q => by
          have u := t3.2.2.2
          rw [q, e6] at u
          exact absurd u (by decide)
        have n7 : F 3 ≠ 7 := fun q => by
          have u := t3.2.2.2
          rw [q, e7] at u
          exact absurd u (by decide)
        have e3 : F 3 = 4 := by omega
        have e4 : F 4 = 3 := by have u := t3.2.2.2; rw [e3] at u; exact u
        exact pr_l4 74 e0 e1 e2 e3 e4 e5 e6 e7 rfl (by decide)
  · have e6 : F 6 = 0 := by have u := t0.2.2.2; rw [e0] at u; exact u
    have n0 : F 1 ≠ 0 := fun q => by
      have u := t1.2.2.2
      rw [q, e0] at u
      exact absurd u (by decide)
    have n6 : F 1 ≠ 6 := fun q => by
      have u := t1.2.2.2
      rw [q, e6] at u
      exact absurd u (by decide)
    have s : F 1 = 2 ∨ F 1 = 3 ∨ F 1 = 4 ∨ F 1 = 5 ∨ F 1 = 7 := by omega
    rcases s with e1 | e1 | e1 | e1 | e1
    · have e2 : F 2 = 1 := by have u := t1.2.2.2; rw [e1] at u; exact u
      have n0 : F 3 ≠ 0 := fun q => by
        have u := t3.2.2.2
        rw [q, e0] at u
        exact absurd u (by decide)
      have n1 : F 3 ≠ 1 := fun q => by
        have u := t3.2.2.2
        rw [q, e1] at u
        exact absurd u (by decide)
      have n2 : F 3 ≠ 2 := fun q => by
        have u := t3.2.2.2
        rw [q, e2] at u
        exact absurd u (by decide)
      have n6 : F 3 ≠ 6 := fun q => by
        have u := t3.2.2.2
        rw [q, e6] at u
        exact absurd u (by decide)
      have s : F 3 = 4 ∨ F 3 = 5 ∨ F 3 = 7 := by omega
      rcases s with e3 | e3 | e3
      · have e4 : F 4 = 3 := by have u := t3.2.2.2; rw [e3] at u; exact u
        have n0 : F 5 ≠ 0 := fun q => by
          have u := t5.2.2.2
          rw [q, e0] at u
          exact absurd u (by decide)
        have n1 : F 5 ≠ 1 := fun q => by
          have u := t5.2.2.2
          rw [q, e1] at u
          exact absurd u (by decide)
        have n2 : F 5 ≠ 2 := fun q => by
          have u := t5.2.2.2
          rw [q, e2] at u
          exact absurd u (by decide)
        have n3 : F 5 ≠ 3 := fun q => by
          have u := t5.2.2.2
          rw [q, e3] at u
          exact absurd u (by decide)
        have n4 : F 5 ≠ 4 := fun q => by
          have u := t5.2.2.2
          rw [q, e4] at u
          exact absurd u (by decide)
        have n6 : F 5 ≠ 6 := fun q => by
          have u := t5.2.2.2
          rw [q, e6] at u
          exact absurd u (by decide)
        have e5 : F 5 = 7 := by omega
        have e7 : F 7 = 5 := by have u := t5.2.2.2; rw [e5] at u; exact u
        exact pr_l4 75 e0 e1 e2 e3 e4 e5 e6 e7 rfl (by decide)
      · have e5 : F 5 = 3 := by have u := t3.2.2.2; rw [e3] at u; exact u
        have n0 : F 4 ≠ 0 := fun q => by
          have u := t4.2.2.2
          rw [q, e0] at u
          exact absurd u (by decide)
        have n1 : F 4 ≠ 1 := fun q => by
          have u := t4.2.2.2
          rw [q, e1] at u
          exact absurd u (by decide)
        have n2 : F 4 ≠ 2 := fun q => by
          have u := t4.2.2.2
          rw [q, e2] at u
          exact absurd u (by decide)
        have n3 : F 4 ≠ 3 := fun q => by
          have u := t4.2.2.2
          rw [q, e3] at u
          exact absurd u (by decide)
        have n5 : F 4 ≠ 5 := fun q => by
          have u := t4.2.2.2
          rw [q, e5] at u
          exact absurd u (by decide)
        have n6 : F 4 ≠ 6 := fun q => by
          have u := t4.2.2.2
          rw [q, e6] at u
          exact absurd u (by decide)
        have e4 : F 4 = 7 := by omega
        have e7 : F 7 = 4 := by have u := t4.2.2.2; rw [e4] at u; exact u
        exact pr_l4 76 e0 e1 e2 e3 e4 e5 e6 e7 rfl (by decide)
      · have e7 : F 7 = 3 := by have u := t3.2.2.2; rw [e3] at u; exact u
        have n0 : F 4 ≠ 0 := fun q => by
          have u := t4.2.2.2
          rw [q, e0] at u
          exact absurd u (by decide)
        have n1 : F 4 ≠ 1 := fun q => by
          have u := t4.2.2.2
          rw [q, e1] at u
          exact absurd u (by decide)
        have n2 : F 4 ≠ 2 := fun q => by
          have u := t4.2.2.2
          rw [q, e2] at u
          exact absurd u (by decide)
        have n3 : F 4 ≠ 3 := fun q => by
          have u := t4.2.2.2
          rw [q, e3] at u
          exact absurd u (by decide)
        have n6 : F 4 ≠ 6 := fun q => by
          have u := t4.2.2.2
          rw [q, e6] at u
          exact absurd u (by decide)
        have n7 : F 4 ≠ 7 := fun q => by
          have u := t4.2.2.2
          rw [q, e7] at u
          exact absurd u (by decide)
        have e4 : F 4 = 5 := by omega
        have e5 : F 5 = 4 := by have u := t4.2.2.2; rw [e4] at u; exact u
        exact pr_l4 77 e0 e1 e2 e3 e4 e5 e6 e7 rfl (by decide)
    · have e3 : F 3 = 1 := by have u := t1.2.2.2; rw [e1] at u; exact u
      have n0 : F 2 ≠ 0 := fun q => by
        have u := t2.2.2.2
        rw [q, e0] at u
        exact absurd u (by decide)
      have n1 : F 2 ≠ 1 := fun q => by
        have u := t2.2.2.2
        rw [q, e1] at u
        exact absurd u (by decide)
      have n3 : F 2 ≠ 3 := fun q => by
        have u := t2.2.2.2
        rw [q, e3] at u
        exact absurd u (by decide)
      have n6 : F 2 ≠ 6 := fun q => by
        have u := t2.2.2.2
        rw [q, e6] at u
        exact absurd u (by decide)
      have s : F 2 = 4 ∨ F 2 = 5 ∨ F 2 = 7 := by omega
      rcases s with e2 | e2 | e2
      · have e4 : F 4 = 2 := by have u := t2.2.2.2; rw [e2] at u; exact u
        have n0 : F 5 ≠ 0 := fun q => by
          have u := t5.2.2.2
          rw [q, e0] at u
          exact absurd u (by decide)
        have n1 : F 5 ≠ 1 := fun q => by
          have u := t5.2.2.2
          rw [q, e1] at u
          exact absurd u (by decide)
        have n2 : F 5 ≠ 2 := fun q => by
          have u := t5.2.2.2
          rw [q, e2] at u
          exact absurd u (by decide)
        have n3 : F 5 ≠ 3 := fun q => by
          have u := t5.2.2.2
          rw [q, e3] at u
          exact absurd u (by decide)
        have n4 : F 5 ≠ 4 := fun q => by
          have u := t5.2.2.2
          rw [q, e4] at u
          exact absurd u (by decide)
        have n6 : F 5 ≠ 6 := fun q => by
          have u := t5.2.2.2
          rw [q, e6] at u
          exact absurd u (by decide)
        have e5 : F 5 = 7 := by omega
        have e7 : F 7 = 5 := by have u := t5.2.2.2; rw [e5] at u; exact u
        exact pr_l4 78 e0 e1 e2 e3 e4 e5 e6 e7 rfl (by decide)
      · have e5 : F 5 = 2 := by have u := t2.2.2.2; rw [e2] at u; exact u
        have n0 : F 4 ≠ 0 := fun q => by
          have u := t4.2.2.2
          rw [q, e0] at u
          exact absurd u (by decide)
        have n1 : F 4 ≠ 1 := fun q => by
          have u := t4.2.2.2
          rw [q, e1] at u
          exact absurd u (by decide)
        have n2 : F 4 ≠ 2 := fun q => by
          have u := t4.2.2.2
          rw [q, e2] at u
          exact absurd u (by decide)
        have n3 : F 4 ≠ 3 := fun q => by
          have u := t4.2.2.2
          rw [q, e3] at u
          exact absurd u (by decide)
        have n5 : F 4 ≠ 5 := fun q => by
          have u := t4.2.2.2
          rw [q, e5] at u
          exact absurd u (by decide)
        have n6 : F 4 ≠ 6 := fun q => by
          have u := t4.2.2.2
          rw [q, e6] at u
          exact absurd u (by decide)
        have e4 : F 4 = 7 := by omega
        have e7 : F 7 = 4 := by have u := t4.2.2.2; rw [e4] at u; exact u
        exact pr_l4 79 e0 e1 e2 e3 e4 e5 e6 e7 rfl (by decide)
      · have e7 : F 7 = 2 := by have u := t2.2.2.2; rw [e2] at u; exact u
        have n0 : F 4 ≠ 0 := fun q => by
          have u := t4.2.2.2
          rw [q, e0] at u
          exact absurd u (by decide)
        have n1 : F 4 ≠ 1 := fun q => by
          have u := t4.2.2.2
          rw [q, e1] at u
          exact absurd u (by decide)
        have n2 : F 4 ≠ 2 := fun q => by
          have u := t4.2.2.2
          rw [q, e2] at u
          exact absurd u (by decide)
        have n3 : F 4 ≠ 3 := fun q => by
          have u := t4.2.2.2
          rw [q, e3] at u
          exact absurd u (by decide)
        have n6 : F 4 ≠ 6 := fun q => by
          have u := t4.2.2.2
          rw [q, e6] at u
          exact absurd u (by decide)
        have n7 : F 4 ≠ 7 := fun q => by
          have u := t4.2.2.2
          rw [q, e7] at u
          exact absurd u (by decide)
        have e4 : F 4 = 5 := by omega
        have e5 : F 5 = 4 := by have u := t4.2.2.2; rw [e4] at u; exact u
        exact pr_l4 80 e0 e1 e2 e3 e4 e5 e6 e7 rfl (by decide)
    · have e4 : F 4 = 1 := by have u := t1.2.2.2; rw [e1] at u; exact u
      have n0 : F 2 ≠ 0 := fun q => by
        have u := t2.2.2.2
        rw [q, e0] at u
        exact absurd u (by decide)
      have n1 : F 2 ≠ 1 := fun q => by
        have u := t2.2.2.2
        rw [q, e1] at u
        exact absurd u (by decide)
      have n4 : F 2 ≠ 4 := fun q => by
        have u := t2.2.2.2
        rw [q, e4] at u
        exact absurd u (by decide)
      have n6 : F 2 ≠ 6 := fun q => by
        have u := t2.2.2.2
        rw [q, e6] at u
        exact absurd u (by decide)
      have s : F 2 = 3 ∨ F 2 = 5 ∨ F 2 = 7 := by omega
      rcases s with e2 | e2 | e2
      · have e3 : F 3 = 2 := by have u := t2.2.2.2; rw [e2] at u; exact u
        have n0 : F 5 ≠ 0 := fun q => by
          have u := t5.2.2.2
          rw [q, e0] at u
          exact absurd u (by decide)
        have n1 : F 5 ≠ 1 := fun q => by
          have u := t5.2.2.2
          rw [q, e1] at u
          exact absurd u (by decide)
        have n2 : F 5 ≠ 2 := fun q => by
          have u := t5.2.2.2
          rw [q, e2] at u
          exact absurd u (by decide)
        have n3 : F 5 ≠ 3 := fun q => by
          have u := t5.2.2.2
          rw [q, e3] at u
          exact absurd u (by decide)
        have n4 : F 5 ≠ 4 := fun q => by
          have u := t5.2.2.2
          rw [q, e4] at u
          exact absurd u (by decide)
        have n6 : F 5 ≠ 6 := fun q => by
          have u := t5.2.2.2
          rw [q, e6] at u
          exact absurd u (by decide)
        have e5 : F 5 = 7 := by omega
        have e7 : F 7 = 5 := by have u := t5.2.2.2; rw [e5] at u; exact u
        exact pr_l4 81 e0 e1 e2 e3 e4 e5 e6 e7 rfl (by decide)
      · have e5 : F 5 = 2 := by have u := t2.2.2.2; rw [e2] at u; exact u
        have n0 : F 3 ≠ 0 := fun q => by
          have u := t3.2.2.2
          rw [q, e0] at u
          exact absurd u (by decide)
        have n1 : F 3 ≠ 1 := fun q => by
          have u := t3.2.2.2
          rw [q, e1] at u
          exact absurd u (by decide)
        have n2 : F 3 ≠ 2 := fun q => by
          have u := t3.2.2.2
          rw [q, e2] at u
          exact absurd u (by decide)
        have n4 : F 3 ≠ 4 := fun q => by
          have u := t3.2.2.2
          rw [q, e4] at u
          exact absurd u (by decide)
        have n5 : F 3 ≠ 5 := fun q => by
          have u := t3.2.2.2
          rw [q, e5] at u
          exact absurd u (by decide)
        have n6 : F 3 ≠ 6 := fun q => by
          have u := t3.2.2.2
          rw [q, e6] at u
          exact absurd u (by decide)
        have e3 : F 3 = 7 := by omega
        have e7 : F 7 = 3 := by have u := t3.2.2.2; rw [e3] at u; exact u
        exact pr_l4 82 e0 e1 e2 e3 e4 e5 e6 e7 rfl (by decide)
      · have e7 : F 7 = 2 := by have u := t2.2.2.2; rw [e2] at u; exact u
        have n0 : F 3 ≠ 0 := fun q => by
          have u := t3.2.2.2
          rw [q, e0] at u
          exact absurd u (by decide)
        have n1 : F 3 ≠ 1 := fun q => by
          have u := t3.2.2.2
          rw [q, e1] at u
          exact absurd u (by decide)
        have n2 : F 3 ≠ 2 := fun q => by
          have u := t3.2.2.2
          rw [q, e2] at u
          exact absurd u (by decide)
        have n4 : F 3 ≠ 4 := fun q => by
          have u := t3.2.2.2
          rw [q, e4] at u
          exact absurd u (by decide)
        have n6 : F 3 ≠ 6 := fun q => by
          have u := t3.2.2.2
          rw [q, e6] at u
          exact absurd u (by decide)
        have n7 : F 3 ≠ 7 := fun q => by
          have u := t3.2.2.2
          rw [q, e7] at u
          exact absurd u (by decide)
        have e3 : F 3 = 5 := by omega
        have e5 : F 5 = 3 := by have u := t3.2.2.2; rw [e3] at u; exact u
        exact pr_l4 83 e0 e1 e2 e3 e4 e5 e6 e7 rfl (by decide)
    · have e5 : F 5 = 1 := by have u := t1.2.2.2; rw [e1] at u; exact u
      have n0 : F 2 ≠ 0 := fun q => by
        have u := t2.2.2.2
        rw [q, e0] at u
        exact absurd u (by decide)
      have n1 : F 2 ≠ 1 := fun q => by
        have u := t2.2.2.2
        rw [q, e1] at u
        exact absurd u (by decide)
      have n5 : F 2 ≠ 5 := fun q => by
        have u := t2.2.2.2
        rw [q, e5] at u
        exact absurd u (by decide)
      have n6 : F 2 ≠ 6 := fun q => by
        have u := t2.2.2.2
        rw [q, e6] at u
        exact absurd u (by decide)
      have s : F 2 = 3 ∨ F 2 = 4 ∨ F 2 = 7 := by omega
      rcases s with e2 | e2 | e2
      · have e3 : F 3 = 2 := by have u := t2.2.2.2; rw [e2] at u; exact u
        have n0 : F 4 ≠ 0 := fun q => by
          have u := t4.2.2.2
          rw [q, e0] at u
          exact absurd u (by decide)
        have n1 : F 4 ≠ 1 := fun q => by
          have u := t4.2.2.2
          rw [q, e1] at u
          exact absurd u (by decide)
        have n2 : F 4 ≠ 2 := fun q => by
          have u := t4.2.2.2
          rw [q, e2] at u
          exact absurd u (by decide)
        have n3 : F 4 ≠ 3 := fun q => by
          have u := t4.2.2.2
          rw [q, e3] at u
          exact absurd u (by decide)
        have n5 : F 4 ≠ 5 := fun q => by
          have u := t4.2.2.2
          rw [q, e5] at u
          exact absurd u (by decide)
        have n6 : F 4 ≠ 6 := fun q => by
          have u := t4.2.2.2
          rw [q, e6] at u
          exact absurd u (by decide)
        have e4 : F 4 = 7 := by omega
        have e7 : F 7 = 4 := by have u := t4.2.2.2; rw [e4] at u; exact u
        exact pr_l4 84 e0 e1 e2 e3 e4 e5 e6 e7 rfl (by decide)
      · have e4 : F 4 = 2 := by have u := t2.2.2.2; rw [e2] at u; exact u
        have n0 : F 3 ≠ 0 := fun q => by
          have u := t3.2.2.2
          rw [q, e0] at u
          exact absurd u (by decide)
        have n1 : F 3 ≠ 1 := fun q => by
          have u := t3.2.2.2
          rw [q, e1] at u
          exact absurd u (by decide)
        have n2 : F 3 ≠ 2 := fun q => by
          have u := t3.2.2.2
          rw [q, e2] at u
          exact absurd u (by decide)
        have n4 : F 3 ≠ 4 := fun q => by
          have u := t3.2.2.2
          rw [q, e4] at u
          exact absurd u (by decide)
        have n5 : F 3 ≠ 5 := fun q => by
          have u := t3.2.2.2
          rw [q, e5] at u
          exact absurd u (by decide)
        have n6 : F 3 ≠ 6 := fun q => by
          have u := t3.2.2.2
          rw [q, e6] at u
          exact absurd u (by decide)
        have e3 : F 3 = 7 := by omega
        have e7 : F 7 = 3 := by have u := t3.2.2.2; rw [e3] at u; exact u
        exact pr_l4 85 e0 e1 e2 e3 e4 e5 e6 e7 rfl (by decide)
      · have e7 : F 7 = 2 := by have u := t2.2.2.2; rw [e2] at u; exact u
        have n0 : F 3 ≠ 0 := fun q => by
          have u := t3.2.2.2
          rw [q, e0] at u
          exact absurd u (by decide)
        have n1 : F 3 ≠ 1 := fun q => by
          have u := t3.2.2.2
          rw [q, e1] at u
          exact absurd u (by decide)
        have n2 : F 3 ≠ 2 := fun q => by
          have u := t3.2.2.2
          rw [q, e2] at u
          exact absurd u (by decide)
        have n5 : F 3 ≠ 5 := fun q => by
          have u := t3.2.2.2
          rw [q, e5] at u
          exact absurd u (by decide)
        have n6 : F 3 ≠ 6 := fun q => by
          have u := t3.2.2.2
          rw [q, e6] at u
          exact absurd u (by decide)
        have n7 : F 3 ≠ 7 := fun q => by
          have u := t3.2.2.2
          rw [q, e7] at u
          exact absurd u (by decide)
        have e3 : F 3 = 4 := by omega
        have e4 : F 4 = 3 := by have u := t3.2.2.2; rw [e3] at u; exact u
        exact pr_l4 86 e0 e1 e2 e3 e4 e5 e6 e7 rfl (by decide)
    · have e7 : F 7 = 1 := by have u := t1.2.2.2; rw [e1] at u; exact u
      have n0 : F 2 ≠ 0 := fun q => by
        have u := t2.2.2.2
        rw [q, e0] at u
        exact absurd u (by decide)
      have n1 : F 2 ≠ 1 := fun q => by
        have u := t2.2.2.2
        rw [q, e1] at u
        exact absurd u (by decide)
      have n6 : F 2 ≠ 6 := fun q => by
        have u := t2.2.2.2
        rw [q, e6] at u
        exact absurd u (by decide)
      have n7 : F 2 ≠ 7 := fun q => by
        have u := t2.2.2.2
        rw [q, e7] at u
        exact absurd u (by decide)
      have s : F 2 = 3 ∨ F 2 = 4 ∨ F 2 = 5 := by omega
      rcases s with e2 | e2 | e2
      · have e3 : F 3 = 2 := by have u := t2.2.2.2; rw [e2] at u; exact u
        have n0 : F 4 ≠ 0 := fun q => by
          have u := t4.2.2.2
          rw [q, e0] at u
          exact absurd u (by decide)
        have n1 : F 4 ≠ 1 := fun q => by
          have u := t4.2.2.2
          rw [q, e1] at u
          exact absurd u (by decide)
        have n2 : F 4 ≠ 2 := fun q => by
          have u := t4.2.2.2
          rw [q, e2] at u
          exact absurd u (by decide)
        have n3 : F 4 ≠ 3 := fun q => by
          have u := t4.2.2.2
          rw [q, e3] at u
          exact absurd u (by decide)
        have n6 : F 4 ≠ 6 := fun q => by
          have u := t4.2.2.2
          rw [q, e6] at u
          exact absurd u (by decide)
        have n7 : F 4 ≠ 7 := fun q => by
          have u := t4.2.2.2
          rw [q, e7] at u
          exact absurd u (by decide)
        have e4 : F 4 = 5 := by omega
        have e5 : F 5 = 4 := by have u := t4.2.2.2; rw [e4] at u; exact u
        exact pr_l4 87 e0 e1 e2 e3 e4 e5 e6 e7 rfl (by decide)
      · have e4 : F 4 = 2 := by have u := t2.2.2.2; rw [e2] at u; exact u
        have n0 : F 3 ≠ 0 := fun q => by
          have u := t3.2.2.2
          rw [q, e0] at u
          exact absurd u (by decide)
        have n1 : F 3 ≠ 1 := fun q => by
          have u := t3.2.2.2
          rw [q, e1] at u
          exact absurd u (by decide)
        have n2 : F 3 ≠ 2 := fun q => by
          have u := t3.2.2.2
          rw [q, e2] at u
          exact absurd u (by decide)
        have n4 : F 3 ≠ 4 := fun q => by
          have u := t3.2.2.2
          rw [q, e4] at u
          exact absurd u (by decide)
        have n6 : F 3 ≠ 6 := fun q => by
          have u := t3.2.2.2
          rw [q, e6] at u
          exact absurd u (by decide)
        have n7 : F 3 ≠ 7 := fun q => by
          have u := t3.2.2.2
          rw [q, e7] at u
          exact absurd u (by decide)
        have e3 : F 3 = 5 := by omega
        have e5 : F 5 = 3 := by have u := t3.2.2.2; rw [e3] at u; exact u
        exact pr_l4 88 e0 e1 e2 e3 e4 e5 e6 e7 rfl (by decide)
      · have e5 : F 5 = 2 := by have u := t2.2.2.2; rw [e2] at u; exact u
        have n0 : F 3 ≠ 0 := fun q => by
          have u := t3.2.2.2
          rw [q, e0] at u
          exact absurd u (by decide)
        have n1 : F 3 ≠ 1 := fun q => by
          have u := t3.2.2.2
          rw [q, e1] at u
          exact absurd u (by decide)
        have n2 : F 3 ≠ 2 := fun q => by
          have u := t3.2.2.2
          rw [q, e2] at u
          exact absurd u (by decide)
        have n5 : F 3 ≠ 5 := fun q => by
          have u := t3.2.2.2
          rw [q, e5] at u
          exact absurd u (by decide)
        have n6 : F 3 ≠ 6 := fun q => by
          have u := t3.2.2.2
          rw [q, e6] at u
          exact absurd u (by decide)
        have n7 : F 3 ≠ 7 := fun q => by
          have u := t3.2.2.2
          rw [q, e7] at u
          exact absurd u (by decide)
        have e3 : F 3 = 4 := by omega
        have e4 : F 4 = 3 := by have u := t3.2.2.2; rw [e3] at u; exact u
        exact pr_l4 89 e0 e1 e2 e3 e4 e5 e6 e7 rfl (by decide)
  · have e7 : F 7 = 0 := by have u := t0.2.2.2; rw [e0] at u; exact u
    have n0 : F 1 ≠ 0 := fun q => by
      have u := t1.2.2.2
      rw [q, e0] at u
      exact absurd u (by decide)
    have n7 : F 1 ≠ 7 := fun q => by
      have u := t1.2.2.2
      rw [q, e7] at u
      exact absurd u (by decide)
    have s : F 1 = 2 ∨ F 1 = 3 ∨ F 1 = 4 ∨ F 1 = 5 ∨ F 1 = 6 := by omega
    rcases s with e1 | e1 | e1 | e1 | e1
    · have e2 : F 2 = 1 := by have u := t1.2.2.2; rw [e1] at u; exact u
      have n0 : F 3 ≠ 0 := fun q => by
        have u := t3.2.2.2
        rw [q, e0] at u
        exact absurd u (by decide)
      have n1 : F 3 ≠ 1 := fun q => by
        have u := t3.2.2.2
        rw [q, e1] at u
        exact absurd u (by decide)
      have n2 : F 3 ≠ 2 := fun q => by
        have u := t3.2.2.2
        rw [q, e2] at u
        exact absurd u (by decide)
      have n7 : F 3 ≠ 7 := fun q => by
        have u := t3.2.2.2
        rw [q, e7] at u
        exact absurd u (by decide)
      have s : F 3 = 4 ∨ F 3 = 5 ∨ F 3 = 6 := by omega
      rcases s with e3 | e3 | e3
      · have e4 : F 4 = 3 := by have u := t3.2.2.2; rw [e3] at u; exact u
        have n0 : F 5 ≠ 0 := fun q => by
          have u := t5.2.2.2
          rw [q, e0] at u
          exact absurd u (by decide)
        have n1 : F 5 ≠ 1 := fun q => by
          have u := t5.2.2.2
          rw [q, e1] at u
          exact absurd u (by decide)
        have n2 : F 5 ≠ 2 := fun q => by
          have u := t5.2.2.2
          rw [q, e2] at u
          exact absurd u (by decide)
        have n3 : F 5 ≠ 3 := fun q => by
          have u := t5.2.2.2
          rw [q, e3] at u
          exact absurd u (by decide)
        have n4 : F 5 ≠ 4 := fun q => by
          have u := t5.2.2.2
          rw [q, e4] at u
          exact absurd u (by decide)
        have n7 : F 5 ≠ 7 := fun q => by
          have u := t5.2.2.2
          rw [q, e7] at u
          exact absurd u (by decide)
        have e5 : F 5 = 6 := by omega
        have e6 : F 6 = 5 := by have u := t5.2.2.2; rw [e5] at u; exact u
        exact pr_l4 90 e0 e1 e2 e3 e4 e5 e6 e7 rfl (by decide)
      · have e5 : F 5 = 3 := by have u := t3.2.2.2; rw [e3] at u; exact u
        have n0 : F 4 ≠ 0 := fun q => by
          have u := t4.2.2.2
          rw [q, e0] at u
          exact absurd u (by decide)
        have n1 : F 4 ≠ 1 := fun q => by
          have u := t4.2.2.2
          rw [q, e1] at u
          exact absurd u (by decide)
        have n2 : F 4 ≠ 2 := fun q => by
          have u := t4.2.2.2
          rw [q, e2] at u
          exact absurd u (by decide)
        have n3 : F 4 ≠ 3 := fun q => by
          have u := t4.2.2.2
          rw [q, e3] at u
          exact absurd u (by decide)
        have n5 : F 4 ≠ 5 := fun q => by
          have u := t4.2.2.2
          rw [q, e5] at u
          exact absurd u (by decide)
        have n7 : F 4 ≠ 7 := fun q => by
          have u := t4.2.2.2
          rw [q, e7] at u
          exact absurd u (by decide)
        have e4 : F 4 = 6 := by omega
        have e6 : F 6 = 4 := by have u := t4.2.2.2; rw [e4] at u; exact u
        exact pr_l4 91 e0 e1 e2 e3 e4 e5 e6 e7 rfl (by decide)
      · have e6 : F 6 = 3 := by have u := t3.2.2.2; rw [e3] at u; exact u
        have n0 : F 4 ≠ 0 := fun q => by
          have u := t4.2.2.2
          rw [q, e0] at u
          exact absurd u (by decide)
        have n1 : F 4 ≠ 1 := fun q => by
          have u := t4.2.2.2
          rw [q, e1] at u
          exact absurd u (by decide)
        have n2 : F 4 ≠ 2 := fun q => by
          have u := t4.2.2.2
          rw [q, e2] at u
          exact absurd u (by decide)
        have n3 : F 4 ≠ 3 := fun q => by
          have u := t4.2.2.2
          rw [q, e3] at u
          exact absurd u (by decide)
        have n6 : F 4 ≠ 6 := fun q => by
          have u := t4.2.2.2
          rw [q, e6] at u
          exact absurd u (by decide)
        have n7 : F 4 ≠ 7 := fun q => by
          have u := t4.2.2.2
          rw [q, e7] at u
          exact absurd u (by decide)
        have e4 : F 4 = 5 := by omega
        have e5 : F 5 = 4 := by have u := t4.2.2.2; rw [e4] at u; exact u
        exact pr_l4 92 e0 e1 e2 e3 e4 e5 e6 e7 rfl (by decide)
    · have e3 : F 3 = 1 := by have u := t1.2.2.2; rw [e1] at u; exact u
      have n0 : F 2 ≠ 0 := fun q => by
        have u := t2.2.2.2
        rw [q, e0] at u
        exact absurd u (by decide)
      have n1 : F 2 ≠ 1 := fun q => by
        have u := t2.2.2.2
        rw [q, e1] at u
        exact absurd u (by decide)
      have n3 : F 2 ≠ 3 := fun q => by
        have u := t2.2.2.2
        rw [q, e3] at u
        exact absurd u (by decide)
      have n7 : F 2 ≠ 7 := fun q => by
        have u := t2.2.2.2
        rw [q, e7] at u
        exact absurd u (by decide)
      have s : F 2 = 4 ∨ F 2 = 5 ∨ F 2 = 6 := by omega
      rcases s with e2 | e2 | e2
      · have e4 : F 4 = 2 := by have u := t2.2.2.2; rw [e2] at u; exact u
        have n0 : F 5 ≠ 0 := fun q => by
          have u := t5.2.2.2
          rw [q, e0] at u
          exact absurd u (by decide)
        have n1 : F 5 ≠ 1 := fun q => by
          have u := t5.2.2.2
          rw [q, e1] at u
          exact absurd u (by decide)
        have n2 : F 5 ≠ 2 := fun q => by
          have u := t5.2.2.2
          rw [q, e2] at u
          exact absurd u (by decide)
        have n3 : F 5 ≠ 3 := fun q => by
          have u := t5.2.2.2
          rw [q, e3] at u
          exact absurd u (by decide)
        have n4 : F 5 ≠ 4 := fun q => by
          have u := t5.2.2.2
          rw [q, e4] at u
          exact absurd u (by decide)
        have n7 : F 5 ≠ 7 := fun q => by
          have u := t5.2.2.2
          rw [q, e7] at u
          exact absurd u (by decide)
        have e5 : F 5 = 6 := by omega
        have e6 : F 6 = 5 := by have u := t5.2.2.2; rw [e5] at u; exact u
        exact pr_l4 93 e0 e1 e2 e3 e4 e5 e6 e7 rfl (by decide)
      · have e5 : F 5 = 2 := by have u := t2.2.2.2; rw [e2] at u; exact u
        have n0 : F 4 ≠ 0 := fun q => by
          have u := t4.2.2.2
          rw [q, e0] at u
          exact absurd u (by decide)
        have n1 : F 4 ≠ 1 := fun q => by
          have u := t4.2.2.2
          rw [q, e1] at u
          exact absurd u (by decide)
        have n2 : F 4 ≠ 2 := fun q => by
          have u := t4.2.2.2
          rw [q, e2] at u
          exact absurd u (by decide)
        have n3 : F 4 ≠ 3 := fun q => by
          have u := t4.2.2.2
          rw [q, e3] at u
          exact absurd u (by decide)
        have n5 : F 4 ≠ 5 := fun q => by
          have u := t4.2.2.2
          rw [q, e5] at u
          exact absurd u (by decide)
        have n7 : F 4 ≠ 7 := fun q => by
          have u := t4.2.2.2
          rw [q, e7] at u
          exact absurd u (by decide)
        have e4 : F 4 = 6 := by omega
        have e6 : F 6 = 4 := by have u := t4.2.2.2; rw [e4] at u; exact u
        exact pr_l4 94 e0 e1 e2 e3 e4 e5 e6 e7 rfl (by decide)
      · have e6 : F 6 = 2 := by have u := t2.2.2.2; rw [e2] at u; exact u
        have n0 : F 4 ≠ 0 := fun q => by
          have u := t4.2.2.2
          rw [q, e0] at u
          exact absurd u (by decide)
        have n1 : F 4 ≠ 1 := fun q => by
          have u := t4.2.2.2
          rw [q, e1] at u
          exact absurd u (by decide)
        have n2 : F 4 ≠ 2 := fun q => by
          have u := t4.2.2.2
          rw [q, e2] at u
          exact absurd u (by decide)
        have n3 : F 4 ≠ 3 := fun q => by
          have u := t4.2.2.2
          rw [q, e3] at u
          exact absurd u (by decide)
        have n6 : F 4 ≠ 6 := fun q => by
          have u := t4.2.2.2
          rw [q, e6] at u
          exact absurd u (by decide)
        have n7 : F 4 ≠ 7 := fun q => by
          have u := t4.2.2.2
          rw [q, e7] at u
          exact absurd u (by decide)
        have e4 : F 4 = 5 := by omega
        have e5 : F 5 = 4 := by have u := t4.2.2.2; rw [e4] at u; exact u
        exact pr_l4 95 e0 e1 e2 e3 e4 e5 e6 e7 rfl (by decide)
    · have e4 : F 4 = 1 := by have u := t1.2.2.2; rw [e1] at u; exact u
      have n0 : F 2 ≠ 0 := fun q => by
        have u := t2.2.2.2
        rw [q, e0] at u
        exact absurd u (by decide)
      have n1 : F 2 ≠ 1 := fun q => by
        have u := t2.2.2.2
        rw [q, e1] at u
        exact absurd u (by decide)
      have n4 : F 2 ≠ 4 := fun q => by
        have u := t2.2.2.2
        rw [q, e4] at u
        exact absurd u (by decide)
      have n7 : F 2 ≠ 7 := fun q => by
        have u := t2.2.2.2
        rw [q, e7] at u
        exact absurd u (by decide)
      have s : F 2 = 3 ∨ F 2 = 5 ∨ F 2 = 6 := by omega
      rcases s with e2 | e2 | e2
      · have e3 : F 3 = 2 := by have u := t2.2.2.2; rw [e2] at u; exact u
        have n0 : F 5 ≠ 0 := fun q => by
          have u := t5.2.2.2
          rw [q, e0] at u
          exact absurd u (by decide)
        have n1 : F 5 ≠ 1 := fun q => by
          have u := t5.2.2.2
          rw [q, e1] at u
          exact absurd u (by decide)
        have n2 : F 5 ≠ 2 := fun q => by
          have u := t5.2.2.2
          rw [q, e2] at u
          exact absurd u (by decide)
        have n3 : F 5 ≠ 3 := fun q => by
          have u := t5.2.2.2
          rw [q, e3] at u
          exact absurd u (by decide)
        have n4 : F 5 ≠ 4 := fun q => by
          have u := t5.2.2.2
          rw [q, e4] at u
          exact absurd u (by decide)
        have n7 : F 5 ≠ 7 := fun q => by
          have u := t5.2.2.2
          rw [q, e7] at u
          exact absurd u (by decide)
        have e5 : F 5 = 6 := by omega
        have e6 : F 6 = 5 := by have u := t5.2.2.2; rw [e5] at u; exact u
        exact pr_l4 96 e0 e1 e2 e3 e4 e5 e6 e7 rfl (by decide)
      · have e5 : F 5 = 2 := by have u := t2.2.2.2; rw [e2] at u; exact u
        have n0 : F 3 ≠ 0 := fun q => by
          have u := t3.2.2.2
          rw [q, e0] at u
          exact absurd u (by decide)
        have n1 : F 3 ≠ 1 := fun q => by
          have u := t3.2.2.2
          rw [q, e1] at u
          exact absurd u (by decide)
        have n2 : F 3 ≠ 2 := fun q => by
          have u := t3.2.2.2
          rw [q, e2] at u
          exact absurd u (by decide)
        have n4 : F 3 ≠ 4 := fun q => by
          have u := t3.2.2.2
          rw [q, e4] at u
          exact absurd u (by decide)
        have n5 : F 3 ≠ 5 := fun q => by
          have u := t3.2.2.2
          rw [q, e5] at u
          exact absurd u (by decide)
        have n7 : F 3 ≠ 7 := fun q => by
          have u := t3.2.2.2
          rw [q, e7] at u
          exact absurd u (by decide)
        have e3 : F 3 = 6 := by omega
        have e6 : F 6 = 3 := by have u := t3.2.2.2; rw [e3] at u; exact u
        exact pr_l4 97 e0 e1 e2 e3 e4 e5 e6 e7 rfl (by decide)
      · have e6 : F 6 = 2 := by have u := t2.2.2.2; rw [e2] at u; exact u
        have n0 : F 3 ≠ 0 := fun q => by
          have u := t3.2.2.2
          rw [q, e0] at u
          exact absurd u (by decide)
        have n1 : F 3 ≠ 1 := fun q => by
          have u := t3.2.2.2
          rw [q, e1] at u
          exact absurd u (by decide)
        have n2 : F 3 ≠ 2 := fun q => by
          have u := t3.2.2.2
          rw [q, e2] at u
          exact absurd u (by decide)
        have n4 : F 3 ≠ 4 := fun q => by
          have u := t3.2.2.2
          rw [q, e4] at u
          exact absurd u (by decide)
        have n6 : F 3 ≠ 6 := fun q => by
          have u := t3.2.2.2
          rw [q, e6] at u
          exact absurd u (by decide)
        have n7 : F 3 ≠ 7 := fun q => by
          have u := t3.2.2.2
          rw [q, e7] at u
          exact absurd u (by decide)
        have e3 : F 3 = 5 := by omega
        have e5 : F 5 = 3 := by have u := t3.2.2.2; rw [e3] at u; exact u
        exact pr_l4 98 e0 e1 e2 e3 e4 e5 e6 e7 rfl (by decide)
    · have e5 : F 5 = 1 := by have u := t1.2.2.2; rw [e1] at u; exact u
      have n0 : F 2 ≠ 0 := fun q => by
        have u := t2.2.2.2
        rw [q, e0] at u
        exact absurd u (by decide)
      have n1 : F 2 ≠ 1 := fun q => by
        have u := t2.2.2.2
        rw [q, e1] at u
        exact absurd u (by decide)
      have n5 : F 2 ≠ 5 := fun q => by
        have u := t2.2.2.2
        rw [q, e5] at u
        exact absurd u (by decide)
      have n7 : F 2 ≠ 7 := fun q => by
        have u := t2.2.2.2
        rw [q, e7] at u
        exact absurd u (by decide)
      have s : F 2 = 3 ∨ F 2 = 4 ∨ F 2 = 6 := by omega
      rcases s with e2 | e2 | e2
      · have e3 : F 3 = 2 := by have u := t2.2.2.2; rw [e2] at u; exact u
        have n0 : F 4 ≠ 0 := fun q => by
          have u := t4.2.2.2
          rw [q, e0] at u
          exact absurd u (by decide)
        have n1 : F 4 ≠ 1 := fun q => by
          have u := t4.2.2.2
          rw [q, e1] at u
          exact absurd u (by decide)
        have n2 : F 4 ≠ 2 := fun q => by
          have u := t4.2.2.2
          rw [q, e2] at u
          exact absurd u (by decide)
        have n3 : F 4 ≠ 3 := fun q => by
          have u := t4.2.2.2
          rw [q, e3] at u
          exact absurd u (by decide)
        have n5 : F 4 ≠ 5 := fun q => by
          have u := t4.2.2.2
          rw [q, e5] at u
          exact absurd u (by decide)
        have n7 : F 4 ≠ 7 := fun q => by
          have u := t4.2.2.2
          rw [q, e7] at u
          exact absurd u (by decide)
        have e4 : F 4 = 6 := by omega
        have e6 : F 6 = 4 := by have u := t4.2.2.2; rw [e4] at u; exact u
        exact pr_l4 99 e0 e1 e2 e3 e4 e5 e6 e7 rfl (by decide)
      · have e4 : F 4 = 2 := by have u := t2.2.2.2; rw [e2] at u; exact u
        have n0 : F 3 ≠ 0 := fun q => by
          have u := t3.2.2.2
          rw [q, e0] at u
          exact absurd u (by decide)
        have n1 : F 3 ≠ 1 := fun q => by
          have u := t3.2.2.2
          rw [q, e1] at u
          exact absurd u (by decide)
        have n2 : F 3 ≠ 2 := fun q => by
          have u := t3.2.2.2
          rw [q, e2] at u
          exact absurd u (by decide)
        have n4 : F 3 ≠ 4 := fun q => by
          have u := t3.2.2.2
          rw [q, e4] at u
          exact absurd u (by decide)
        have n5 : F 3 ≠ 5 := fun q => by
          have u := t3.2.2.2
          rw [q, e5] at u
          exact absurd u (by decide)
        have n7 : F 3 ≠ 7 := fun q => by
          have u := t3.2.2.2
          rw [q, e7] at u
          exact absurd u (by decide)
        have e3 : F 3 = 6 := by omega
        have e6 : F 6 = 3 := by have u := t3.2.2.2; rw [e3] at u; exact u
        exact pr_l4 100 e0 e1 e2 e3 e4 e5 e6 e7 rfl (by decide)
      · have e6 : F 6 = 2 := by have u := t2.2.2.2; rw [e2] at u; exact u
        have n0 : F 3 ≠ 0 := fun q => by
          have u := t3.2.2.2
          rw [q, e0] at u
          exact absurd u (by decide)
        have n1 : F 3 ≠ 1 := fun q => by
          have u := t3.2.2.2
          rw [q, e1] at u
          exact absurd u (by decide)
        have n2 : F 3 ≠ 2 := fun q => by
          have u := t3.2.2.2
          rw [q, e2] at u
          exact absurd u (by decide)
        have n5 : F 3 ≠ 5 := fun q => by
          have u := t3.2.2.2
          rw [q, e5] at u
          exact absurd u (by decide)
        have n6 : F 3 ≠ 6 := fun q => by
          have u := t3.2.2.2
          rw [q, e6] at u
          exact absurd u (by decide)
        have n7 : F 3 ≠ 7 := fun q => by
          have u := t3.2.2.2
          rw [q, e7] at u
          exact absurd u (by decide)
        have e3 : F 3 = 4 := by omega
        have e4 : F 4 = 3 := by have u := t3.2.2.2; rw [e3] at u; exact u
        exact pr_l4 101 e0 e1 e2 e3 e4 e5 e6 e7 rfl (by decide)
    · have e6 : F 6 = 1 := by have u := t1.2.2.2; rw [e1] at u; exact u
      have n0 : F 2 ≠ 0 := fun q => by
        have u := t2.2.2.2
        rw [q, e0] at u
        exact absurd u (by decide)
      have n1 : F 2 ≠ 1 := fun q => by
        have u := t2.2.2.2
        rw [q, e1] at u
        exact absurd u (by decide)
      have n6 : F 2 ≠ 6 := fun q => by
        have u := t2.2.2.2
        rw [q, e6] at u
        exact absurd u (by decide)
      have n7 : F 2 ≠ 7 := fun q => by
        have u := t2.2.2.2
        rw [q, e7] at u
        exact absurd u (by decide)
      have s : F 2 = 3 ∨ F 2 = 4 ∨ F 2 = 5 := by omega
      rcases s with e2 | e2 | e2
      · have e3 : F 3 = 2 := by have u := t2.2.2.2; rw [e2] at u; exact u
        have n0 : F 4 ≠ 0 := fun q => by
          have u := t4.2.2.2
          rw [q, e0] at u
          exact absurd u (by decide)
        have n1 : F 4 ≠ 1 := fun q => by
          have u := t4.2.2.2
          rw [q, e1] at u
          exact absurd u (by decide)
        have n2 : F 4 ≠ 2 := fun q => by
          have u := t4.2.2.2
          rw [q, e2] at u
          exact absurd u (by decide)
        have n3 : F 4 ≠ 3 := fun q => by
          have u := t4.2.2.2
          rw [q, e3] at u
          exact absurd u (by decide)
        have n6 : F 4 ≠ 6 := fun q => by
          have u := t4.2.2.2
          rw [q, e6] at u
          exact absurd u (by decide)
        have n7 : F 4 ≠ 7 := fun q => by
          have u := t4.2.2.2
          rw [q, e7] at u
          exact absurd u (by decide)
        have e4 : F 4 = 5 := by omega
        have e5 : F 5 = 4 := by have u := t4.2.2.2; rw [e4] at u; exact u
        exact pr_l4 102 e0 e1 e2 e3 e4 e5 e6 e7 rfl (by decide)
      · have e4 : F 4 = 2 := by have u := t2.2.2.2; rw [e2] at u; exact u
        have n0 : F 3 ≠ 0 := fun q => by
          have u := t3.2.2.2
          rw [q, e0] at u
          exact absurd u (by decide)
        have n1 : F 3 ≠ 1 := fun q => by
          have u := t3.2.2.2
          rw [q, e1] at u
          exact absurd u (by decide)
        have n2 : F 3 ≠ 2 := fun q => by
          have u := t3.2.2.2
          rw [q, e2] at u
          exact absurd u (by decide)
        have n4 : F 3 ≠ 4 := fun q => by
          have u := t3.2.2.2
          rw [q, e4] at u
          exact absurd u (by decide)
        have n6 : F 3 ≠ 6 := fun q => by
          have u := t3.2.2.2
          rw [q, e6] at u
          exact absurd u (by decide)
        have n7 : F 3 ≠ 7 := fun q => by
          have u := t3.2.2.2
          rw [q, e7] at u
          exact absurd u (by decide)
        have e3 : F 3 = 5 := by omega
        have e5 : F 5 = 3 := by have u := t3.2.2.2; rw [e3] at u; exact u
        exact pr_l4 103 e0 e1 e2 e3 e4 e5 e6 e7 rfl (by decide)
      · have e5 : F 5 = 2 := by have u := t2.2.2.2; rw [e2] at u; exact u
        have n0 : F 3 ≠ 0 := fun q => by
          have u := t3.2.2.2
          rw [q, e0] at u
          exact absurd u (by decide)
        have n1 : F 3 ≠ 1 := fun q => by
          have u := t3.2.2.2
          rw [q, e1] at u
          exact absurd u (by decide)
        have n2 : F 3 ≠ 2 := fun q => by
          have u := t3.2.2.2
          rw [q, e2] at u
          exact absurd u (by decide)
        have n5 : F 3 ≠ 5 := fun q => by
          have u := t3.2.2.2
          rw [q, e5] at u
          exact absurd u (by decide)
        have n6 : F 3 ≠ 6 := fun q => by
          have u := t3.2.2.2
          rw [q, e6] at u
          exact absurd u (by decide)
        have n7 : F 3 ≠ 7 := fun q => by
          have u := t3.2.2.2
          rw [q, e7] at u
          exact absurd u (by decide)
        have e3 : F 3 = 4 := by omega
        have e4 : F 4 = 3 := by have u := t3.2.2.2; rw [e3] at u; exact u
        exact pr_l4 104 e0 e1 e2 e3 e4 e5 e6 e7 rfl (by decide)
