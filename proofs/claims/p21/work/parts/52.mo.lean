/-! The reference's object, at y: its arrays lie behind it. -/
def mo_t (y : Nat) : Nat → aq_T := fun k => match k with
  | 0 => .inr (vR (y + 1))
  | 1 => .inr (vR (y + 2))
  | 2 => .inr (vR (y + 3))
  | 3 => .inr (vR (y + 4))
  | 4 => .inr (vR (y + 5))
  | 5 => .inr (vR (y + 6))
  | 6 => .inr (vR (y + 7))
  | 7 => .inr (vR (y + 8))
  | 8 => .inr (vR (y + 9))
  | 11 => .inr (vR (y + 10))
  | 12 => .inr (vR (y + 11))
  | 13 => .inr (vR (y + 12))
  | 14 => .inr (vR (y + 13))
  | 16 => .inr (vR (y + 14))
  | 18 => .inr (vR (y + 15))
  | 19 => .inr (vR (y + 16))
  | 20 => .inr (vR (y + 17))
  | 21 => .inr (vR (y + 18))
  | 22 => .inr (vR (y + 19))
  | 23 => .inr (vR (y + 20))
  | 24 => .inr (vR (y + 21))
  | 25 => .inr (vR (y + 22))
  | 26 => .inr (vR (y + 23))
  | _ => .inl 0
def mo_0 (m : Nat) (F : aq_F) (y : Nat) : Prop := y + 24 ≤ m ∧ F y = (15, 27, mo_t y) ∧ F (y + 5) = (0, 8, fun _ => .inl 0) ∧ F (y + 6) = (0, 8, fun _ => .inl 0) ∧ F (y + 7) = (0, 320, fun _ => .inl 0) ∧ F (y + 8) = (0, 320, fun _ => .inl 0) ∧ F (y + 9) = (2, 320, fun _ => .inl 2) ∧ F (y + 10) = (0, 8, fun _ => .inl 0) ∧ F (y + 11) = (1, 8, fun _ => .inl 0) ∧ F (y + 12) = (0, 8, fun _ => .inl 0) ∧ F (y + 13) = (1, 4, fun _ => .inl 0) ∧ F (y + 14) = (0, 105, fun _ => .inl 0) ∧ F (y + 15) = (0, 42, fun _ => .inl 0) ∧ F (y + 16) = (0, 42, fun _ => .inl 0) ∧ F (y + 17) = (2, 42, fun _ => .inl 2) ∧ F (y + 18) = (0, 4, fun _ => .inl 0) ∧ F (y + 19) = (0, 4, fun _ => .inl 0) ∧ F (y + 20) = (0, 36, fun _ => .inl 0) ∧ F (y + 21) = (0, 201, fun _ => .inl 0) ∧ F (y + 22) = (0, 201, fun _ => .inl 0) ∧ F (y + 23) = (0, 201, fun _ => .inl 0)
/-- the first box of n strands -/
def mo_f (n : Int) : Int := if n = 1 then 0 else if n = 2 then 1 else if n = 3 then 4 else 19
theorem mo_fs (n : Int) : 0 ≤ mo_f n ∧ mo_f n + bx_K n ≤ 124 ∧ 1 ≤ bx_K n ∧ bx_K n ≤ 105 := by
  unfold mo_f bx_K
  (repeat' split) <;> omega
/-- the table -/
def mo_T (F : aq_F) (y : Nat) (tbl : Int → Int) : Prop := F (y + 1) = (0, 992, fun j => .inr (vI (tbl (j : Int)))) ∧ ∀ n b p : Int, 1 ≤ n → n ≤ 4 → 0 ≤ b → b < bx_K n → 0 ≤ p → p < 2 * n → tbl (8 * (mo_f n + b) + p) = prt n b p
theorem pr_f1 : ∀ b : Nat, b < 1 → ∀ p : Nat, p < 2 → 0 ≤ prt 1 b p ∧ prt 1 b p < 2 ∧ prt 1 b p ≠ p ∧ prt 1 b (prt 1 b p) = p := by decide +kernel
theorem pr_f2 : ∀ b : Nat, b < 3 → ∀ p : Nat, p < 4 → 0 ≤ prt 2 b p ∧ prt 2 b p < 4 ∧ prt 2 b p ≠ p ∧ prt 2 b (prt 2 b p) = p := by decide +kernel
theorem pr_f3 : ∀ b : Nat, b < 15 → ∀ p : Nat, p < 6 → 0 ≤ prt 3 b p ∧ prt 3 b p < 6 ∧ prt 3 b p ≠ p ∧ prt 3 b (prt 3 b p) = p := by decide +kernel
theorem pr_f4 : ∀ b : Nat, b < 105 → ∀ p : Nat, p < 8 → 0 ≤ prt 4 b p ∧ prt 4 b p < 8 ∧ prt 4 b p ≠ p ∧ prt 4 b (prt 4 b p) = p := by decide +kernel
theorem pr_fi {n b : Int} (h1 : 1 ≤ n) (h4 : n ≤ 4) (h0 : 0 ≤ b) (hb : b < bx_K n) : fi n (prt n b) := by
  intro p hp hq
  have h : n = 1 ∨ n = 2 ∨ n = 3 ∨ n = 4 := by omega
  have eb : ((b.toNat : Nat) : Int) = b := Int.toNat_of_nonneg h0
  have ep : ((p.toNat : Nat) : Int) = p := Int.toNat_of_nonneg hp
  rcases h with h | h | h | h <;> subst h
  · have hk : bx_K 1 = 1 := rfl
    have := pr_f1 b.toNat (by omega) p.toNat (by omega)
    rw [eb, ep] at this
    exact this
  · have hk : bx_K 2 = 3 := rfl
    have := pr_f2 b.toNat (by omega) p.toNat (by omega)
    rw [eb, ep] at this
    exact this
  · have hk : bx_K 3 = 15 := rfl
    have := pr_f3 b.toNat (by omega) p.toNat (by omega)
    rw [eb, ep] at this
    exact this
  · have hk : bx_K 4 = 105 := rfl
    have := pr_f4 b.toNat (by omega) p.toNat (by omega)
    rw [eb, ep] at this
    exact this
theorem pr_c {n : Int} {F : Int → Int} (h1 : 1 ≤ n) (h4 : n ≤ 4) (h : fi n F) : ∃ b : Int, 0 ≤ b ∧ b < bx_K n ∧ ∀ p, 0 ≤ p → p < 2 * n → prt n b p = F p := by
  have h9 : n = 1 ∨ n = 2 ∨ n = 3 ∨ n = 4 := by omega
  rcases h9 with h9 | h9 | h9 | h9 <;> subst h9
  · exact pr_c1 h
  · exact pr_c2 h
  · exact pr_c3 h
  · exact pr_c4 h
