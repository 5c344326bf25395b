/-! The shape of an object of Boxes with n strands and K boxes, at o: its arrays lie behind it in the order in which they are made. -/
def bx_t (o n K : Nat) : Nat → aq_T := fun y => match y with
  | 0 => .inr (vI (n : Int))
  | 1 => .inr (vI (2 * (n : Int)))
  | 2 => .inr (vI (2 * (n : Int) - 2))
  | 3 => .inr (vI (K : Int))
  | 4 => .inr (vR (o + 1))
  | 5 => .inr (vR (o + 2 + K))
  | 6 => .inr (vR (o + 3 + K))
  | 7 => .inr (vR (o + 4 + K))
  | 8 => .inr (vR (o + 5 + 2 * K))
  | 9 => .inr (vR (o + 6 + 3 * K))
  | 10 => .inr (vR (o + 7 + 3 * K))
  | _ => .inl 0
/-- the object, draft and seen -/
def bx_0 (m : Nat) (F : aq_F) (o n K : Nat) : Prop := o + 8 + 3 * K ≤ m ∧ 1 ≤ n ∧ n ≤ 4 ∧ K ≤ 105 ∧ F o = (10, 11, bx_t o n K) ∧ F (o + 6 + 3 * K) = (0, 2 * n, fun _ => .inl 0) ∧ F (o + 7 + 3 * K) = (1, 2 * n, fun _ => .inl 0)
/-- partners, each row a table -/
def bx_p (F : aq_F) (o n K : Nat) (tP : Int → Int → Int) : Prop := F (o + 1) = (3, K, fun j => .inr (vR (o + 2 + j))) ∧ (∀ b, b < K → F (o + 2 + b) = (0, 2 * n, fun j => .inr (vI (tP (b : Int) (j : Int))))) ∧ ∀ b p : Int, 0 ≤ b → b < K → 0 ≤ p → p < 2 * (n : Int) → 0 ≤ tP b p ∧ tP b p < 2 * (n : Int)
