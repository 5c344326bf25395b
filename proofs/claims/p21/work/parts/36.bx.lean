/-! The shape of an object of Boxes with n strands and K boxes, at o: its arrays lie behind it in the order in which they are made. -/
def bx_t (o n K : Nat) : Nat → aq_T := fun y => match y with
  | 0 => .inr (vI (n : Int))
  | 1 => .inr (vI (2 * (n : Int)))
  | 2 => .inr (vI (2 * (n : Int) - 2))
  | 3 => .inr (vI (K : Int))
  | 4 => .inr (vR (o + 1))
  | 5 => .inr (vR (o + 2 + K))
  | 6 => .inr (vR (o + 3 + K))
  | 7 => .inr (vR (o + 4 + K))
  | 8 => .inr (vR (o + 5 + 2 * K))
  | 9 => .inr (vR (o + 6 + 3 * K))
  | 10 => .inr (vR (o + 7 + 3 * K))
  | _ => .inl 0
/-- the object, draft and seen -/
def bx_0 (m : Nat) (F : aq_F) (o n K : Nat) : Prop := o + 8 + 3 * K ≤ m ∧ 1 ≤ n ∧ n ≤ 4 ∧ K ≤ 105 ∧ F o = (10, 11, bx_t o n K) ∧ F (o + 6 + 3 * K) = (0, 2 * n, fun _ => .inl 0) ∧ F (o + 7 + 3 * K) = (1, 2 * n, fun _ => .inl 0)
/-- partners, each row a table -/
def bx_p (F : aq_F) (o n K : Nat) (tP : Int → Int → Int) : Prop := F (o + 1) = (3, K, fun j => aq_g K j (o + 2 + j)) ∧ (∀ b, b < K → F (o + 2 + b) = (0, 2 * n, fun j => .inr (vI (tP (b : Int) (j : Int))))) ∧ ∀ b p : Int, 0 ≤ b → b < K → 0 ≤ p → p < 2 * (n : Int) → 0 ≤ tP b p ∧ tP b p < 2 * (n : Int) ∧ tP b p = prt (n : Int) b p
/-- lengths, spellings, beneath -/
def bx_w (F : aq_F) (o n K : Nat) (tL : Int → Int) (tG tN : Int → Int → Int) : Prop := F (o + 3 + K) = (0, K, fun j => .inr (vI (tL (j : Int)))) ∧ F (o + 4 + K) = (3, K, fun j => aq_g K j (o + 5 + K + j)) ∧ (∀ b, b < K → F (o + 5 + K + b) = (0, 6, fun j => .inr (vI (tG (b : Int) (j : Int))))) ∧ F (o + 5 + 2 * K) = (3, K, fun j => aq_g K j (o + 6 + 2 * K + j)) ∧ (∀ b, b < K → F (o + 6 + 2 * K + b) = (0, 2 * n - 2, fun j => .inr (vI (tN (b : Int) (j : Int))))) ∧
  (∀ b : Int, 0 ≤ b → b < K → -1 ≤ tL b ∧ tL b ≤ 6) ∧ (∀ b i : Int, 0 ≤ b → b < K → 0 ≤ i → i < tL b → 0 ≤ tG b i ∧ tG b i < 2 * (n : Int) - 2) ∧ ∀ b k : Int, 0 ≤ b → b < K → 0 ≤ k → k < 2 * (n : Int) - 2 → 0 ≤ tN b k ∧ tN b k < 5000 ∧ tN b k % 1000 < (K : Int)
/-- rings -/
def bx_r (F : aq_F) (o K : Nat) (tR : Int → Int) : Prop := F (o + 2 + K) = (0, K, fun j => .inr (vI (tR (j : Int)))) ∧ ∀ b : Int, 0 ≤ b → b < K → 0 ≤ tR b ∧ tR b ≤ 8
theorem am_and15 (x : Int) : 0 ≤ am_and x 15 ∧ am_and x 15 < 16 := by
  unfold am_and
  have h1 : (Int32.ofInt x &&& Int32.ofInt 15).toInt = ((Int32.ofInt x).toBitVec &&& (Int32.ofInt 15).toBitVec).toInt := by
    rw [← Int32.toBitVec_and]
    rfl
  rw [h1]
  have h2 : (Int32.ofInt 15).toBitVec = 15#32 := by decide
  rw [h2]
  have h3 : ((Int32.ofInt x).toBitVec &&& 15#32).toNat ≤ 15 := by
    rw [BitVec.toNat_and]
    exact Nat.and_le_right
  rw [BitVec.toInt_eq_toNat_cond]
  split <;> omega
theorem am_rem_s {x y : Int} (h : y ≠ 0) : am_rem x y = some (x.tmod y) := by
  unfold am_rem
  rw [if_neg h]
theorem am_div_s {x y : Int} (h : y ≠ 0) : am_div x y = some (am_w (x.tdiv y)) := by
  unfold am_div
  rw [if_neg h]
theorem am_divl_s {x y : Int} (h : y ≠ 0) : am_divl x y = some (am_wl (x.tdiv y)) := by
  unfold am_divl
  rw [if_neg h]
theorem am_rem_e {x y : Int} (h : 0 ≤ x) (hy : 0 < y) : am_rem x y = some (x % y) := by
  rw [am_rem_s (by omega), Int.tmod_eq_emod_of_nonneg h]
theorem am_div_e {x y : Int} (h : 0 ≤ x) (hx : x < 2147483648) (hy : 0 < y) : am_div x y = some (x / y) := by
  rw [am_div_s (by omega), Int.tdiv_eq_ediv_of_nonneg h, am_w_id]
  have h1 : 0 ≤ x / y := Int.ediv_nonneg h (by omega)
  have h2 : x / y ≤ x := Int.ediv_le_self y h
  exact am_ri (by omega) (by omega)
