/-! The reference's decode: what it does, on plain numbers. -/
/-- the first free point from p on -/
def dc_p (w : Int → Int) : Nat → Int → Int
  | 0, p => p
  | d + 1, p => if w p = 0 then p else dc_p w d (p + 1)
/-- the partner: as many free points are passed over as ch tells -/
def dc_q (w : Int → Int) : Nat → Int → Int → Int
  | 0, _, q => q
  | d + 1, ch, q => if w q = 0 ∧ ch ≤ 0 then q else dc_q w d (ch - if w q = 0 then 1 else 0) (q + 1)
def dc_u (w : Int → Int) (p : Int) : Int → Int := fun i => if i = p then 1 else w i
/-- does a search end, inside the eight points? -/
def dc_pb (w : Int → Int) : Nat → Int → Bool
  | 0, _ => false
  | d + 1, p => decide (p < 8) && (decide (w p = 0) || dc_pb w d (p + 1))
def dc_qb (w : Int → Int) : Nat → Int → Int → Bool
  | 0, _, _ => false
  | d + 1, ch, q => decide (q < 8) && (decide (w q = 0 ∧ ch ≤ 0) || dc_qb w d (ch - if w q = 0 then 1 else 0) (q + 1))
/-- decode goes well, and finds the pairs of prt -/
def dc_b (n b : Int) : Nat → Int → Int → Int → (Int → Int) → Bool
  | 0, _, _, _, _ => false
  | d + 1, many, left, ways, w => if many ≤ 0 then (List.range (2 * n).toNat).all (fun i => decide (w (i : Int) = 1)) else
    decide (1 ≤ ways / (many - 1)) && dc_pb w 9 0 && dc_qb (dc_u w (dc_p w 9 0)) 9 (left / (ways / (many - 1))) (dc_p w 9 0 + 1) &&
    decide (dc_p w 9 0 < 2 * n) && decide (dc_q (dc_u w (dc_p w 9 0)) 9 (left / (ways / (many - 1))) (dc_p w 9 0 + 1) < 2 * n) &&
    decide (prt n b (dc_p w 9 0) = dc_q (dc_u w (dc_p w 9 0)) 9 (left / (ways / (many - 1))) (dc_p w 9 0 + 1)) &&
    decide (prt n b (dc_q (dc_u w (dc_p w 9 0)) 9 (left / (ways / (many - 1))) (dc_p w 9 0 + 1)) = dc_p w 9 0) &&
    dc_b n b d (many - 2) (left % (ways / (many - 1))) (ways / (many - 1)) (dc_u (dc_u w (dc_p w 9 0)) (dc_q (dc_u w (dc_p w 9 0)) 9 (left / (ways / (many - 1))) (dc_p w 9 0 + 1)))
theorem dc_1 : ∀ b : Nat, b < 1 → dc_b 1 b 5 2 b 1 (fun _ => 0) = true := by decide +kernel
theorem dc_2 : ∀ b : Nat, b < 3 → dc_b 2 b 5 4 b 3 (fun _ => 0) = true := by decide +kernel
theorem dc_3 : ∀ b : Nat, b < 15 → dc_b 3 b 5 6 b 15 (fun _ => 0) = true := by decide +kernel
theorem dc_4 : ∀ b : Nat, b < 105 → dc_b 4 b 5 8 b 105 (fun _ => 0) = true := by decide +kernel
theorem dc_n {n b : Int} (h1 : 1 ≤ n) (h4 : n ≤ 4) (h0 : 0 ≤ b) (hb : b < bx_K n) : dc_b n b 5 (2 * n) b (bx_K n) (fun _ => 0) = true := by
  have h : n = 1 ∨ n = 2 ∨ n = 3 ∨ n = 4 := by omega
  have eb : ((b.toNat : Nat) : Int) = b := Int.toNat_of_nonneg h0
  rcases h with h | h | h | h <;> subst h
  · have hk : bx_K 1 = 1 := rfl
    have := dc_1 b.toNat (by omega)
    rw [eb] at this
    exact this
  · have hk : bx_K 2 = 3 := rfl
    have := dc_2 b.toNat (by omega)
    rw [eb] at this
    exact this
  · have hk : bx_K 3 = 15 := rfl
    have := dc_3 b.toNat (by omega)
    rw [eb] at this
    exact this
  · have hk : bx_K 4 = 105 := rfl
    have := dc_4 b.toNat (by omega)
    rw [eb] at this
    exact this
theorem dc_pr {w : Int → Int} : ∀ (d : Nat) (p : Int), dc_pb w d p = true → p ≤ dc_p w d p ∧ dc_p w d p < 8 ∧ w (dc_p w d p) = 0
  | 0, p, h => by cases h
  | d + 1, p, h => by
    rw [dc_pb, Bool.and_eq_true, Bool.or_eq_true] at h
    obtain ⟨h1, h2⟩ := h
    have h1 := of_decide_eq_true h1
    rw [dc_p]
    by_cases e : w p = 0
    · rw [if_pos e]
      exact ⟨Int.le_refl p, h1, e⟩
    · rw [if_neg e]
      rcases h2 with h2 | h2
      · exact absurd (of_decide_eq_true h2) e
      · have := dc_pr d (p + 1) h2
        exact ⟨by omega, this.2.1, this.2.2⟩
theorem dc_qr {w : Int → Int} : ∀ (d : Nat) (ch q : Int), dc_qb w d ch q = true → q ≤ dc_q w d ch q ∧ dc_q w d ch q < 8
  | 0, ch, q, h => by cases h
  | d + 1, ch, q, h => by
    rw [dc_qb, Bool.and_eq_true, Bool.or_eq_true] at h
    obtain ⟨h1, h2⟩ := h
    have h1 := of_decide_eq_true h1
    rw [dc_q]
    by_cases e : w q = 0 ∧ ch ≤ 0
    · rw [if_pos e]
      exact ⟨Int.le_refl q, h1⟩
    · rw [if_neg e]
      rcases h2 with h2 | h2
      · exact absurd (of_decide_eq_true h2) e
      · have := dc_qr d _ (q + 1) h2
        exact ⟨by omega, this.2⟩
