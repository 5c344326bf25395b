/-! Boxes.listPairings on plain numbers. -/
/-- what each pair passes over, in box b -/
def dgm (n b k : Int) : Int := if n = 4 then (if k = 0 then b / 15 else if k = 1 then b / 3 % 5 else if k = 2 then b % 3 else 0) else if n = 3 then (if k = 0 then b / 3 else if k = 1 then b % 3 else 0) else if n = 2 then (if k = 0 then b else 0) else 0
theorem cu_2 : ∀ b : Nat, b < 2 → ∀ k : Nat, k < 2 → cu_ 2 6 (2 - 1) (dgm 2 b) k = dgm 2 (b + 1) k := by decide +kernel
theorem cu_3 : ∀ b : Nat, b < 14 → ∀ k : Nat, k < 3 → cu_ 3 6 (3 - 1) (dgm 3 b) k = dgm 3 (b + 1) k := by decide +kernel
theorem cu_4 : ∀ b : Nat, b < 104 → ∀ k : Nat, k < 4 → cu_ 4 6 (4 - 1) (dgm 4 b) k = dgm 4 (b + 1) k := by decide +kernel
theorem cu_n {n b k : Int} (h1 : 1 ≤ n) (h4 : n ≤ 4) (h0 : 0 ≤ b) (hb : b + 1 < bx_K n) (hk0 : 0 ≤ k) (hk : k < n) : cu_ n 6 (n - 1) (dgm n b) k = dgm n (b + 1) k := by
  have h : n = 1 ∨ n = 2 ∨ n = 3 ∨ n = 4 := by omega
  have eb : ((b.toNat : Nat) : Int) = b := Int.toNat_of_nonneg h0
  have ek : ((k.toNat : Nat) : Int) = k := Int.toNat_of_nonneg hk0
  rcases h with h | h | h | h <;> subst h
  · have hk9 : bx_K 1 = 1 := rfl
    omega
  · have hk9 : bx_K 2 = 3 := rfl
    have := cu_2 b.toNat (by omega) k.toNat (by omega)
    rw [eb, ek] at this
    exact this
  · have hk9 : bx_K 3 = 15 := rfl
    have := cu_3 b.toNat (by omega) k.toNat (by omega)
    rw [eb, ek] at this
    exact this
  · have hk9 : bx_K 4 = 105 := rfl
    have := cu_4 b.toNat (by omega) k.toNat (by omega)
    rw [eb, ek] at this
    exact this
theorem dgm_r {n b k : Int} (h1 : 1 ≤ n) (h4 : n ≤ 4) (h0 : 0 ≤ b) (hb : b < bx_K n) : 0 ≤ dgm n b k ∧ dgm n b k ≤ 100 := by
  have h : n = 1 ∨ n = 2 ∨ n = 3 ∨ n = 4 := by omega
  rcases h with h | h | h | h <;> subst h
  · have hk9 : bx_K 1 = 1 := rfl
    have e : dgm 1 b k = 0 := rfl
    omega
  · have hk9 : bx_K 2 = 3 := rfl
    simp only [dgm]
    (repeat' split) <;> omega
  · have hk9 : bx_K 3 = 15 := rfl
    simp only [dgm]
    (repeat' split) <;> omega
  · have hk9 : bx_K 4 = 105 := rfl
    simp only [dgm]
    (repeat' split) <;> omega
/-- pairBy goes well, and finds the pairs of prt -/
def pb_b (n b : Int) : Nat → Int → Int → (Int → Int) → Bool
  | 0, _, _, _ => false
  | d + 1, k, p, w => if p < 2 * n - 1 ∧ k < n then (if w p = 0 then
      (decide (prt n b p = fb_ (2 * n) w 9 (dgm n b k) (p + 1)) && decide (prt n b (fb_ (2 * n) w 9 (dgm n b k) (p + 1)) = p) && pb_b n b d (k + 1) (p + 1) (dc_u (dc_u w p) (fb_ (2 * n) w 9 (dgm n b k) (p + 1))))
    else pb_b n b d k (p + 1) w) else (List.range (2 * n).toNat).all (fun i => decide (w (i : Int) = 1))
theorem pb_1 : ∀ b : Nat, b < 1 → pb_b 1 b 9 0 0 (fun _ => 0) = true := by decide +kernel
theorem pb_2 : ∀ b : Nat, b < 3 → pb_b 2 b 9 0 0 (fun _ => 0) = true := by decide +kernel
theorem pb_3 : ∀ b : Nat, b < 15 → pb_b 3 b 9 0 0 (fun _ => 0) = true := by decide +kernel
theorem pb_4 : ∀ b : Nat, b < 105 → pb_b 4 b 9 0 0 (fun _ => 0) = true := by decide +kernel
theorem pb_n {n b : Int} (h1 : 1 ≤ n) (h4 : n ≤ 4) (h0 : 0 ≤ b) (hb : b < bx_K n) : pb_b n b 9 0 0 (fun _ => 0) = true := by
  have h : n = 1 ∨ n = 2 ∨ n = 3 ∨ n = 4 := by omega
  have eb : ((b.toNat : Nat) : Int) = b := Int.toNat_of_nonneg h0
  rcases h with h | h | h | h <;> subst h
  · have hk : bx_K 1 = 1 := rfl
    have := pb_1 b.toNat (by omega)
    rw [eb] at this
    exact this
  · have hk : bx_K 2 = 3 := rfl
    have := pb_2 b.toNat (by omega)
    rw [eb] at this
    exact this
  · have hk : bx_K 3 = 15 := rfl
    have := pb_3 b.toNat (by omega)
    rw [eb] at this
    exact this
  · have hk : bx_K 4 = 105 := rfl
    have := pb_4 b.toNat (by omega)
    rw [eb] at this
    exact this
