/-! Numbers modulo a prime. -/
theorem nm_bz : ∀ a b : Nat, ∃ x y : Int, (a : Int) * x + (b : Int) * y = ((Nat.gcd a b : Nat) : Int) := by
  intro a b
  induction a, b using Nat.gcd.induction with
  | H0 n => exact ⟨0, 1, by simp⟩
  | H1 m n hm ih =>
    obtain ⟨x, y, h⟩ := ih
    refine ⟨y - ((n / m : Nat) : Int) * x, x, ?_⟩
    rw [Nat.gcd_rec, ← h]
    have e : (n : Int) = (m : Int) * ((n / m : Nat) : Int) + ((n % m : Nat) : Int) := by
      have := Nat.div_add_mod n m
      rw [← Int.natCast_mul, ← Int.natCast_add, this]
    generalize ((n / m : Nat) : Int) = q at *
    generalize ((n % m : Nat) : Int) = r at *
    rw [e]
    rw [Int.mul_sub, Int.add_mul]
    have e2 : (m : Int) * (q * x) = (m : Int) * q * x := by rw [Int.mul_assoc]
    omega
theorem nm_cop {v p : Nat} (hv0 : 1 ≤ v) (hvp : v < p) (hp : ∀ e, 2 ≤ e → e * e ≤ p → p % e ≠ 0) : Nat.gcd v p = 1 := by
  have h1 : Nat.gcd v p ∣ v := Nat.gcd_dvd_left v p
  have h2 : Nat.gcd v p ∣ p := Nat.gcd_dvd_right v p
  have h3 : 0 < Nat.gcd v p := Nat.gcd_pos_of_pos_left p hv0
  have h4 : Nat.gcd v p ≤ v := Nat.le_of_dvd hv0 h1
  generalize Nat.gcd v p = g at *
  by_cases hg : g = 1
  · exact hg
  · exfalso
    obtain ⟨h, e⟩ := h2
    have hh : 2 ≤ h := by
      by_cases h0 : h = 0
      · rw [h0] at e
        omega
      · by_cases h5 : h = 1
        · rw [h5] at e
          omega
        · omega
    by_cases h6 : g ≤ h
    · refine hp g (by omega) ?_ ?_
      · rw [e]
        exact Nat.mul_le_mul_left g h6
      · rw [e]
        exact Nat.mul_mod_right g h
    · refine hp h hh ?_ ?_
      · rw [e]
        exact Nat.mul_le_mul_right h (by omega)
      · rw [e]
        exact Nat.mul_mod_left g h
/-- p has no divisor up to its root -/
def nm_P (p : Int) : Prop := ∀ e : Int, 2 ≤ e → e * e ≤ p → p % e ≠ 0
theorem nm_inv {v p : Int} (hv0 : 1 ≤ v) (hvp : v < p) (hp : nm_P p) : ∃ w, 1 ≤ w ∧ w < p ∧ (v * w) % p = 1 := by
  have hc : Nat.gcd v.toNat p.toNat = 1 := by
    refine nm_cop (by omega) (by omega) (fun e he h1 h2 => ?_)
    refine hp (e : Int) (by omega) ?_ ?_
    · rw [← Int.natCast_mul]
      omega
    · have : p = ((p.toNat : Nat) : Int) := by omega
      rw [this, ← Int.natCast_emod, h2]
      rfl
  obtain ⟨x, z, h⟩ := nm_bz v.toNat p.toNat
  rw [hc, Int.toNat_of_nonneg (by omega), Int.toNat_of_nonneg (by omega)] at h
  have h5 : (v * (x % p)) % p = 1 := by
    rw [Int.mul_emod, Int.emod_emod_of_dvd _ (Int.dvd_refl p), ← Int.mul_emod]
    have e : v * x = 1 + p * (-z) := by
      rw [Int.mul_neg]
      have : ((1 : Nat) : Int) = 1 := rfl
      omega
    rw [e, Int.add_mul_emod_self_left]
    exact Int.emod_eq_of_lt (by omega) (by omega)
  have h6 : 0 ≤ x % p := Int.emod_nonneg x (by omega)
  have h7 : x % p < p := Int.emod_lt_of_pos x (by omega)
  refine ⟨x % p, ?_, h7, h5⟩
  by_cases h8 : x % p = 0
  · rw [h8, Int.mul_zero, Int.zero_emod] at h5
    exact absurd h5 (by decide)
  · omega
theorem nm_mul {a b : Int} (h0 : 0 ≤ a) (h1 : a < 1000) (h2 : 0 ≤ b) (h3 : b < 1000) : 0 ≤ a * b ∧ a * b ≤ 998001 := by
  refine ⟨Int.mul_nonneg h0 h2, ?_⟩
  exact Int.mul_le_mul (show a ≤ 999 by omega) (show b ≤ 999 by omega) h2 (by decide)
