/-! numberOf gives a pairing its place in the list. -/
theorem nu_1 : ∀ b : Nat, b < 1 → nu_o (prt 1 b) (2 * 1) 9 0 0 (2 * 1 - 1) = b := by decide +kernel
theorem nu_2 : ∀ b : Nat, b < 3 → nu_o (prt 2 b) (2 * 2) 9 0 0 (2 * 2 - 1) = b := by decide +kernel
theorem nu_3 : ∀ b : Nat, b < 15 → nu_o (prt 3 b) (2 * 3) 9 0 0 (2 * 3 - 1) = b := by decide +kernel
theorem nu_4 : ∀ b : Nat, b < 105 → nu_o (prt 4 b) (2 * 4) 9 0 0 (2 * 4 - 1) = b := by decide +kernel
theorem nu_b {n b : Int} (h1 : 1 ≤ n) (h4 : n ≤ 4) (h0 : 0 ≤ b) (hb : b < bx_K n) : nu_o (prt n b) (2 * n) 9 0 0 (2 * n - 1) = b := by
  have h : n = 1 ∨ n = 2 ∨ n = 3 ∨ n = 4 := by omega
  have eb : ((b.toNat : Nat) : Int) = b := Int.toNat_of_nonneg h0
  rcases h with h | h | h | h <;> subst h
  · have hk : bx_K 1 = 1 := rfl
    have := nu_1 b.toNat (by omega)
    rw [eb] at this
    exact this
  · have hk : bx_K 2 = 3 := rfl
    have := nu_2 b.toNat (by omega)
    rw [eb] at this
    exact this
  · have hk : bx_K 3 = 15 := rfl
    have := nu_3 b.toNat (by omega)
    rw [eb] at this
    exact this
  · have hk : bx_K 4 = 105 := rfl
    have := nu_4 b.toNat (by omega)
    rw [eb] at this
    exact this
theorem nu_fi {n : Int} {f : Int → Int} (h1 : 1 ≤ n) (h4 : n ≤ 4) (hf : fi n f) : 0 ≤ nu_o f (2 * n) 9 0 0 (2 * n - 1) ∧ nu_o f (2 * n) 9 0 0 (2 * n - 1) < bx_K n := by
  obtain ⟨b, b0, b1, b2⟩ := pr_c h1 h4 hf
  have e := nu_oc (N := 2 * n) b2 (fun i k0 k1 => by have := pr_fi h1 h4 b0 b1 i k0 k1; omega) 9 0 0 (2 * n - 1) (by omega)
  rw [← e, nu_b h1 h4 b0 b1]
  exact ⟨b0, b1⟩
theorem ldr_le {n : Int} {f g : Int → Int} : ∀ (d k : Nat) (u : Bool) (p : Int), exd n f g d u p → ldr n f g (d + k) u p = ldr n f g d u p
  | 0, k, u, p, h => h.elim
  | d + 1, k, true, p, h => by
    rw [show d + 1 + k = (d + k) + 1 by omega, ldr, ldr]
    by_cases e : n ≤ f p
    · rw [if_pos e, if_pos e, ldr_le d k false _ (h e)]
    · rw [if_neg e, if_neg e]
  | d + 1, k, false, p, h => by
    rw [show d + 1 + k = (d + k) + 1 by omega, ldr, ldr]
    by_cases e : g p < n
    · rw [if_pos e, if_pos e, ldr_le d k true _ (h e)]
    · rw [if_neg e, if_neg e]
/-- one strand: two steps are enough -/
theorem ld_ex1 {f g : Int → Int} (hf : fi 1 f) (hg : fi 1 g) {p : Int} (h0 : 0 ≤ p) (h1 : p < 2) : exd 1 f g 3 (decide (p < 1)) p := by
  have a := hf 0 (by omega) (by omega)
  have b := hf 1 (by omega) (by omega)
  have c := hg 0 (by omega) (by omega)
  have d := hg 1 (by omega) (by omega)
  have e : p = 0 ∨ p = 1 := by omega
  rcases e with e | e <;> subst e
  · intro k1
    intro k2
    have e1 : f 0 = 1 := by omega
    rw [e1] at k2
    exfalso
    have : (1 : Int) - 1 = 0 := rfl
    rw [this] at k2
    omega
  · intro k1
    intro k2
    have e1 : g 1 = 0 := by omega
    rw [e1] at k2
    exfalso
    have : (1 : Int) + 0 = 1 := rfl
    rw [this] at k2
    omega
