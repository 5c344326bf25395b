/-! The reference: its shape, and what holds of its contents between public calls. -/
def mo_L (F : aq_F) (y : Nat) : Prop := ∃ (tA tB tD : Int → Int), F (y + 2) = (0, 124, fun j => .inr (vI (tA (j : Int)))) ∧ F (y + 3) = (0, 124, fun j => .inr (vI (tB (j : Int)))) ∧ F (y + 4) = (0, 124, fun j => .inr (vI (tD (j : Int)))) ∧ ∀ n b : Int, 1 ≤ n → n ≤ 4 → 0 ≤ b → b < bx_K n → 0 ≤ tB (mo_f n + b) ∧ tB (mo_f n + b) < bx_K n ∧ -10 ≤ tD (mo_f n + b) ∧ tD (mo_f n + b) ≤ 124
def mo_C (m : Nat) (F : aq_F) (y : Nat) : Prop := mo_0 m F y ∧ (∃ tbl, mo_T F y tbl) ∧ mo_L F y
def mo_u (y : Nat) (s : Int) (c : aq_C) : Prop := 1 ≤ c (y + 5) s ∧ c (y + 5) s ≤ 4 ∧ 0 ≤ c (y + 6) s ∧ c (y + 6) s ≤ 40 ∧ ∀ k, 0 ≤ k → k < c (y + 6) s → 0 ≤ c (y + 7) (40 * s + k) ∧ c (y + 7) (40 * s + k) < bx_K (c (y + 5) s) ∧ c (y + 9) (40 * s + k) ≠ 0 ∧ -1000000000000 ≤ c (y + 9) (40 * s + k) ∧ c (y + 9) (40 * s + k) ≤ 1000000000000
def mo_r (y : Nat) (c : aq_C) : Prop := 2 ≤ c y 9 ∧ c y 9 ≤ 4 ∧ 0 ≤ c y 10 ∧ c y 10 ≤ 8 ∧ ∀ i, 0 ≤ i → i < c y 10 → c (y + 10) i ≠ 0 ∧ -(c y 9) < c (y + 10) i ∧ c (y + 10) i < c y 9
def mo_I (y : Nat) (c : aq_C) : Prop := mo_r y c ∧ ∀ s, 0 ≤ s → s < 8 → mo_u y s c
theorem mo_rc {y : Nat} {c d : aq_C} (h9 : d y 9 = c y 9) (h10 : d y 10 = c y 10) (h : ∀ i, d (y + 10) i = c (y + 10) i) (hr : mo_r y c) : mo_r y d := by
  unfold mo_r at *
  rw [h9, h10]
  simp only [h]
  exact hr
theorem mo_uc {y : Nat} {s : Int} {c d : aq_C} (h5 : d (y + 5) s = c (y + 5) s) (h6 : d (y + 6) s = c (y + 6) s) (h7 : ∀ k, 0 ≤ k → k < 40 → d (y + 7) (40 * s + k) = c (y + 7) (40 * s + k)) (h9 : ∀ k, 0 ≤ k → k < 40 → d (y + 9) (40 * s + k) = c (y + 9) (40 * s + k)) (hu : mo_u y s c) : mo_u y s d := by
  obtain ⟨u1, u2, u3, u4, u5⟩ := hu
  refine ⟨by omega, by omega, by omega, by omega, fun k k0 k1 => ?_⟩
  rw [h7 k k0 (by omega), h9 k k0 (by omega), h5]
  exact u5 k k0 (by omega)
theorem mo_Is {S : Nat → Prop} {y : Nat} {c d : aq_C} (hI : mo_I y c) (hs : aq_sm S c d) (hk : mo_k y c d) (h5 : ¬ S (y + 5)) (h6 : ¬ S (y + 6)) (h7 : ¬ S (y + 7)) (h9 : ¬ S (y + 9)) (h10 : ¬ S (y + 10)) : mo_I y d :=
  ⟨mo_rc hk.1 hk.2.1 (hs _ h10) hI.1, fun s s0 s1 => mo_uc (hs _ h5 s) (hs _ h6 s) (fun k _ _ => hs _ h7 _) (fun k _ _ => hs _ h9 _) (hI.2 s s0 s1)⟩
/-- cells that a call writes on for itself -/
def mo_S (y : Nat) (a : Nat) : Prop := a = y ∨ (y + 11 ≤ a ∧ a < y + 24)
theorem mo_Ik {y : Nat} {c d : aq_C} (hI : mo_I y c) (hs : aq_sm (mo_S y) c d) (hk : mo_k y c d) : mo_I y d := by
  refine mo_Is hI hs hk ?_ ?_ ?_ ?_ ?_ <;> (unfold mo_S; omega)
theorem mo_Sk {y k : Nat} (h : 11 ≤ k) (h2 : k < 24) : mo_S y (y + k) := Or.inr ⟨by omega, by omega⟩
theorem mo_S0 {y : Nat} : mo_S y y := Or.inl rfl
theorem mo_Sa {y a : Nat} (h : mo_S y a) : y ≤ a ∧ a < y + 24 := by
  unfold mo_S at h
  omega
theorem am_andl15 (x : Int) : 0 ≤ am_andl x 15 ∧ am_andl x 15 < 16 := by
  unfold am_andl
  have h1 : (Int64.ofInt x &&& Int64.ofInt 15).toInt = ((Int64.ofInt x).toBitVec &&& (Int64.ofInt 15).toBitVec).toInt := by
    rw [← Int64.toBitVec_and]
    rfl
  rw [h1]
  have h2 : (Int64.ofInt 15).toBitVec = 15#64 := by decide
  rw [h2]
  have h3 : ((Int64.ofInt x).toBitVec &&& 15#64).toNat ≤ 15 := by
    rw [BitVec.toNat_and]
    exact Nat.and_le_right
  rw [BitVec.toInt_eq_toNat_cond]
  split <;> omega
