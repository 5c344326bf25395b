/-! The reference's sums: kept over a call. -/
theorem mo_Iq {S : Nat → Prop} {y : Nat} {c d : aq_C} (hI : mo_I y c) (hs : aq_sm S c d) (hk : mo_q y c d) (h5 : ¬ S (y + 5)) (h6 : ¬ S (y + 6)) (h7 : ¬ S (y + 7)) (h9 : ¬ S (y + 9)) (h10 : ¬ S (y + 10)) : mo_I y d :=
  ⟨mo_rc hk.1 hk.2 (hs _ h10) hI.1, fun s s0 s1 => mo_uc (hs _ h5 s) (hs _ h6 s) (fun k _ _ => hs _ h7 _) (fun k _ _ => hs _ h9 _) (hI.2 s s0 s1)⟩
theorem mo_Iw {y : Nat} {c d : aq_C} (hI : mo_I y c) (hs : aq_sm (mo_S y) c d) (hk : mo_q y c d) : mo_I y d := by
  refine mo_Iq hI hs hk ?_ ?_ ?_ ?_ ?_ <;> (unfold mo_S; omega)
theorem mo_S3 {y a : Nat} (h : a = y ∨ a = y + 15 ∨ a = y + 16 ∨ a = y + 17) : mo_S y a := by
  unfold mo_S
  omega
/-- what store leaves -/
theorem mo_Ist {y : Nat} {s n : Int} {c d : aq_C} (hI : mo_I y c) (hR : mo_R y (bx_K n) c) (hn1 : 1 ≤ n) (hn4 : n ≤ 4) (hs : aq_sm (fun a => y + 5 ≤ a ∧ a ≤ y + 9) c d) (h5 : ∀ i, d (y + 5) i = if i = s then n else c (y + 5) i) (h6 : ∀ i, d (y + 6) i = if i = s then c y 17 else c (y + 6) i) (h7 : ∀ i, (∀ j, 0 ≤ j → j < 40 → i ≠ 40 * s + j) → d (y + 7) i = c (y + 7) i) (h9 : ∀ i, (∀ j, 0 ≤ j → j < 40 → i ≠ 40 * s + j) → d (y + 9) i = c (y + 9) i) (h7k : ∀ j, 0 ≤ j → j < c y 17 → d (y + 7) (40 * s + j) = c (y + 15) j) (h9k : ∀ j, 0 ≤ j → j < c y 17 → d (y + 9) (40 * s + j) = c (y + 17) j) : mo_I y d := by
  have hr1 := hR.1
  have hr2 := hR.2.1
  refine ⟨mo_rc (hs _ (by omega) _) (hs _ (by omega) _) (fun i => hs _ (by omega) i) hI.1, fun t t0 t1 => ?_⟩
  by_cases e : t = s
  · subst e
    have e5 := h5 t
    have e6 := h6 t
    rw [if_pos rfl] at e5 e6
    refine ⟨by omega, by omega, by omega, by omega, fun k k0 k1 => ?_⟩
    rw [h7k k k0 (by omega), h9k k k0 (by omega), e5]
    exact hR.2.2 k k0 (by omega)
  · refine mo_uc (by rw [h5, if_neg e]) (by rw [h6, if_neg e]) (fun k k0 k1 => h7 _ (fun j j0 j1 => by omega)) (fun k k0 k1 => h9 _ (fun j j0 j1 => by omega)) (hI.2 t t0 t1)
