/-! Pairings: from beneath; together they are a pairing. -/
section FI
variable {n : Int} {f g : Int → Int}
theorem fi_l (hn : n ≤ 4) (hf : fi n f) (hg : fi n g) {p : Int} (h0 : n ≤ p) (h1 : p < 2 * n) : 0 ≤ fst_ n f g p ∧ fst_ n f g p < 2 * n ∧ fst_ n f g p ≠ p ∧ fst_ n f g (fst_ n f g p) = p := by
  have hx := ld_exl hn hf hg h0 h1
  have e0 : fst_ n f g p = ldr n f g 5 false p := by
    unfold fst_
    rw [decide_eq_false (show ¬ p < n by omega)]
  rw [e0]
  have a1 := hg p (by omega) (by omega)
  simp only [ldr, exd] at hx ⊢
  by_cases k1 : g p < n
  · simp only [if_pos k1]
    have hx1 := hx k1
    generalize ea : g p = a at *
    have b1 := hf (n + a) (by omega) (by omega)
    by_cases k2 : n ≤ f (n + a)
    · simp only [if_pos k2]
      have hx2 := hx1 k2
      generalize eb : f (n + a) = b at *
      have c1 := hg (b - n) (by omega) (by omega)
      by_cases k3 : g (b - n) < n
      · simp only [if_pos k3]
        have hx3 := hx2 k3
        generalize ec : g (b - n) = c at *
        have d1 := hf (n + c) (by omega) (by omega)
        by_cases k4 : n ≤ f (n + c)
        · simp only [if_pos k4]
          have hx4 := hx3 k4
          generalize ed : f (n + c) = d at *
          have e1 := hg (d - n) (by omega) (by omega)
          by_cases k5 : g (d - n) < n
          · exact absurd k5 hx4
          · simp only [if_neg k5]
            generalize ee : g (d - n) = e at *
            obtain ⟨_, _, a3, a4⟩ := a1
            obtain ⟨_, _, b3, b4⟩ := b1
            obtain ⟨_, _, c3, c4⟩ := c1
            obtain ⟨_, _, d3, d4⟩ := d1
            obtain ⟨_, _, e3, e4⟩ := e1
            have x1 : c ≠ a := fun h => by rw [h, a4] at c4; omega
            have x3 : d - n ≠ a := fun h => by
              have h9 : d = n + a := by omega
              rw [h9, eb] at d4
              omega
            refine ⟨by omega, by omega, fun h => ?_, ?_⟩
            · rw [h, ea] at e4
              omega
            · unfold fst_
              rw [decide_eq_false (show ¬ e < n by omega)]
              simp only [ldr, e4, if_pos (show d - n < n by omega), show n + (d - n) = d by omega, d4, if_pos (show n ≤ n + c by omega), show n + c - n = c by omega, c4, if_pos (show b - n < n by omega), show n + (b - n) = b by omega, b4, if_pos (show n ≤ n + a by omega), show n + a - n = a by omega, a4, if_neg (show ¬ p < n by omega)]
        · simp only [if_neg k4]
          generalize ed : f (n + c) = d at *
          obtain ⟨_, _, a3, a4⟩ := a1
          obtain ⟨_, _, b3, b4⟩ := b1
          obtain ⟨_, _, c3, c4⟩ := c1
          obtain ⟨_, _, d3, d4⟩ := d1
          refine ⟨by omega, by omega, by omega, ?_⟩
          unfold fst_
          rw [decide_eq_true (show d < n by omega)]
          simp only [ldr, d4, if_pos (show n ≤ n + c by omega), show n + c - n = c by omega, c4, if_pos (show b - n < n by omega), show n + (b - n) = b by omega, b4, if_pos (show n ≤ n + a by omega), show n + a - n = a by omega, a4, if_neg (show ¬ p < n by omega)]
      · simp only [if_neg k3]
        generalize ec : g (b - n) = c at *
        obtain ⟨_, _, a3, a4⟩ := a1
        obtain ⟨_, _, b3, b4⟩ := b1
        obtain ⟨_, _, c3, c4⟩ := c1
        refine ⟨by omega, by omega, fun h => ?_, ?_⟩
        · rw [h, ea] at c4
          omega
        · unfold fst_
          rw [decide_eq_false (show ¬ c < n by omega)]
          simp only [ldr, c4, if_pos (show b - n < n by omega), show n + (b - n) = b by omega, b4, if_pos (show n ≤ n + a by omega), show n + a - n = a by omega, a4, if_neg (show ¬ p < n by omega)]
    · simp only [if_neg k2]
      generalize eb : f (n + a) = b at *
      obtain ⟨_, _, a3, a4⟩ := a1
      obtain ⟨_, _, b3, b4⟩ := b1
      refine ⟨by omega, by omega, by omega, ?_⟩
      unfold fst_
      rw [decide_eq_true (show b < n by omega)]
      simp only [ldr, b4, if_pos (show n ≤ n + a by omega), show n + a - n = a by omega, a4, if_neg (show ¬ p < n by omega)]
  · simp only [if_neg k1]
    obtain ⟨a2, _, a3, a4⟩ := a1
    refine ⟨by omega, by omega, a3, ?_⟩
    unfold fst_
    rw [decide_eq_false (show ¬ g p < n by omega)]
    simp only [ldr, a4, if_neg (show ¬ p < n by omega)]
theorem fi_st (hn : n ≤ 4) (hf : fi n f) (hg : fi n g) : fi n (fst_ n f g) := fun p h0 h1 => by
  by_cases h : p < n
  · exact fi_u hn hf hg h0 h
  · exact fi_l hn hf hg (by omega) h1
theorem ld_ex (hn : n ≤ 4) (hf : fi n f) (hg : fi n g) {p : Int} (h0 : 0 ≤ p) (h1 : p < 2 * n) : exd n f g 5 (decide (p < n)) p := by
  by_cases h : p < n
  · rw [decide_eq_true h]
    exact ld_exu hn hf hg h0 h
  · rw [decide_eq_false h]
    exact ld_exl hn hf hg (by omega) h1
/-- a place between that no strand from outside meets lies on a ring of two or of four places -/
theorem mk_ring (hn : n ≤ 4) (hf : fi n f) (hg : fi n g) {w : Int → Int} (hw : ∀ p, 0 ≤ p → p < 2 * n → mkd n f g w 5 (decide (p < n)) p) {m : Int} (h0 : 0 ≤ m) (h1 : m < n) (hm : w m ≠ 1) :
    g m < n ∧ n ≤ f (n + g m) ∧ (f (n + g m) - n = m ∨ (g (f (n + g m) - n) < n ∧ n ≤ f (n + g (f (n + g m) - n)) ∧ f (n + g (f (n + g m) - n)) - n = m)) := by
  have a1 := hg m h0 (by omega)
  have k1 : g m < n := by
    by_cases h : g m < n
    · exact h
    · exfalso
      have h2 := hw (g m) (by omega) (by omega)
      rw [decide_eq_false h] at h2
      simp only [mkd, a1.2.2.2] at h2
      exact hm (h2 h1).1
  generalize ea : g m = a at *
  obtain ⟨_, _, a3, a4⟩ := a1
  have b1 := hf (n + a) (by omega) (by omega)
  have k2 : n ≤ f (n + a) := by
    by_cases h : n ≤ f (n + a)
    · exact h
    · exfalso
      have h2 := hw (f (n + a)) (by omega) (by omega)
      rw [decide_eq_true (show f (n + a) < n by omega)] at h2
      simp only [mkd, b1.2.2.2, show n + a - n = a by omega, a4] at h2
      exact hm ((h2 (by omega)).2 h1).1
  refine ⟨k1, k2, ?_⟩
  generalize eb : f (n + a) = b at *
  obtain ⟨_, _, b3, b4⟩ := b1
  by_cases e : b - n = m
  · exact Or.inl e
  · refine Or.inr ?_
    have c1 := hg (b - n) (by omega) (by omega)
    have k3 : g (b - n) < n := by
      by_cases h : g (b - n) < n
      · exact h
      · exfalso
        have h2 := hw (g (b - n)) (by omega) (by omega)
        rw [decide_eq_false h] at h2
        simp only [mkd, c1.2.2.2, show n + (b - n) = b by omega, b4, show n + a - n = a by omega, a4] at h2
        exact hm (((h2 (by omega)).2 (by omega)).2 h1).1
    generalize ec : g (b - n) = c at *
    obtain ⟨_, _, c3, c4⟩ := c1
    have d1 := hf (n + c) (by omega) (by omega)
    have k4 : n ≤ f (n + c) := by
      by_cases h : n ≤ f (n + c)
      · exact h
      · exfalso
        have h2 := hw (f (n + c)) (by omega) (by omega)
        rw [decide_eq_true (show f (n + c) < n by omega)] at h2
        simp only [mkd, d1.2.2.2, show n + c - n = c by omega, c4, show n + (b - n) = b by omega, b4, show n + a - n = a by omega, a4] at h2
        exact hm ((((h2 (by omega)).2 (by omega)).2 (by omega)).2 h1).1
    refine ⟨k3, k4, ?_⟩
    generalize ed : f (n + c) = d at *
    obtain ⟨_, _, d3, d4⟩ := d1
    have x1 : c ≠ a := fun h => by
      rw [h, a4] at c4
      omega
    have x2 : c ≠ m := fun h => by
      rw [h, ea] at c4
      omega
    have x3 : d ≠ b := fun h => by
      rw [h, b4] at d4
      omega
    have x4 : d ≠ n + a := fun h => by
      rw [h, eb] at d4
      omega
    omega
end FI
