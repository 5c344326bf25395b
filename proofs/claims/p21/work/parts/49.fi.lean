/-! Pairings of 2 n points, and one drawn above another. -/
def fi (n : Int) (f : Int → Int) : Prop := ∀ p, 0 ≤ p → p < 2 * n → 0 ≤ f p ∧ f p < 2 * n ∧ f p ≠ p ∧ f (f p) = p
/-- where the strand from p ends: f above, g beneath; true: f is next -/
def ldr (n : Int) (f g : Int → Int) : Nat → Bool → Int → Int
  | 0, _, p => p
  | d + 1, true, p => if n ≤ f p then ldr n f g d false (f p - n) else f p
  | d + 1, false, p => if g p < n then ldr n f g d true (n + g p) else g p
/-- it ends in so many steps -/
def exd (n : Int) (f g : Int → Int) : Nat → Bool → Int → Prop
  | 0, _, _ => False
  | d + 1, true, p => n ≤ f p → exd n f g d false (f p - n)
  | d + 1, false, p => g p < n → exd n f g d true (n + g p)
/-- the places between, on the way, are met -/
def mkd (n : Int) (f g w : Int → Int) : Nat → Bool → Int → Prop
  | 0, _, _ => True
  | d + 1, true, p => n ≤ f p → w (f p - n) = 1 ∧ mkd n f g w d false (f p - n)
  | d + 1, false, p => g p < n → w (g p) = 1 ∧ mkd n f g w d true (n + g p)
section FI
variable {n : Int} {f g : Int → Int}
theorem ld_exu (hn : n ≤ 4) (hf : fi n f) (hg : fi n g) {p : Int} (h0 : 0 ≤ p) (h1 : p < n) : exd n f g 5 true p := by
  intro k1
  intro k2
  intro k3
  intro k4
  intro k5
  have a1 := hf p h0 (by omega)
  generalize ea : f p = a at *
  have b1 := hg (a - n) (by omega) (by omega)
  generalize eb : g (a - n) = b at *
  have c1 := hf (n + b) (by omega) (by omega)
  generalize ec : f (n + b) = c at *
  have d1 := hg (c - n) (by omega) (by omega)
  generalize ed : g (c - n) = d at *
  have e1 := hf (n + d) (by omega) (by omega)
  generalize ee : f (n + d) = e at *
  obtain ⟨_, _, a3, a4⟩ := a1
  obtain ⟨_, _, b3, b4⟩ := b1
  obtain ⟨_, _, c3, c4⟩ := c1
  obtain ⟨_, _, d3, d4⟩ := d1
  obtain ⟨_, _, e3, e4⟩ := e1
  have x1 : c ≠ a := fun h => by rw [h, a4] at c4; omega
  have x2 : d ≠ b := fun h => by rw [h, b4] at d4; omega
  have x3 : d ≠ a - n := fun h => by rw [h, eb] at d4; omega
  have x4 : e ≠ c := fun h => by rw [h, c4] at e4; omega
  have x5 : e ≠ n + b := fun h => by rw [h, ec] at e4; omega
  have x6 : e ≠ a := fun h => by rw [h, a4] at e4; omega
  omega
theorem ld_exl (hn : n ≤ 4) (hf : fi n f) (hg : fi n g) {p : Int} (h0 : n ≤ p) (h1 : p < 2 * n) : exd n f g 5 false p := by
  intro k1
  intro k2
  intro k3
  intro k4
  intro k5
  have a1 := hg p (by omega) (by omega)
  generalize ea : g p = a at *
  have b1 := hf (n + a) (by omega) (by omega)
  generalize eb : f (n + a) = b at *
  have c1 := hg (b - n) (by omega) (by omega)
  generalize ec : g (b - n) = c at *
  have d1 := hf (n + c) (by omega) (by omega)
  generalize ed : f (n + c) = d at *
  have e1 := hg (d - n) (by omega) (by omega)
  generalize ee : g (d - n) = e at *
  obtain ⟨_, _, a3, a4⟩ := a1
  obtain ⟨_, _, b3, b4⟩ := b1
  obtain ⟨_, _, c3, c4⟩ := c1
  obtain ⟨_, _, d3, d4⟩ := d1
  obtain ⟨_, _, e3, e4⟩ := e1
  have x1 : c ≠ a := fun h => by rw [h, a4] at c4; omega
  have x2 : d ≠ b := fun h => by rw [h, b4] at d4; omega
  have x3 : d ≠ n + a := fun h => by rw [h, eb] at d4; omega
  have x4 : e ≠ c := fun h => by rw [h, c4] at e4; omega
  have x5 : e ≠ b - n := fun h => by rw [h, ec] at e4; omega
  have x6 : e ≠ a := fun h => by rw [h, a4] at e4; omega
  omega
/-- the pairing of the two, one above the other -/
def fst_ (n : Int) (f g : Int → Int) (p : Int) : Int := ldr n f g 5 (decide (p < n)) p
theorem fi_u (hn : n ≤ 4) (hf : fi n f) (hg : fi n g) {p : Int} (h0 : 0 ≤ p) (h1 : p < n) : 0 ≤ fst_ n f g p ∧ fst_ n f g p < 2 * n ∧ fst_ n f g p ≠ p ∧ fst_ n f g (fst_ n f g p) = p := by
  have hx := ld_exu hn hf hg h0 h1
  have e0 : fst_ n f g p = ldr n f g 5 true p := by
    unfold fst_
    rw [decide_eq_true h1]
  rw [e0]
  have a1 := hf p h0 (by omega)
  simp only [ldr, exd] at hx ⊢
  by_cases k1 : n ≤ f p
  · simp only [if_pos k1]
    have hx1 := hx k1
    generalize ea : f p = a at *
    have b1 := hg (a - n) (by omega) (by omega)
    by_cases k2 : g (a - n) < n
    · simp only [if_pos k2]
      have hx2 := hx1 k2
      generalize eb : g (a - n) = b at *
      have c1 := hf (n + b) (by omega) (by omega)
      by_cases k3 : n ≤ f (n + b)
      · simp only [if_pos k3]
        have hx3 := hx2 k3
        generalize ec : f (n + b) = c at *
        have d1 := hg (c - n) (by omega) (by omega)
        by_cases k4 : g (c - n) < n
        · simp only [if_pos k4]
          have hx4 := hx3 k4
          generalize ed : g (c - n) = d at *
          have e1 := hf (n + d) (by omega) (by omega)
          by_cases k5 : n ≤ f (n + d)
          · exact absurd k5 hx4
          · simp only [if_neg k5]
            generalize ee : f (n + d) = e at *
            obtain ⟨_, _, a3, a4⟩ := a1
            obtain ⟨_, _, b3, b4⟩ := b1
            obtain ⟨_, _, c3, c4⟩ := c1
            obtain ⟨_, _, d3, d4⟩ := d1
            obtain ⟨_, _, e3, e4⟩ := e1
            have x3 : d ≠ a - n := fun h => by
              have x1 : c ≠ a := fun h => by rw [h, a4] at c4; omega
              rw [h, eb] at d4
              omega
            refine ⟨by omega, by omega, fun h => ?_, ?_⟩
            · rw [h, ea] at e4
              omega
            · unfold fst_
              rw [decide_eq_true (show e < n by omega)]
              simp only [ldr, e4, if_pos (show n ≤ n + d by omega), show n + d - n = d by omega, d4, if_pos (show c - n < n by omega), show n + (c - n) = c by omega, c4, if_pos (show n ≤ n + b by omega), show n + b - n = b by omega, b4, if_pos (show a - n < n by omega), show n + (a - n) = a by omega, a4, if_neg (show ¬ n ≤ p by omega)]
        · simp only [if_neg k4]
          generalize ed : g (c - n) = d at *
          obtain ⟨_, _, a3, a4⟩ := a1
          obtain ⟨_, _, b3, b4⟩ := b1
          obtain ⟨_, _, c3, c4⟩ := c1
          obtain ⟨_, _, d3, d4⟩ := d1
          refine ⟨by omega, by omega, by omega, ?_⟩
          unfold fst_
          rw [decide_eq_false (show ¬ d < n by omega)]
          simp only [ldr, d4, if_pos (show c - n < n by omega), show n + (c - n) = c by omega, c4, if_pos (show n ≤ n + b by omega), show n + b - n = b by omega, b4, if_pos (show a - n < n by omega), show n + (a - n) = a by omega, a4, if_neg (show ¬ n ≤ p by omega)]
      · simp only [if_neg k3]
        generalize ec : f (n + b) = c at *
        obtain ⟨_, _, a3, a4⟩ := a1
        obtain ⟨_, _, b3, b4⟩ := b1
        obtain ⟨_, _, c3, c4⟩ := c1
        refine ⟨by omega, by omega, fun h => ?_, ?_⟩
        · rw [h, ea] at c4
          omega
        · unfold fst_
          rw [decide_eq_true (show c < n by omega)]
          simp only [ldr, c4, if_pos (show n ≤ n + b by omega), show n + b - n = b by omega, b4, if_pos (show a - n < n by omega), show n + (a - n) = a by omega, a4, if_neg (show ¬ n ≤ p by omega)]
    · simp only [if_neg k2]
      generalize eb : g (a - n) = b at *
      obtain ⟨_, _, a3, a4⟩ := a1
      obtain ⟨_, _, b3, b4⟩ := b1
      refine ⟨by omega, by omega, by omega, ?_⟩
      unfold fst_
      rw [decide_eq_false (show ¬ b < n by omega)]
      simp only [ldr, b4, if_pos (show a - n < n by omega), show n + (a - n) = a by omega, a4, if_neg (show ¬ n ≤ p by omega)]
  · simp only [if_neg k1]
    obtain ⟨a2, _, a3, a4⟩ := a1
    refine ⟨by omega, by omega, a3, ?_⟩
    unfold fst_
    rw [decide_eq_true (show f p < n by omega)]
    simp only [ldr, a4, if_neg (show ¬ n ≤ p by omega)]
end FI
