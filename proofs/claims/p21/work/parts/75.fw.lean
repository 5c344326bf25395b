/-! The reference's findWords: what holds on the way. -/
/-- how many of the first k are told -/
def fw_n (g : Int → Int) : Nat → Int
  | 0 => 0
  | k + 1 => fw_n g k + (if g (k : Int) = -4 then 0 else 1)
theorem fw_le {g : Int → Int} : ∀ k : Nat, fw_n g k ≤ (k : Int)
  | 0 => by simp [fw_n]
  | k + 1 => by
    have := fw_le (g := g) k
    rw [fw_n]
    split <;> omega
theorem fw_ne {g g2 : Int → Int} {b : Int} (hb : g b = -4) (hb2 : g2 b ≠ -4) (hg : ∀ i, i ≠ b → g2 i = g i) : ∀ k : Nat, fw_n g2 k = fw_n g k + (if 0 ≤ b ∧ b < (k : Int) then 1 else 0)
  | 0 => by
    rw [fw_n, fw_n, if_neg (by omega)]
    rfl
  | k + 1 => by
    rw [fw_n, fw_n, fw_ne hb hb2 hg k]
    by_cases e : (k : Int) = b
    · rw [e, if_neg hb2, if_pos hb, if_neg (by omega), if_pos (by omega)]
    · rw [hg (k : Int) e]
      by_cases e2 : 0 ≤ b ∧ b < (k : Int)
      · rw [if_pos e2, if_pos (show 0 ≤ b ∧ b < ((k + 1 : Nat) : Int) by omega)]
        omega
      · rw [if_neg e2, if_neg (show ¬ (0 ≤ b ∧ b < ((k + 1 : Nat) : Int)) by omega)]
        omega
theorem fw_z {g : Int → Int} : ∀ k : Nat, (∀ i, 0 ≤ i → i < (k : Int) → g i = -4) → fw_n g k = 0
  | 0, _ => rfl
  | k + 1, h => by
    rw [fw_n, fw_z k (fun i h0 h1 => h i h0 (by omega)), if_pos (h k (by omega) (by omega))]
    rfl
def fw_ (y : Nat) (f K many : Int) (c0 c : aq_C) : Prop := (∀ b, 0 ≤ b → b < K → c (y + 4) (f + b) = -4 ∨ (-3 ≤ c (y + 4) (f + b) ∧ c (y + 4) (f + b) < many)) ∧ (∀ b, 0 ≤ b → b < K → 0 ≤ c (y + 3) (f + b) ∧ c (y + 3) (f + b) < K) ∧ (∀ i, 0 ≤ i → i < many → 0 ≤ c (y + 14) i ∧ c (y + 14) i < K) ∧ fw_n (fun b => c (y + 4) (f + b)) K.toNat = many ∧ ∀ j, (j < f ∨ f + K ≤ j) → c (y + 3) j = c0 (y + 3) j ∧ c (y + 4) j = c0 (y + 4) j
theorem fw_s {S : Nat → Prop} {y : Nat} {f K many : Int} {c0 c d : aq_C} (h : fw_ y f K many c0 c) (hs : aq_sm S c d) (h3 : ¬ S (y + 3)) (h4 : ¬ S (y + 4)) (h14 : ¬ S (y + 14)) : fw_ y f K many c0 d := by
  unfold fw_ at *
  have e3 := hs _ h3
  have e4 := hs _ h4
  have e14 := hs _ h14
  simp only [e3, e4, e14]
  exact h
theorem fw_a {y : Nat} {f K many x bb x2 l : Int} {c0 c c1 c2 c3 c4 : aq_C} (h : fw_ y f K many c0 c) (hx0 : 0 ≤ x) (hx1 : x < K) (hm : c (y + 4) (f + x) = -4) (hb0 : 0 ≤ bb) (hb1 : bb < K) (hx2 : -3 ≤ x2) (hx3 : x2 ≤ many) (hd1 : aq_u c (y + 4) (f + x) x2 = c1) (hd2 : aq_u c1 (y + 2) (f + x) l = c2) (hd3 : aq_u c2 (y + 3) (f + x) bb = c3) (hd4 : aq_u c3 (y + 14) many x = c4) : fw_ y f K (many + 1) c0 c4 := by
  obtain ⟨w1, w2, w3, w4, w5⟩ := h
  subst hd1
  subst hd2
  subst hd3
  subst hd4
  have e4 : ∀ j, aq_u (aq_u (aq_u (aq_u c (y + 4) (f + x) x2) (y + 2) (f + x) l) (y + 3) (f + x) bb) (y + 14) many x (y + 4) j = if j = f + x then x2 else c (y + 4) j := fun j => by
    rw [aq_un (Or.inl (by omega)), aq_un (Or.inl (by omega)), aq_un (Or.inl (by omega))]
    unfold aq_u
    by_cases e : j = f + x
    · rw [if_pos ⟨rfl, e⟩, if_pos e]
    · rw [if_neg (fun q => e q.2), if_neg e]
  have e3 : ∀ j, aq_u (aq_u (aq_u (aq_u c (y + 4) (f + x) x2) (y + 2) (f + x) l) (y + 3) (f + x) bb) (y + 14) many x (y + 3) j = if j = f + x then bb else c (y + 3) j := fun j => by
    rw [aq_un (Or.inl (by omega))]
    by_cases e : j = f + x
    · rw [e, aq_us, if_pos rfl]
    · rw [aq_un (Or.inr e), aq_un (Or.inl (by omega)), aq_un (Or.inl (by omega)), if_neg e]
  have e14 : ∀ j, aq_u (aq_u (aq_u (aq_u c (y + 4) (f + x) x2) (y + 2) (f + x) l) (y + 3) (f + x) bb) (y + 14) many x (y + 14) j = if j = many then x else c (y + 14) j := fun j => by
    by_cases e : j = many
    · rw [e, aq_us, if_pos rfl]
    · rw [aq_un (Or.inr e), aq_un (Or.inl (by omega)), aq_un (Or.inl (by omega)), aq_un (Or.inl (by omega)), if_neg e]
  refine ⟨fun b k0 k1 => ?_, fun b k0 k1 => ?_, fun i k0 k1 => ?_, ?_, fun j k0 => ?_⟩
  · rw [e4]
    by_cases e : f + b = f + x
    · rw [if_pos e]
      exact Or.inr ⟨hx2, by omega⟩
    · rw [if_neg e]
      rcases w1 b k0 k1 with q | q
      · exact Or.inl q
      · exact Or.inr ⟨q.1, by omega⟩
  · rw [e3]
    split
    · exact ⟨hb0, hb1⟩
    · exact w2 b k0 k1
  · rw [e14]
    split
    · exact ⟨hx0, hx1⟩
    · exact w3 i k0 (by omega)
  · simp only [e4]
    rw [fw_ne (g := fun b => c (y + 4) (f + b)) (b := x) hm (by rw [if_pos rfl]; omega) (fun i hi => by rw [if_neg (by omega)]) K.toNat, w4, if_pos (by omega)]
  · rw [e3, e4, if_neg (by omega), if_neg (by omega)]
    exact w5 j k0
theorem fw_lt {y : Nat} {f K many x : Int} {c0 c : aq_C} (h : fw_ y f K many c0 c) (hx0 : 0 ≤ x) (hx1 : x < K) (hm : c (y + 4) (f + x) = -4) : many < K := by
  have h1 := fw_ne (g := fun b => c (y + 4) (f + b)) (g2 := fun b => if b = x then 0 else c (y + 4) (f + b)) (b := x) hm (by rw [if_pos rfl]; omega) (fun i hi => by rw [if_neg hi]) K.toNat
  have h2 := fw_le (g := fun b => if b = x then 0 else c (y + 4) (f + b)) K.toNat
  rw [h.2.2.2.1, if_pos (by omega)] at h1
  omega
