/-! The reference's constructor: its parts. -/
theorem aq_frz {m s a n : Nat} {F : aq_F} {c : aq_C} (hF : F a = (0, n, fun _ => .inl 0)) : aq_h m s F c = aq_h m s (am_up F a (0, n, fun j => .inr (vI (c a (j : Int))))) c := by
  show (m, s, (aq_h m s F c).2.2) = (m, s, (aq_h m s (am_up F a (0, n, fun j => .inr (vI (c a (j : Int))))) c).2.2)
  refine congrArg (fun f => (m, s, f)) ?_
  funext b
  by_cases e : b = a
  · subst e
    rw [aq_hc hF, aq_hc am_up_s]
    rfl
  · show ((F b).1, (F b).2.1, fun i => aq_w ((F b).2.2 i) (c b (i : Int))) = ((am_up F a _ b).1, (am_up F a _ b).2.1, fun i => aq_w ((am_up F a _ b).2.2 i) (c b (i : Int)))
    rw [am_up_n e]
theorem mo_0f {m y a : Nat} {F : aq_F} {q : Nat × Nat × (Nat → aq_T)} (h : mo_0 m F y) (h1 : y + 1 ≤ a) (h4 : a ≤ y + 4) : mo_0 m (am_up F a q) y := by
  unfold mo_0 at *
  repeat rw [am_up_n (by omega)]
  exact h
theorem mo_fm {a b : Int} (h1 : 1 ≤ a) (h : a < b) (h4 : b ≤ 4) : mo_f a + bx_K a ≤ mo_f b := by
  have ha : a = 1 ∨ a = 2 ∨ a = 3 := by omega
  have hb : b = 2 ∨ b = 3 ∨ b = 4 := by omega
  rcases ha with ha | ha | ha <;> rcases hb with hb | hb | hb <;> subst ha <;> subst hb <;> first | decide | omega
/-- the row's strands, the crossings, the sums as a new object has them -/
def mo_b (y : Nat) (c : aq_C) : Prop := c y 9 = 2 ∧ c y 10 = 0 ∧ (∀ s, 0 ≤ s → s < 8 → c (y + 5) s = 2) ∧ ∀ s, c (y + 6) s = 0
theorem mo_bI {y : Nat} {c : aq_C} (h : mo_b y c) : mo_I y c := by
  obtain ⟨h1, h2, h3, h4⟩ := h
  refine ⟨⟨by omega, by omega, by omega, by omega, fun i h5 h6 => absurd h6 (by omega)⟩, fun s s0 s1 => ?_⟩
  have e3 := h3 s s0 s1
  have e4 := h4 s
  exact ⟨by omega, by omega, by omega, by omega, fun k k0 k1 => absurd k1 (by omega)⟩
theorem mo_bs {S : Nat → Prop} {y : Nat} {c d : aq_C} (h : mo_b y c) (hs : aq_sm S c d) (hk : mo_k y c d) (h5 : ¬ S (y + 5)) (h6 : ¬ S (y + 6)) : mo_b y d :=
  ⟨by rw [hk.1]; exact h.1, by rw [hk.2.1]; exact h.2.1, fun s s0 s1 => by rw [hs _ h5]; exact h.2.2.1 s s0 s1, fun s => by rw [hs _ h6]; exact h.2.2.2 s⟩
def mo_Z (y sT : Nat) (F0 : aq_F) (c0 : aq_C) : Option am_V → am_H → Prop := fun r h2 => ∃ F2 c2, r = none ∧ h2 = aq_h (y + 24) sT F2 c2 ∧ mo_C (y + 24) F2 y ∧ (mo_I y c2 ∧ c2 y 9 = 2 ∧ c2 y 10 = 0) ∧ ∀ a, a < y → F2 a = F0 a ∧ ∀ i, c2 a i = c0 a i
