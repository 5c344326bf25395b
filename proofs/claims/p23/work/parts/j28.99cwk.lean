def lq_P (c : aq_C) : Prop := (c 8 0 = c 527 9 ∧ c 8 1 = c 527 10) ∧ (∀ i, 0 ≤ i → i < c 8 1 → c (8 + 1) i = c (527 + 10) i) ∧ cr_p 8 c
def lq_ux (c d : aq_C) : Prop := aq_sm (fun a => a < 527 ∧ a ≠ 8 ∧ a ≠ 9 ∧ a ≠ 10) c d
def lq_um (c d : aq_C) : Prop := aq_sm (fun a => 527 ≤ a ∧ a < 527 + 24 ∧ a ≠ 527 + 10) c d
theorem cr_ps {x : Nat} {c d : aq_C} (h : cr_p x c) (h0 : ∀ i, d x i = c x i) (h1 : ∀ i, d (x + 1) i = c (x + 1) i) (h2 : ∀ i, d (x + 2) i = c (x + 2) i) : cr_p x d := by
  unfold cr_p at *
  rw [show d (x + 1) = c (x + 1) from funext h1, show d (x + 2) = c (x + 2) from funext h2, h0, h0, h0]
  exact h
theorem cr_p0 {x : Nat} {c : aq_C} (h : c x 4 = 0) : cr_p x c := fun q => absurd h q
/-- a call of the reference leaves what the class keeps -/
theorem cr_pm {c d : aq_C} (h : cr_p 8 c) (hs : aq_sm (fun a => 527 ≤ a ∧ a < 527 + 24) c d) : cr_p 8 d := cr_ps h (hs _ (by omega)) (hs _ (by omega)) (hs _ (by omega))
theorem lq_P.k {c c1 c2 : aq_C} (h : lq_P c) (f1 : lq_ux c c1) (f2 : lq_um c1 c2) (e9 : c2 527 9 = c1 527 9) (e10 : c2 527 10 = c1 527 10) : lq_P c2 := by
  obtain ⟨⟨h1, h2⟩, h3, h4⟩ := h
  have g8 : ∀ i, c2 8 i = c 8 i := fun i => by rw [f2 8 (by omega) i, f1 8 (by omega) i]
  have g9 : ∀ i, c2 (8 + 1) i = c (8 + 1) i := fun i => by rw [f2 (8 + 1) (by omega) i, f1 (8 + 1) (by omega) i]
  have g10 : ∀ i, c2 (8 + 2) i = c (8 + 2) i := fun i => by rw [f2 (8 + 2) (by omega) i, f1 (8 + 2) (by omega) i]
  refine ⟨⟨by rw [g8, e9, f1 527 (by omega) 9]; exact h1, by rw [g8, e10, f1 527 (by omega) 10]; exact h2⟩, fun i i0 i1 => ?_, cr_ps h4 g8 g9 g10⟩
  rw [g8] at i1
  rw [g9, f2 (527 + 10) (by omega) i, f1 (527 + 10) (by omega) i]
  exact h3 i i0 i1
theorem lq_P.row {c c1 c2 : aq_C} {l : Int} {r1 r2 : Option am_V} (h : lq_P c) (s1 : aq_sm (fun a => a < 527) c c1) (s2 : aq_sm (fun a => 527 ≤ a ∧ a < 527 + 24) c1 c2)
    (x : (2 ≤ l ∧ l ≤ 4 ∧ r1 = some (vI 0) ∧ c1 8 0 = l ∧ c1 8 1 = 0 ∧ c1 8 4 = 0 ∧ ∀ i, c1 (8 + 1) i = c (8 + 1) i) ∨ (¬ (2 ≤ l ∧ l ≤ 4) ∧ r1 = some (vI (-1)) ∧ c1 = c))
    (m : (2 ≤ l ∧ l ≤ 4 ∧ r2 = some (vI 0) ∧ c2 527 9 = l ∧ c2 527 10 = 0 ∧ ∀ i, c2 (527 + 10) i = c1 (527 + 10) i) ∨ (¬ (2 ≤ l ∧ l ≤ 4) ∧ r2 = some (vI (-1)) ∧ c2 = c1)) : lq_P c2 := by
  rcases x with ⟨x1, x2, -, x3, x4, x5, x6⟩ | ⟨x1, -, x2⟩
  · rcases m with ⟨m1, m2, -, m3, m4, m5⟩ | ⟨m1, -, m2⟩
    · have z1 : c2 8 1 = 0 := by rw [s2 8 (by omega) 1]; exact x4
      exact ⟨⟨by rw [s2 8 (by omega) 0, x3, m3], by rw [z1, m4]⟩, fun i i0 i1 => by exfalso; omega, cr_p0 (by rw [s2 8 (by omega) 4]; exact x5)⟩
    · exact absurd ⟨x1, x2⟩ m1
  · rcases m with ⟨m1, m2, -, m3, m4, m5⟩ | ⟨m1, -, m2⟩
    · exact absurd ⟨m1, m2⟩ x1
    · rw [m2, x2]
      exact h
theorem lq_P.cross {c c1 c2 : aq_C} {l : Int} {r1 r2 : Option am_V} (h : lq_P c) (s1 : aq_sm (fun a => a < 527) c c1) (s2 : aq_sm (fun a => 527 ≤ a ∧ a < 527 + 24) c1 c2)
    (x : (¬ (l ≠ 0 ∧ -(c 8 0) < l ∧ l < c 8 0) ∧ r1 = some (vI (-1)) ∧ c1 = c) ∨ ((l ≠ 0 ∧ -(c 8 0) < l ∧ l < c 8 0) ∧ 8 ≤ c 8 1 ∧ r1 = some (vI (-3)) ∧ c1 = c) ∨ ((l ≠ 0 ∧ -(c 8 0) < l ∧ l < c 8 0) ∧ c 8 1 < 8 ∧ r1 = some (vI (c 8 1 + 1)) ∧ c1 8 0 = c 8 0 ∧ c1 8 1 = c 8 1 + 1 ∧ c1 8 4 = 0 ∧ c1 (8 + 1) (c 8 1) = l ∧ ∀ i, i ≠ c 8 1 → c1 (8 + 1) i = c (8 + 1) i))
    (m : (¬ (l ≠ 0 ∧ -(c1 527 9) < l ∧ l < c1 527 9) ∧ r2 = some (vI (-1)) ∧ c2 = c1) ∨ ((l ≠ 0 ∧ -(c1 527 9) < l ∧ l < c1 527 9) ∧ 8 ≤ c1 527 10 ∧ r2 = some (vI (-3)) ∧ c2 = c1) ∨ ((l ≠ 0 ∧ -(c1 527 9) < l ∧ l < c1 527 9) ∧ c1 527 10 < 8 ∧ r2 = some (vI (c1 527 10 + 1)) ∧ c2 527 9 = c1 527 9 ∧ c2 527 10 = c1 527 10 + 1 ∧ c2 (527 + 10) (c1 527 10) = l ∧ ∀ i, i ≠ c1 527 10 → c2 (527 + 10) i = c1 (527 + 10) i)) : lq_P c2 := by
  obtain ⟨⟨h1, h2⟩, h3, h4⟩ := id h
  have y9 : c1 527 9 = c 8 0 := by rw [s1 527 (by omega) 9]; exact h1.symm
  have y10 : c1 527 10 = c 8 1 := by rw [s1 527 (by omega) 10]; exact h2.symm
  rw [y9, y10] at m
  rcases x with ⟨x1, -, x2⟩ | ⟨x1, x0, -, x2⟩ | ⟨x1, x0, -, x2, x3, x4, x5, x6⟩
  · rcases m with ⟨m1, -, m2⟩ | ⟨m1, m0, -, m2⟩ | ⟨m1, m0, -, m2, m3, m5, m6⟩
    · rw [m2, x2]
      exact h
    · exact absurd m1 x1
    · exact absurd m1 x1
  · rcases m with ⟨m1, -, m2⟩ | ⟨m1, m0, -, m2⟩ | ⟨m1, m0, -, m2, m3, m5, m6⟩
    · exact absurd x1 m1
    · rw [m2, x2]
      exact h
    · exfalso
      omega
  · rcases m with ⟨m1, -, m2⟩ | ⟨m1, m0, -, m2⟩ | ⟨m1, m0, -, m2, m3, m5, m6⟩
    · exact absurd x1 m1
    · exfalso
      omega
    · have z1 : c2 8 1 = c 8 1 + 1 := by rw [s2 8 (by omega) 1]; exact x3
      refine ⟨⟨by rw [s2 8 (by omega) 0, x2, m2], by rw [z1, m3]⟩, fun i i0 i1 => ?_, cr_p0 (by rw [s2 8 (by omega) 4]; exact x4)⟩
      rw [s2 (8 + 1) (by omega) i]
      by_cases e : i = c 8 1
      · rw [e, x5, m5]
      · rw [x6 i e, m6 i e, s1 (527 + 10) (by omega) i]
        exact h3 i i0 (by omega)
theorem lq_P.back {c c1 c2 : aq_C} {r1 r2 : Option am_V} (h : lq_P c) (s1 : aq_sm (fun a => a < 527) c c1) (s2 : aq_sm (fun a => 527 ≤ a ∧ a < 527 + 24) c1 c2)
    (x : (c 8 1 ≤ 0 ∧ r1 = some (vI (-2)) ∧ c1 = c) ∨ (0 < c 8 1 ∧ r1 = some (vI (c 8 1 - 1)) ∧ c1 8 0 = c 8 0 ∧ c1 8 1 = c 8 1 - 1 ∧ c1 8 4 = 0 ∧ ∀ i, c1 (8 + 1) i = c (8 + 1) i))
    (m : (c1 527 10 ≤ 0 ∧ r2 = some (vI (-2)) ∧ c2 = c1) ∨ (0 < c1 527 10 ∧ r2 = some (vI (c1 527 10 - 1)) ∧ c2 527 9 = c1 527 9 ∧ c2 527 10 = c1 527 10 - 1 ∧ ∀ i, c2 (527 + 10) i = c1 (527 + 10) i)) : lq_P c2 := by
  obtain ⟨⟨h1, h2⟩, h3, h4⟩ := id h
  have y9 : c1 527 9 = c 8 0 := by rw [s1 527 (by omega) 9]; exact h1.symm
  have y10 : c1 527 10 = c 8 1 := by rw [s1 527 (by omega) 10]; exact h2.symm
  rw [y9, y10] at m
  rcases x with ⟨x1, -, x2⟩ | ⟨x1, -, x2, x3, x4, x5⟩
  · rcases m with ⟨m1, -, m2⟩ | ⟨m1, -, m2, m3, m4⟩
    · rw [m2, x2]
      exact h
    · exfalso
      omega
  · rcases m with ⟨m1, -, m2⟩ | ⟨m1, -, m2, m3, m4⟩
    · exfalso
      omega
    · have z1 : c2 8 1 = c 8 1 - 1 := by rw [s2 8 (by omega) 1]; exact x3
      refine ⟨⟨by rw [s2 8 (by omega) 0, x2, m2], by rw [z1, m3]⟩, fun i i0 i1 => ?_, cr_p0 (by rw [s2 8 (by omega) 4]; exact x4)⟩
      rw [s2 (8 + 1) (by omega) i, x5, m4, s1 (527 + 10) (by omega) i]
      exact h3 i i0 (by omega)
theorem lq_P.power {c c1 c2 : aq_C} {k : Int} (h : lq_P c) (s1 : aq_sm (fun a => a < 527) c c1) (s2 : aq_sm (fun a => 527 ≤ a ∧ a < 527 + 24) c1 c2)
    (x : c1 8 0 = c 8 0 ∧ c1 8 1 = c 8 1 ∧ (∀ i, c1 (8 + 1) i = c (8 + 1) i) ∧ cr_p 8 c1)
    (m : c2 527 9 = c1 527 9 ∧ c2 527 10 = c1 527 10 ∧ ∀ i, c2 (527 + 10) i = c1 (527 + 10) i) : lq_P c2 ∧ pw_a (c (8 + 1)) (c 8 0) (c 8 1) k = pw_a (c1 (527 + 10)) (c1 527 9) (c1 527 10) k := by
  obtain ⟨⟨h1, h2⟩, h3, h4⟩ := h
  obtain ⟨x1, x2, x3, x4⟩ := x
  obtain ⟨m1, m2, m3⟩ := m
  have y9 : c1 527 9 = c 8 0 := by rw [s1 527 (by omega) 9]; exact h1.symm
  have y10 : c1 527 10 = c 8 1 := by rw [s1 527 (by omega) 10]; exact h2.symm
  refine ⟨⟨⟨by rw [s2 8 (by omega) 0, x1, m1, y9], by rw [s2 8 (by omega) 1, x2, m2, y10]⟩, fun i i0 i1 => ?_, cr_pm x4 s2⟩, ?_⟩
  · rw [s2 8 (by omega) 1, x2] at i1
    rw [s2 (8 + 1) (by omega) i, x3, m3, s1 (527 + 10) (by omega) i]
    exact h3 i i0 i1
  · rw [y9, y10, show c1 (527 + 10) = c (527 + 10) from funext (s1 _ (by omega))]
    exact pa_c h3
theorem lq_P0 {c : aq_C} (h1 : c 8 0 = 2) (h2 : c 8 1 = 0) (h3 : c 8 4 = 0) (h4 : c 527 9 = 2) (h5 : c 527 10 = 0) : lq_P c := ⟨⟨by rw [h1, h4], by rw [h2, h5]⟩, fun i i0 i1 => by exfalso; omega, cr_p0 h3⟩
theorem lp_w {m s : Nat} {F : aq_F} {c : aq_C} {C : am_C} {t : am_S} {A : Option am_V → Prop} (h : am_E C t (aq_Z m s F (fun a => a < 527 ∧ a ≠ 8 ∧ a ≠ 9 ∧ a ≠ 10) c (fun r d => A r ∧ cl_I d))) : am_E C t (aq_Z m s F (fun a => a < 527) c (fun r d => (A r ∧ lq_ux c d) ∧ cl_I d)) := by
  refine h.imp ?_
  rintro r h2 ⟨d, e1, e2, e3, e4⟩
  exact ⟨d, e1, aq_smi e2 (fun a h => by omega), ⟨e3, e2⟩, e4⟩
theorem lo_w {m s : Nat} {F : aq_F} {c : aq_C} {C : am_C} {t : am_S} {A : Option am_V → Prop} (h : am_E C t (aq_Z m s F (fun a => 527 ≤ a ∧ a < 527 + 24 ∧ a ≠ 527 + 10) c (fun r d => A r ∧ mo_I 527 d))) : am_E C t (aq_Z m s F (fun a => 527 ≤ a ∧ a < 527 + 24) c (fun r d => (A r ∧ lq_um c d) ∧ mo_I 527 d)) := by
  refine h.imp ?_
  rintro r h2 ⟨d, e1, e2, e3, e4⟩
  exact ⟨d, e1, aq_smi e2 (fun a h => by omega), ⟨e3, e2⟩, e4⟩
theorem lp_s {m s : Nat} {F : aq_F} {c : aq_C} {S : Nat → Prop} {C : am_C} {t : am_S} {I : aq_C → Prop} {A : Option am_V → aq_C → Prop} (h : am_E C t (aq_Z m s F S c (fun r d => I d ∧ A r d))) : am_E C t (aq_Z m s F S c (fun r d => A r d ∧ I d)) := by
  refine h.imp ?_
  rintro r h2 ⟨d, e1, e2, e3, e4⟩
  exact ⟨d, e1, e2, e4, e3⟩
theorem lp_r {m s : Nat} {F : aq_F} {c : aq_C} {S : Nat → Prop} {C : am_C} {t : am_S} {I B : aq_C → Prop} {A : Option am_V → Prop} (h : am_E C t (aq_Z m s F S c (fun r d => A r ∧ I d ∧ B d))) : am_E C t (aq_Z m s F S c (fun r d => (A r ∧ B d) ∧ I d)) := by
  refine h.imp ?_
  rintro r h2 ⟨d, e1, e2, e3, e4, e5⟩
  exact ⟨d, e1, e2, ⟨e3, e5⟩, e4⟩
