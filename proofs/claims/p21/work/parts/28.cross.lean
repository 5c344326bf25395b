/-! cross, of the class. -/
/-- what cross answers: S strands, k crossings so far -/
def cr_ans (S k : Nat) (l : Int) : Int := if l ≠ 0 ∧ -(S : Int) < l ∧ l < S then (if k = 8 then -3 else ((k + 1 : Nat) : Int)) else -1
theorem rn_X4_cross {x o a S k : Nat} {g gx f : Nat → am_V} {l : Int} {h : am_H} (hx : x < h.1) (hcx : h.2.2 x = (14, 5, gx)) (hxo : gx 4 = vR o) (hne : x ≠ o) (hna : x ≠ a) (ho : o < h.1) (hc : h.2.2 o = (11, 5, g)) (hS : g 0 = vI (S : Int)) (hS4 : S ≤ 4) (hk : g 1 = vI (k : Int)) (hk8 : k ≤ 8) (hl : g 2 = vR a) (ha : a < h.1) (hoa : o ≠ a) (hca : h.2.2 a = (0, 8, f)) :
    am_E ac_X4_cross (0, [vR x, vI l], [], h) (fun r h2 => r = some (vI (cr_ans S k l)) ∧ h2.1 = h.1 ∧ h2.2.1 = h.2.1 ∧ (∀ b, b ≠ o → b ≠ a → h2.2.2 b = h.2.2 b) ∧ ((¬ ((l ≠ 0 ∧ -(S : Int) < l ∧ l < S) ∧ k < 8) ∧ h2 = h) ∨ ((l ≠ 0 ∧ -(S : Int) < l ∧ l < S) ∧ k < 8 ∧ h2.2.2 o = (11, 5, am_up (am_up g 1 (vI ((k + 1 : Nat) : Int))) 4 (vI 0)) ∧ h2.2.2 a = (0, 8, am_up f k (vI l))))) := by
  iterate 1 (refine am_E.go rfl rfl ?_; dsimp only [Nat.reduceAdd])
  refine ae_gf (x := 4) (y := 4) rfl hx hcx (by omega) hxo ?_
  iterate 1 (refine am_E.go rfl rfl ?_; dsimp only [Nat.reduceAdd])
  refine ae_callv (a := o) (as2 := [vI l]) (rest := []) rfl rfl (by decide) (Nat.le_of_ble_eq_true rfl) rfl rfl (by decide) ho hc rfl (Nat.le_of_ble_eq_true rfl) (rn_X1_allows (l := l) ho hc hS hS4) ?_
  rintro r h2 ⟨rfl, rfl⟩
  show am_E _ (8, [vR x, vI l], [vI (if l ≠ 0 ∧ -(S : Int) < l ∧ l < S then 1 else 0)], h2) _
  by_cases q : l ≠ 0 ∧ -(S : Int) < l ∧ l < S
  · rw [if_pos q]
    iterate 2 (refine am_E.go rfl rfl ?_; dsimp only [Nat.reduceAdd])
    refine ae_gf (x := 4) (y := 4) rfl hx hcx (by omega) hxo ?_
    iterate 1 (refine am_E.go rfl rfl ?_; dsimp only [Nat.reduceAdd])
    refine ae_callv (a := o) (as2 := [vI l]) (rest := []) rfl rfl (by decide) (Nat.le_of_ble_eq_true rfl) rfl rfl (by decide) ho hc rfl (Nat.le_of_ble_eq_true rfl) (rn_X1_append (l := l) ho hc hk hk8 hl ha hoa hca) ?_
    rintro r h3 ⟨b1, b2, b3, ⟨q1, rfl, rfl⟩ | ⟨q1, rfl, b4, b5⟩⟩
    · show am_E _ (21, [vR x, vI l], [vI 0], h3) _
      iterate 2 (refine am_E.go rfl rfl ?_; dsimp only [Nat.reduceAdd])
      exact am_E.ret rfl rfl ⟨by unfold cr_ans; rw [if_pos q, if_pos q1], rfl, rfl, fun _ _ _ => rfl, Or.inl ⟨by omega, rfl⟩⟩
    · show am_E _ (21, [vR x, vI l], [vI 1], h3) _
      iterate 2 (refine am_E.go rfl rfl ?_; dsimp only [Nat.reduceAdd])
      refine ae_gf (x := 4) (y := 4) rfl (by omega) (by rw [b3 x hne hna]; exact hcx) (by omega) hxo ?_
      refine ae_gf (x := 1) (y := 1) (v := vI ((k + 1 : Nat) : Int)) rfl (by omega) b4 (by omega) (by rw [am_up_n (by omega), am_up_s]) ?_
      iterate 1 (refine am_E.go rfl rfl ?_; dsimp only [Nat.reduceAdd])
      exact am_E.ret rfl rfl ⟨by unfold cr_ans; rw [if_pos q, if_neg (by omega)], b1, b2, b3, Or.inr ⟨q, q1, b4, b5⟩⟩
  · rw [if_neg q]
    iterate 2 (refine am_E.go rfl rfl ?_; dsimp only [Nat.reduceAdd])
    exact am_E.ret rfl rfl ⟨by unfold cr_ans; rw [if_neg q], rfl, rfl, fun _ _ _ => rfl, Or.inl ⟨fun z => q z.1, rfl⟩⟩
