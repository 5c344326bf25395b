/-! cross, of the reference: the same answer. -/
theorem rn_X5_cross_in {x a S k : Nat} {g f : Nat → am_V} {l s0 : Int} {h : am_H} (hx : x < h.1) (hc : h.2.2 x = (15, 27, g)) (hS : g 9 = vI (S : Int)) (hS4 : S ≤ 4) (hk : g 10 = vI (k : Int)) (hk8 : k ≤ 8) (hl : g 11 = vR a) (ha : a < h.1) (hxa : x ≠ a) (hca : h.2.2 a = (0, 8, f)) (hs : (1 ≤ s0 ∧ s0 ≤ (S : Int) - 1) ↔ (l ≠ 0 ∧ -(S : Int) < l ∧ l < S)) :
    am_E ac_X5_cross (11, [vR x, vI l, vI s0], [], h) (fun r h2 => r = some (vI (cr_ans S k l)) ∧ h2.1 = h.1 ∧ h2.2.1 = h.2.1 ∧ (∀ b, b ≠ x → b ≠ a → h2.2.2 b = h.2.2 b) ∧ ((¬ ((l ≠ 0 ∧ -(S : Int) < l ∧ l < S) ∧ k < 8) ∧ h2 = h) ∨ ((l ≠ 0 ∧ -(S : Int) < l ∧ l < S) ∧ k < 8 ∧ h2.2.2 x = (15, 27, am_up g 10 (vI ((k + 1 : Nat) : Int))) ∧ h2.2.2 a = (0, 8, am_up f k (vI l))))) := by
  iterate 4 (refine am_E.go rfl rfl ?_; dsimp only [Nat.reduceAdd])
  refine ae_gf (x := 5) (y := 9) rfl hx hc (by omega) hS ?_
  iterate 3 (refine am_E.go rfl rfl ?_; dsimp only [Nat.reduceAdd])
  rw [show am_w ((S : Int) - 1) = (S : Int) - 1 from am_w_id (by unfold am_r32; omega)]
  refine am_E.call rfl rfl rfl (Nat.le_of_ble_eq_true rfl) (rn_in s0 1 ((S : Int) - 1) h) ?_
  rintro r h2 ⟨rfl, rfl⟩
  show am_E _ (24, [vR x, vI l, vI s0], [vI (if 1 ≤ s0 ∧ s0 ≤ (S : Int) - 1 then 1 else 0)], h2) _
  by_cases q : l ≠ 0 ∧ -(S : Int) < l ∧ l < S
  · rw [if_pos (hs.mpr q)]
    iterate 2 (refine am_E.go rfl rfl ?_; dsimp only [Nat.reduceAdd])
    refine ae_gf (x := 5) (y := 10) rfl hx hc (by omega) hk ?_
    iterate 2 (refine am_E.go rfl rfl ?_; dsimp only [Nat.reduceAdd])
    by_cases q1 : k = 8
    · rw [show am_cmp .ne (k : Int) 8 = false by simp [am_cmp]; omega]
      iterate 1 (refine am_E.go rfl rfl ?_; dsimp only [Nat.reduceAdd])
      exact am_E.ret rfl rfl ⟨by unfold cr_ans; rw [if_pos q, if_pos q1], rfl, rfl, fun _ _ _ => rfl, Or.inl ⟨by omega, rfl⟩⟩
    · rw [show am_cmp .ne (k : Int) 8 = true by simp [am_cmp]; omega]
      iterate 1 (refine am_E.go rfl rfl ?_; dsimp only [Nat.reduceAdd])
      refine ae_gf (x := 5) (y := 11) rfl hx hc (by omega) hl ?_
      iterate 1 (refine am_E.go rfl rfl ?_; dsimp only [Nat.reduceAdd])
      refine ae_gf (x := 5) (y := 10) rfl hx hc (by omega) hk ?_
      iterate 1 (refine am_E.go rfl rfl ?_; dsimp only [Nat.reduceAdd])
      refine ae_ast (kd := 0) rfl rfl ha hca rfl (j := k) (by omega) rfl ?_
      have hc1 : (am_wr h2 a k (vI l)).2.2 x = (15, 27, g) := by rw [am_wr_ne hxa]; exact hc
      iterate 2 (refine am_E.go rfl rfl ?_; dsimp only [Nat.reduceAdd])
      refine ae_gf (x := 5) (y := 10) rfl hx hc1 (by omega) hk ?_
      iterate 2 (refine am_E.go rfl rfl ?_; dsimp only [Nat.reduceAdd])
      rw [show am_w ((k : Int) + 1) = ((k + 1 : Nat) : Int) by rw [am_w_id (by unfold am_r32; omega)]; omega]
      refine ae_pf (x := 5) (y := 10) rfl hx hc1 (by omega) rfl ?_
      iterate 1 (refine am_E.go rfl rfl ?_; dsimp only [Nat.reduceAdd])
      refine ae_gf (x := 5) (y := 10) (v := vI ((k + 1 : Nat) : Int)) rfl hx (am_wr_same hc1) (by omega) am_up_s ?_
      exact am_E.ret rfl rfl ⟨by unfold cr_ans; rw [if_pos q, if_neg q1], rfl, rfl, fun b hb hb2 => by rw [am_wr_ne hb, am_wr_ne hb2], Or.inr ⟨q, by omega, am_wr_same hc1, by rw [am_wr_ne (Ne.symm hxa)]; exact am_wr_same hca⟩⟩
  · rw [if_neg (fun z => q (hs.mp z))]
    iterate 2 (refine am_E.go rfl rfl ?_; dsimp only [Nat.reduceAdd])
    exact am_E.ret rfl rfl ⟨by unfold cr_ans; rw [if_neg q], rfl, rfl, fun _ _ _ => rfl, Or.inl ⟨fun z => q z.1, rfl⟩⟩
theorem rn_X5_cross {x a S k : Nat} {g f : Nat → am_V} {l : Int} {h : am_H} (hlr : am_r32 l) (hx : x < h.1) (hc : h.2.2 x = (15, 27, g)) (hS : g 9 = vI (S : Int)) (hS4 : S ≤ 4) (hk : g 10 = vI (k : Int)) (hk8 : k ≤ 8) (hl : g 11 = vR a) (ha : a < h.1) (hxa : x ≠ a) (hca : h.2.2 a = (0, 8, f)) :
    am_E ac_X5_cross (0, [vR x, vI l, vU], [], h) (fun r h2 => r = some (vI (cr_ans S k l)) ∧ h2.1 = h.1 ∧ h2.2.1 = h.2.1 ∧ (∀ b, b ≠ x → b ≠ a → h2.2.2 b = h.2.2 b) ∧ ((¬ ((l ≠ 0 ∧ -(S : Int) < l ∧ l < S) ∧ k < 8) ∧ h2 = h) ∨ ((l ≠ 0 ∧ -(S : Int) < l ∧ l < S) ∧ k < 8 ∧ h2.2.2 x = (15, 27, am_up g 10 (vI ((k + 1 : Nat) : Int))) ∧ h2.2.2 a = (0, 8, am_up f k (vI l))))) := by
  unfold am_r32 at hlr
  iterate 2 (refine am_E.go rfl rfl ?_; dsimp only [Nat.reduceAdd])
  by_cases q : l < 0
  · rw [show am_cmp .ge l 0 = false by simp [am_cmp]; omega]
    iterate 4 (refine am_E.go rfl rfl ?_; dsimp only [Nat.reduceAdd])
    refine rn_X5_cross_in (s0 := am_w (-l)) hx hc hS hS4 hk hk8 hl ha hxa hca ?_
    by_cases q1 : l = -2147483648
    · subst q1
      rw [show am_w (-(-2147483648)) = -2147483648 by decide]
      omega
    · rw [am_w_id (by unfold am_r32; omega)]
      omega
  · rw [show am_cmp .ge l 0 = true by simp [am_cmp]; omega]
    iterate 2 (refine am_E.go rfl rfl ?_; dsimp only [Nat.reduceAdd])
    refine rn_X5_cross_in (s0 := l) hx hc hS hS4 hk hk8 hl ha hxa hca ?_
    omega
