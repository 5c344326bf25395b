/-! cross, of the class. -/
theorem rn_X1_allows {o : Nat} {g : Nat → am_V} {l : Int} {S : Nat} {h : am_H} (ho : o < h.1) (hc : h.2.2 o = (11, 5, g)) (hS : g 0 = vI (S : Int)) (hS4 : S ≤ 4) : am_E ac_X1_allows (0, [vR o, vI l], [], h) (fun r h2 => r = some (vI (if l ≠ 0 ∧ -(S : Int) < l ∧ l < S then 1 else 0)) ∧ h2 = h) := by
  iterate 2 (refine am_E.go rfl rfl ?_; dsimp only [Nat.reduceAdd])
  by_cases q0 : l = 0
  · rw [show am_cmp .eq l 0 = true by simp [am_cmp, q0]]
    iterate 1 (refine am_E.go rfl rfl ?_; dsimp only [Nat.reduceAdd])
    exact am_E.ret rfl rfl ⟨by rw [if_neg (by omega)], rfl⟩
  · rw [show am_cmp .eq l 0 = false by simp [am_cmp, q0]]
    iterate 2 (refine am_E.go rfl rfl ?_; dsimp only [Nat.reduceAdd])
    refine ae_gf (x := 1) (y := 0) rfl ho hc (by omega) hS ?_
    iterate 2 (refine am_E.go rfl rfl ?_; dsimp only [Nat.reduceAdd])
    rw [show am_w (-(S : Int)) = -(S : Int) from am_w_id (by unfold am_r32; omega)]
    by_cases q1 : l ≤ -(S : Int)
    · rw [show am_cmp .le l (-(S : Int)) = true by simp [am_cmp]; omega]
      iterate 1 (refine am_E.go rfl rfl ?_; dsimp only [Nat.reduceAdd])
      exact am_E.ret rfl rfl ⟨by rw [if_neg (by omega)], rfl⟩
    · rw [show am_cmp .le l (-(S : Int)) = false by simp [am_cmp]; omega]
      iterate 2 (refine am_E.go rfl rfl ?_; dsimp only [Nat.reduceAdd])
      refine ae_gf (x := 1) (y := 0) rfl ho hc (by omega) hS ?_
      iterate 1 (refine am_E.go rfl rfl ?_; dsimp only [Nat.reduceAdd])
      by_cases q2 : (S : Int) ≤ l
      · rw [show am_cmp .ge l (S : Int) = true by simp [am_cmp]; omega]
        iterate 1 (refine am_E.go rfl rfl ?_; dsimp only [Nat.reduceAdd])
        exact am_E.ret rfl rfl ⟨by rw [if_neg (by omega)], rfl⟩
      · rw [show am_cmp .ge l (S : Int) = false by simp [am_cmp]; omega]
        iterate 2 (refine am_E.go rfl rfl ?_; dsimp only [Nat.reduceAdd])
        exact am_E.ret rfl rfl ⟨by rw [if_pos (by omega)], rfl⟩
/-- Crossings.append(l): k crossings so far, their letters in the cell a -/
theorem rn_X1_append {o a k : Nat} {g f : Nat → am_V} {l : Int} {h : am_H} (ho : o < h.1) (hc : h.2.2 o = (11, 5, g)) (hk : g 1 = vI (k : Int)) (hk8 : k ≤ 8) (hl : g 2 = vR a) (ha : a < h.1) (hoa : o ≠ a) (hca : h.2.2 a = (0, 8, f)) : am_E ac_X1_append (0, [vR o, vI l], [], h) (fun r h2 => h2.1 = h.1 ∧ h2.2.1 = h.2.1 ∧ (∀ b, b ≠ o → b ≠ a → h2.2.2 b = h.2.2 b) ∧ ((k = 8 ∧ r = some (vI 0) ∧ h2 = h) ∨ (k < 8 ∧ r = some (vI 1) ∧ h2.2.2 o = (11, 5, am_up (am_up g 1 (vI ((k + 1 : Nat) : Int))) 4 (vI 0)) ∧ h2.2.2 a = (0, 8, am_up f k (vI l))))) := by
  iterate 1 (refine am_E.go rfl rfl ?_; dsimp only [Nat.reduceAdd])
  refine ae_gf (x := 1) (y := 1) rfl ho hc (by omega) hk ?_
  iterate 2 (refine am_E.go rfl rfl ?_; dsimp only [Nat.reduceAdd])
  by_cases q : k = 8
  · rw [show am_cmp .lt (k : Int) 8 = false by simp [am_cmp]; omega]
    iterate 1 (refine am_E.go rfl rfl ?_; dsimp only [Nat.reduceAdd])
    exact am_E.ret rfl rfl ⟨rfl, rfl, fun _ _ _ => rfl, Or.inl ⟨q, rfl, rfl⟩⟩
  · rw [show am_cmp .lt (k : Int) 8 = true by simp [am_cmp]; omega]
    iterate 1 (refine am_E.go rfl rfl ?_; dsimp only [Nat.reduceAdd])
    refine ae_gf (x := 1) (y := 2) rfl ho hc (by omega) hl ?_
    iterate 1 (refine am_E.go rfl rfl ?_; dsimp only [Nat.reduceAdd])
    refine ae_gf (x := 1) (y := 1) rfl ho hc (by omega) hk ?_
    iterate 1 (refine am_E.go rfl rfl ?_; dsimp only [Nat.reduceAdd])
    refine ae_ast (kd := 0) rfl rfl ha hca rfl (j := k) (by omega) rfl ?_
    have hc1 : (am_wr h a k (vI l)).2.2 o = (11, 5, g) := by rw [am_wr_ne hoa]; exact hc
    iterate 2 (refine am_E.go rfl rfl ?_; dsimp only [Nat.reduceAdd])
    refine ae_gf (x := 1) (y := 1) rfl ho hc1 (by omega) hk ?_
    iterate 2 (refine am_E.go rfl rfl ?_; dsimp only [Nat.reduceAdd])
    rw [show am_w ((k : Int) + 1) = ((k + 1 : Nat) : Int) by rw [am_w_id (by unfold am_r32; omega)]; omega]
    refine ae_pf (x := 1) (y := 1) rfl ho hc1 (by omega) rfl ?_
    iterate 2 (refine am_E.go rfl rfl ?_; dsimp only [Nat.reduceAdd])
    refine ae_pf (x := 1) (y := 4) rfl ho (am_wr_same hc1) (by omega) rfl ?_
    iterate 1 (refine am_E.go rfl rfl ?_; dsimp only [Nat.reduceAdd])
    exact am_E.ret rfl rfl ⟨rfl, rfl, fun b hb hb2 => by rw [am_wr_ne hb, am_wr_ne hb, am_wr_ne hb2], Or.inr ⟨by omega, rfl, am_wr_same (am_wr_same hc1), by rw [am_wr_ne (Ne.symm hoa), am_wr_ne (Ne.symm hoa)]; exact am_wr_same hca⟩⟩
