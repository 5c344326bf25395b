/-! row, of the class and of the reference. -/
/-- Crossings.begin(n) -/
theorem rn_X1_begin {o : Nat} {g : Nat → am_V} {n : Int} {h : am_H} (ho : o < h.1) (hc : h.2.2 o = (11, 5, g)) : am_E ac_X1_begin (0, [vR o, vI n], [], h) (fun r h2 => r = none ∧ h2.1 = h.1 ∧ h2.2.1 = h.2.1 ∧ (∀ b, b ≠ o → h2.2.2 b = h.2.2 b) ∧ h2.2.2 o = (11, 5, am_up (am_up (am_up g 0 (vI n)) 1 (vI 0)) 4 (vI 0))) := by
  iterate 2 (refine am_E.go rfl rfl ?_; dsimp only [Nat.reduceAdd])
  refine ae_pf (x := 1) (y := 0) rfl ho hc (by omega) rfl ?_
  iterate 2 (refine am_E.go rfl rfl ?_; dsimp only [Nat.reduceAdd])
  refine ae_pf (x := 1) (y := 1) rfl ho (am_wr_same hc) (by omega) rfl ?_
  iterate 2 (refine am_E.go rfl rfl ?_; dsimp only [Nat.reduceAdd])
  refine ae_pf (x := 1) (y := 4) rfl ho (am_wr_same (am_wr_same hc)) (by omega) rfl ?_
  exact am_E.ret rfl rfl ⟨rfl, rfl, rfl, fun b hb => by rw [am_wr_ne hb, am_wr_ne hb, am_wr_ne hb], am_wr_same (am_wr_same (am_wr_same hc))⟩
/-- what row answers -/
def rw_ans (n : Int) : Int := if 2 ≤ n ∧ n ≤ 4 then 0 else -1
/-- StrandBoxes.row(n): BAD changes nothing; else the row begins anew -/
theorem rn_X4_row {x o : Nat} {g gx : Nat → am_V} {n : Int} {h : am_H} (hx : x < h.1) (hcx : h.2.2 x = (14, 5, gx)) (hxo : gx 4 = vR o) (ho : o < h.1) (hc : h.2.2 o = (11, 5, g)) :
    am_E ac_X4_row (0, [vR x, vI n], [], h) (fun r h2 => r = some (vI (rw_ans n)) ∧ h2.1 = h.1 ∧ h2.2.1 = h.2.1 ∧ (∀ b, b ≠ o → h2.2.2 b = h.2.2 b) ∧ ((¬ (2 ≤ n ∧ n ≤ 4) ∧ h2 = h) ∨ ((2 ≤ n ∧ n ≤ 4) ∧ h2.2.2 o = (11, 5, am_up (am_up (am_up g 0 (vI n)) 1 (vI 0)) 4 (vI 0))))) := by
  iterate 3 (refine am_E.go rfl rfl ?_; dsimp only [Nat.reduceAdd])
  by_cases q1 : n < 2
  · rw [show am_cmp .lt n 2 = true by simp [am_cmp, q1]]
    iterate 1 (refine am_E.go rfl rfl ?_; dsimp only [Nat.reduceAdd])
    refine am_E.ret rfl rfl ⟨?_, rfl, rfl, fun _ _ => rfl, Or.inl ⟨by omega, rfl⟩⟩
    unfold rw_ans
    rw [if_neg (by omega)]
  · rw [show am_cmp .lt n 2 = false by simp [am_cmp]; omega]
    iterate 3 (refine am_E.go rfl rfl ?_; dsimp only [Nat.reduceAdd])
    by_cases q2 : 4 < n
    · rw [show am_cmp .le n 4 = false by simp [am_cmp]; omega]
      iterate 1 (refine am_E.go rfl rfl ?_; dsimp only [Nat.reduceAdd])
      refine am_E.ret rfl rfl ⟨?_, rfl, rfl, fun _ _ => rfl, Or.inl ⟨by omega, rfl⟩⟩
      unfold rw_ans
      rw [if_neg (by omega)]
    · rw [show am_cmp .le n 4 = true by simp [am_cmp]; omega]
      iterate 1 (refine am_E.go rfl rfl ?_; dsimp only [Nat.reduceAdd])
      refine ae_gf (x := 4) (y := 4) rfl hx hcx (by omega) hxo ?_
      iterate 1 (refine am_E.go rfl rfl ?_; dsimp only [Nat.reduceAdd])
      refine ae_callv (a := o) (as2 := [vI n]) (rest := []) rfl rfl (by decide) (Nat.le_of_ble_eq_true rfl) rfl rfl (by decide) ho hc rfl (Nat.le_of_ble_eq_true rfl) (rn_X1_begin (n := n) ho hc) ?_
      rintro r h2 ⟨rfl, b1, b2, b3, b4⟩
      show am_E _ (20, [vR x, vI n], [], h2) _
      iterate 1 (refine am_E.go rfl rfl ?_; dsimp only [Nat.reduceAdd])
      refine am_E.ret rfl rfl ⟨?_, b1, b2, b3, Or.inr ⟨by omega, b4⟩⟩
      unfold rw_ans
      rw [if_pos (by omega)]
/-- the reference's row(n): the same answer -/
theorem rn_X5_row {x : Nat} {g : Nat → am_V} {n : Int} {h : am_H} (hx : x < h.1) (hc : h.2.2 x = (15, 27, g)) :
    am_E ac_X5_row (0, [vR x, vI n], [], h) (fun r h2 => r = some (vI (rw_ans n)) ∧ h2.1 = h.1 ∧ h2.2.1 = h.2.1 ∧ (∀ b, b ≠ x → h2.2.2 b = h.2.2 b) ∧ ((¬ (2 ≤ n ∧ n ≤ 4) ∧ h2 = h) ∨ ((2 ≤ n ∧ n ≤ 4) ∧ h2.2.2 x = (15, 27, am_up (am_up g 9 (vI n)) 10 (vI 0))))) := by
  iterate 4 (refine am_E.go rfl rfl ?_; dsimp only [Nat.reduceAdd])
  refine am_E.call rfl rfl rfl (Nat.le_of_ble_eq_true rfl) (rn_in n 2 4 h) ?_
  rintro r h2 ⟨rfl, rfl⟩
  show am_E _ (11, [vR x, vI n], [vI (if 2 ≤ n ∧ n ≤ 4 then 1 else 0)], h2) _
  unfold rw_ans
  by_cases q : 2 ≤ n ∧ n ≤ 4
  · rw [if_pos q]
    iterate 3 (refine am_E.go rfl rfl ?_; dsimp only [Nat.reduceAdd])
    refine ae_pf (x := 5) (y := 9) rfl hx hc (by omega) rfl ?_
    iterate 2 (refine am_E.go rfl rfl ?_; dsimp only [Nat.reduceAdd])
    refine ae_pf (x := 5) (y := 10) rfl hx (am_wr_same hc) (by omega) rfl ?_
    iterate 1 (refine am_E.go rfl rfl ?_; dsimp only [Nat.reduceAdd])
    rw [if_pos q]
    exact am_E.ret rfl rfl ⟨rfl, rfl, rfl, fun b hb => by rw [am_wr_ne hb, am_wr_ne hb], Or.inr ⟨q, am_wr_same (am_wr_same hc)⟩⟩
  · rw [if_neg q]
    iterate 2 (refine am_E.go rfl rfl ?_; dsimp only [Nat.reduceAdd])
    rw [if_neg q]
    exact am_E.ret rfl rfl ⟨rfl, rfl, rfl, fun _ _ => rfl, Or.inl ⟨q, rfl⟩⟩
