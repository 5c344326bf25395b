/-! back, of the class and of the reference. -/
theorem rn_X1_dropLast {o : Nat} {g : Nat → am_V} {k : Nat} {h : am_H} (ho : o < h.1) (hc : h.2.2 o = (11, 5, g)) (hk : g 1 = vI (k : Int)) (hk8 : k ≤ 8) : am_E ac_X1_dropLast (0, [vR o], [], h) (fun r h2 => h2.1 = h.1 ∧ h2.2.1 = h.2.1 ∧ (∀ b, b ≠ o → h2.2.2 b = h.2.2 b) ∧ ((k = 0 ∧ r = some (vI 0) ∧ h2 = h) ∨ (0 < k ∧ r = some (vI 1) ∧ h2.2.2 o = (11, 5, am_up (am_up g 1 (vI ((k - 1 : Nat) : Int))) 4 (vI 0))))) := by
  iterate 1 (refine am_E.go rfl rfl ?_; dsimp only [Nat.reduceAdd])
  refine ae_gf (x := 1) (y := 1) rfl ho hc (by omega) hk ?_
  iterate 1 (refine am_E.go rfl rfl ?_; dsimp only [Nat.reduceAdd])
  by_cases q : k = 0
  · rw [show am_cmp .gt (k : Int) 0 = false by simp [am_cmp]; omega]
    iterate 1 (refine am_E.go rfl rfl ?_; dsimp only [Nat.reduceAdd])
    exact am_E.ret rfl rfl ⟨rfl, rfl, fun _ _ => rfl, Or.inl ⟨q, rfl, rfl⟩⟩
  · rw [show am_cmp .gt (k : Int) 0 = true by simp [am_cmp]; omega]
    iterate 2 (refine am_E.go rfl rfl ?_; dsimp only [Nat.reduceAdd])
    refine ae_gf (x := 1) (y := 1) rfl ho hc (by omega) hk ?_
    iterate 2 (refine am_E.go rfl rfl ?_; dsimp only [Nat.reduceAdd])
    rw [show am_w ((k : Int) - 1) = ((k - 1 : Nat) : Int) by rw [am_w_id (by unfold am_r32; omega)]; omega]
    refine ae_pf (x := 1) (y := 1) rfl ho hc (by omega) rfl ?_
    iterate 2 (refine am_E.go rfl rfl ?_; dsimp only [Nat.reduceAdd])
    refine ae_pf (x := 1) (y := 4) rfl ho (am_wr_same hc) (by omega) rfl ?_
    iterate 1 (refine am_E.go rfl rfl ?_; dsimp only [Nat.reduceAdd])
    exact am_E.ret rfl rfl ⟨rfl, rfl, fun b hb => by rw [am_wr_ne hb, am_wr_ne hb], Or.inr ⟨by omega, rfl, am_wr_same (am_wr_same hc)⟩⟩
/-- what back answers at k crossings -/
def bk_ans (k : Nat) : Int := if k = 0 then -2 else ((k - 1 : Nat) : Int)
theorem rn_X4_back {x o k : Nat} {g gx : Nat → am_V} {h : am_H} (hx : x < h.1) (hcx : h.2.2 x = (14, 5, gx)) (hxo : gx 4 = vR o) (hne : x ≠ o) (ho : o < h.1) (hc : h.2.2 o = (11, 5, g)) (hk : g 1 = vI (k : Int)) (hk8 : k ≤ 8) :
    am_E ac_X4_back (0, [vR x], [], h) (fun r h2 => r = some (vI (bk_ans k)) ∧ h2.1 = h.1 ∧ h2.2.1 = h.2.1 ∧ (∀ b, b ≠ o → h2.2.2 b = h.2.2 b) ∧ ((k = 0 ∧ h2 = h) ∨ (0 < k ∧ h2.2.2 o = (11, 5, am_up (am_up g 1 (vI ((k - 1 : Nat) : Int))) 4 (vI 0))))) := by
  iterate 1 (refine am_E.go rfl rfl ?_; dsimp only [Nat.reduceAdd])
  refine ae_gf (x := 4) (y := 4) rfl hx hcx (by omega) hxo ?_
  refine ae_callv (a := o) (as2 := []) (rest := []) rfl rfl (by decide) (Nat.le_of_ble_eq_true rfl) rfl rfl (by decide) ho hc rfl (Nat.le_of_ble_eq_true rfl) (rn_X1_dropLast ho hc hk hk8) ?_
  rintro r h2 ⟨b1, b2, b3, ⟨q, rfl, rfl⟩ | ⟨q, rfl, b4⟩⟩
  · show am_E _ (7, [vR x], [vI 0], h2) _
    iterate 2 (refine am_E.go rfl rfl ?_; dsimp only [Nat.reduceAdd])
    exact am_E.ret rfl rfl ⟨by unfold bk_ans; rw [if_pos q], rfl, rfl, fun _ _ => rfl, Or.inl ⟨q, rfl⟩⟩
  · show am_E _ (7, [vR x], [vI 1], h2) _
    iterate 2 (refine am_E.go rfl rfl ?_; dsimp only [Nat.reduceAdd])
    refine ae_gf (x := 4) (y := 4) rfl (by omega) (by rw [b3 x hne]; exact hcx) (by omega) hxo ?_
    refine ae_gf (x := 1) (y := 1) (v := vI ((k - 1 : Nat) : Int)) rfl (by omega) b4 (by omega) (by rw [am_up_n (by omega), am_up_s]) ?_
    iterate 1 (refine am_E.go rfl rfl ?_; dsimp only [Nat.reduceAdd])
    exact am_E.ret rfl rfl ⟨by unfold bk_ans; rw [if_neg (by omega)], b1, b2, b3, Or.inr ⟨q, b4⟩⟩
theorem rn_X5_back {x k : Nat} {g : Nat → am_V} {h : am_H} (hx : x < h.1) (hc : h.2.2 x = (15, 27, g)) (hk : g 10 = vI (k : Int)) (hk8 : k ≤ 8) :
    am_E ac_X5_back (0, [vR x], [], h) (fun r h2 => r = some (vI (bk_ans k)) ∧ h2.1 = h.1 ∧ h2.2.1 = h.2.1 ∧ (∀ b, b ≠ x → h2.2.2 b = h.2.2 b) ∧ ((k = 0 ∧ h2 = h) ∨ (0 < k ∧ h2.2.2 x = (15, 27, am_up g 10 (vI ((k - 1 : Nat) : Int)))))) := by
  iterate 1 (refine am_E.go rfl rfl ?_; dsimp only [Nat.reduceAdd])
  refine ae_gf (x := 5) (y := 10) rfl hx hc (by omega) hk ?_
  iterate 1 (refine am_E.go rfl rfl ?_; dsimp only [Nat.reduceAdd])
  by_cases q : k = 0
  · rw [show am_cmp .ne (k : Int) 0 = false by simp [am_cmp]; omega]
    iterate 1 (refine am_E.go rfl rfl ?_; dsimp only [Nat.reduceAdd])
    exact am_E.ret rfl rfl ⟨by unfold bk_ans; rw [if_pos q], rfl, rfl, fun _ _ => rfl, Or.inl ⟨q, rfl⟩⟩
  · rw [show am_cmp .ne (k : Int) 0 = true by simp [am_cmp]; omega]
    iterate 2 (refine am_E.go rfl rfl ?_; dsimp only [Nat.reduceAdd])
    refine ae_gf (x := 5) (y := 10) rfl hx hc (by omega) hk ?_
    iterate 2 (refine am_E.go rfl rfl ?_; dsimp only [Nat.reduceAdd])
    rw [show am_w ((k : Int) - 1) = ((k - 1 : Nat) : Int) by rw [am_w_id (by unfold am_r32; omega)]; omega]
    refine ae_pf (x := 5) (y := 10) rfl hx hc (by omega) rfl ?_
    iterate 1 (refine am_E.go rfl rfl ?_; dsimp only [Nat.reduceAdd])
    refine ae_gf (x := 5) (y := 10) (v := vI ((k - 1 : Nat) : Int)) rfl hx (am_wr_same hc) (by omega) am_up_s ?_
    exact am_E.ret rfl rfl ⟨by unfold bk_ans; rw [if_neg q], rfl, rfl, fun b hb => by rw [am_wr_ne hb], Or.inr ⟨by omega, am_wr_same hc⟩⟩
