/-! Boxes: small methods. -/
theorem rn_X0_forgetSeen {o a N len : Nat} {h : am_H} {g f : Nat → am_V} (hN : N ≤ len) (hN8 : N ≤ 8) (hoa : o ≠ a) (ho : o < h.1) (ha : a < h.1) (hc : h.2.2 o = (10, 11, g)) (h1 : g 1 = vI (N : Int)) (h10 : g 10 = vR a) (hca : h.2.2 a = (1, len, f)) :
    am_E ac_X0_forgetSeen (0, [vR o, vU], [], h) (fun r h2 => r = none ∧ h2.1 = h.1 ∧ h2.2.1 = h.2.1 ∧ (∀ b, b ≠ a → h2.2.2 b = h.2.2 b) ∧ ∃ f2, h2.2.2 a = (1, len, f2) ∧ (∀ j, j < N → f2 j = vI 0) ∧ ∀ j, N ≤ j → f2 j = f j) := by
  iterate 2 (refine am_E.go rfl rfl ?_; dsimp only [Nat.reduceAdd])
  show am_E _ (2, [vR o, vI ((0 : Nat) : Int)], [], h) _
  exact rn_forget_loop hN hN8 hoa N 0 h g f (by omega) ho ha hc h1 h10 hca (fun j hj => absurd hj (by omega))
theorem rn_X0_placeRound {o : Nat} {g : Nat → am_V} {S N p : Int} {h : am_H} (ho : o < h.1) (hc : h.2.2 o = (10, 11, g)) (hS : g 0 = vI S) (hN : g 1 = vI N) : am_E ac_X0_placeRound (0, [vR o, vI p], [], h) (fun r h2 => r = some (vI (if p < S then p else am_w (am_w (am_w (S + N) - 1) - p))) ∧ h2 = h) := by
  iterate 2 (refine am_E.go rfl rfl ?_; dsimp only [Nat.reduceAdd])
  refine ae_gf (x := 0) (y := 0) rfl ho hc (by omega) hS ?_
  iterate 1 (refine am_E.go rfl rfl ?_; dsimp only [Nat.reduceAdd])
  by_cases q : p < S
  · rw [show am_cmp .ge p S = false by simp [am_cmp]; omega]
    iterate 2 (refine am_E.go rfl rfl ?_; dsimp only [Nat.reduceAdd])
    exact am_E.ret rfl rfl ⟨by rw [if_pos q], rfl⟩
  · rw [show am_cmp .ge p S = true by simp [am_cmp]; omega]
    iterate 1 (refine am_E.go rfl rfl ?_; dsimp only [Nat.reduceAdd])
    refine ae_gf (x := 0) (y := 0) rfl ho hc (by omega) hS ?_
    iterate 1 (refine am_E.go rfl rfl ?_; dsimp only [Nat.reduceAdd])
    refine ae_gf (x := 0) (y := 1) rfl ho hc (by omega) hN ?_
    iterate 5 (refine am_E.go rfl rfl ?_; dsimp only [Nat.reduceAdd])
    exact am_E.ret rfl rfl ⟨by rw [if_neg q], rfl⟩
theorem rn_X5_round (n p : Int) (h : am_H) : am_E ac_X5_round (0, [vI n, vI p], [], h) (fun r h2 => r = some (vI (if p < n then p else am_w (am_w (am_w (3 * n) - 1) - p))) ∧ h2 = h) := by
  iterate 3 (refine am_E.go rfl rfl ?_; dsimp only [Nat.reduceAdd])
  by_cases q : p < n
  · rw [show am_cmp .ge p n = false by simp [am_cmp]; omega]
    iterate 2 (refine am_E.go rfl rfl ?_; dsimp only [Nat.reduceAdd])
    exact am_E.ret rfl rfl ⟨by rw [if_pos q], rfl⟩
  · rw [show am_cmp .ge p n = true by simp [am_cmp]; omega]
    iterate 7 (refine am_E.go rfl rfl ?_; dsimp only [Nat.reduceAdd])
    exact am_E.ret rfl rfl ⟨by rw [if_neg q], rfl⟩
theorem rn_X0_letterAt {o : Nat} {g : Nat → am_V} {S p : Int} {h : am_H} (ho : o < h.1) (hc : h.2.2 o = (10, 11, g)) (hS : g 0 = vI S) : am_E ac_X0_letterAt (0, [vR o, vI p], [], h) (fun r h2 => r = some (vI (if p < am_w (S - 1) then am_w (p + 1) else am_w (am_w (p - am_w (S - 1)) + 11))) ∧ h2 = h) := by
  iterate 2 (refine am_E.go rfl rfl ?_; dsimp only [Nat.reduceAdd])
  refine ae_gf (x := 0) (y := 0) rfl ho hc (by omega) hS ?_
  iterate 3 (refine am_E.go rfl rfl ?_; dsimp only [Nat.reduceAdd])
  by_cases q : p < am_w (S - 1)
  · rw [show am_cmp .ge p (am_w (S - 1)) = false by simp [am_cmp]; omega]
    iterate 4 (refine am_E.go rfl rfl ?_; dsimp only [Nat.reduceAdd])
    exact am_E.ret rfl rfl ⟨by rw [if_pos q], rfl⟩
  · rw [show am_cmp .ge p (am_w (S - 1)) = true by simp [am_cmp]; omega]
    iterate 2 (refine am_E.go rfl rfl ?_; dsimp only [Nat.reduceAdd])
    refine ae_gf (x := 0) (y := 0) rfl ho hc (by omega) hS ?_
    iterate 5 (refine am_E.go rfl rfl ?_; dsimp only [Nat.reduceAdd])
    exact am_E.ret rfl rfl ⟨by rw [if_neg q], rfl⟩
theorem rn_X0_pair {a n i j : Nat} {f : Nat → am_V} {h : am_H} (ha : a < h.1) (hc : h.2.2 a = (0, n, f)) (hi : i < n) (hj : j < n) : am_E ac_X0_pair (0, [vR a, vI (i : Int), vI (j : Int)], [], h) (fun r h2 => r = none ∧ h2.1 = h.1 ∧ h2.2.1 = h.2.1 ∧ (∀ b, b ≠ a → h2.2.2 b = h.2.2 b) ∧ h2.2.2 a = (0, n, am_up (am_up f i (vI (j : Int))) j (vI (i : Int)))) := by
  iterate 3 (refine am_E.go rfl rfl ?_; dsimp only [Nat.reduceAdd])
  refine ae_ast (kd := 0) rfl rfl ha hc rfl (j := i) hi rfl ?_
  iterate 3 (refine am_E.go rfl rfl ?_; dsimp only [Nat.reduceAdd])
  refine ae_ast (kd := 0) rfl rfl ha (am_wr_same hc) rfl (j := j) hj rfl ?_
  exact am_E.ret rfl rfl ⟨rfl, rfl, rfl, fun b hb => by rw [am_wr_ne hb, am_wr_ne hb], am_wr_same (am_wr_same hc)⟩
