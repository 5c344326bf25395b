/-! Boxes: small methods. -/
theorem rn_X0_forgetSeen {o a N len : Nat} {h : am_H} {g f : Nat → am_V} (hN : N ≤ len) (hN8 : N ≤ 8) (hoa : o ≠ a) (ho : o < h.1) (ha : a < h.1) (hc : h.2.2 o = (10, 11, g)) (h1 : g 1 = vI (N : Int)) (h10 : g 10 = vR a) (hca : h.2.2 a = (1, len, f)) :
    am_E ac_X0_forgetSeen (0, [vR o, vU], [], h) (fun r h2 => r = none ∧ h2.1 = h.1 ∧ h2.2.1 = h.2.1 ∧ (∀ b, b ≠ a → h2.2.2 b = h.2.2 b) ∧ ∃ f2, h2.2.2 a = (1, len, f2) ∧ (∀ j, j < N → f2 j = vI 0) ∧ ∀ j, N ≤ j → f2 j = f j) := by
  iterate 2 (refine am_E.go rfl rfl ?_; dsimp only [Nat.reduceAdd])
  show am_E _ (2, [vR o, vI ((0 : Nat) : Int)], [], h) _
  exact rn_forget_loop hN hN8 hoa N 0 h g f (by omega) ho ha hc h1 h10 hca (fun j hj => absurd hj (by omega))
