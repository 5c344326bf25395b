/-! countPairings, at the four numbers of points. -/
theorem rn_X0_count2 (h : am_H) : am_E ac_X0_countPairings (0, [vI 2, vU, vU], [], h) (fun r h2 => r = some (vI 1) ∧ h2 = h) := by
  repeat (refine am_E.go rfl rfl ?_; dsimp only [Nat.reduceAdd])
  exact am_E.ret rfl rfl ⟨rfl, rfl⟩
theorem rn_X0_count4 (h : am_H) : am_E ac_X0_countPairings (0, [vI 4, vU, vU], [], h) (fun r h2 => r = some (vI 3) ∧ h2 = h) := by
  repeat (refine am_E.go rfl rfl ?_; dsimp only [Nat.reduceAdd])
  exact am_E.ret rfl rfl ⟨rfl, rfl⟩
theorem rn_X0_count6 (h : am_H) : am_E ac_X0_countPairings (0, [vI 6, vU, vU], [], h) (fun r h2 => r = some (vI 15) ∧ h2 = h) := by
  repeat (refine am_E.go rfl rfl ?_; dsimp only [Nat.reduceAdd])
  exact am_E.ret rfl rfl ⟨rfl, rfl⟩
theorem rn_X0_count8 (h : am_H) : am_E ac_X0_countPairings (0, [vI 8, vU, vU], [], h) (fun r h2 => r = some (vI 105) ∧ h2 = h) := by
  repeat (refine am_E.go rfl rfl ?_; dsimp only [Nat.reduceAdd])
  exact am_E.ret rfl rfl ⟨rfl, rfl⟩
