/-! Small methods. -/
theorem rn_isStrands (n : Int) (h : am_H) : am_E ac_X4_isStrands (0, [vI n], [], h) (fun r h2 => r = some (vI (if 1 ≤ n ∧ n ≤ 4 then 1 else 0)) ∧ h2 = h) := by
  refine am_E.go rfl rfl ?_
  refine am_E.go rfl rfl ?_
  refine am_E.go rfl rfl ?_
  by_cases h1 : n < 1
  · rw [show am_cmp .lt n 1 = true by simp [am_cmp, h1]]
    refine am_E.go rfl rfl ?_
    refine am_E.ret rfl rfl ?_
    rw [if_neg (by omega)]
    exact ⟨rfl, rfl⟩
  · rw [show am_cmp .lt n 1 = false by simp [am_cmp]; omega]
    refine am_E.go rfl rfl ?_
    refine am_E.go rfl rfl ?_
    refine am_E.go rfl rfl ?_
    by_cases h2 : 4 < n
    · rw [show am_cmp .gt n 4 = true by simp [am_cmp, h2]]
      refine am_E.go rfl rfl ?_
      refine am_E.ret rfl rfl ?_
      rw [if_neg (by omega)]
      exact ⟨rfl, rfl⟩
    · rw [show am_cmp .gt n 4 = false by simp [am_cmp]; omega]
      refine am_E.go rfl rfl ?_
      refine am_E.go rfl rfl ?_
      refine am_E.ret rfl rfl ?_
      rw [if_pos (by omega)]
      exact ⟨rfl, rfl⟩
