/-! Small methods. -/
theorem rn_isStrands (n : Int) (h : am_H) : am_E ac_X4_isStrands (0, [vI n], [], h) (fun r h2 => r = some (vI (if 1 ≤ n ∧ n ≤ 4 then 1 else 0)) ∧ h2 = h) := by
  refine am_E.go rfl rfl ?_; dsimp only [Nat.reduceAdd]
  refine am_E.go rfl rfl ?_; dsimp only [Nat.reduceAdd]
  refine am_E.go rfl rfl ?_; dsimp only [Nat.reduceAdd]
  by_cases h1 : n < 1
  · rw [show am_cmp .lt n 1 = true by simp [am_cmp, h1]]
    refine am_E.go rfl rfl ?_; dsimp only [Nat.reduceAdd]
    refine am_E.ret rfl rfl ?_
    rw [if_neg (by omega)]
    exact ⟨rfl, rfl⟩
  · rw [show am_cmp .lt n 1 = false by simp [am_cmp]; omega]
    refine am_E.go rfl rfl ?_; dsimp only [Nat.reduceAdd]
    refine am_E.go rfl rfl ?_; dsimp only [Nat.reduceAdd]
    refine am_E.go rfl rfl ?_; dsimp only [Nat.reduceAdd]
    by_cases h2 : 4 < n
    · rw [show am_cmp .gt n 4 = true by simp [am_cmp, h2]]
      refine am_E.go rfl rfl ?_; dsimp only [Nat.reduceAdd]
      refine am_E.ret rfl rfl ?_
      rw [if_neg (by omega)]
      exact ⟨rfl, rfl⟩
    · rw [show am_cmp .gt n 4 = false by simp [am_cmp]; omega]
      refine am_E.go rfl rfl ?_; dsimp only [Nat.reduceAdd]
      refine am_E.go rfl rfl ?_; dsimp only [Nat.reduceAdd]
      refine am_E.ret rfl rfl ?_
      rw [if_pos (by omega)]
      exact ⟨rfl, rfl⟩
theorem rn_in (v lo hi : Int) (h : am_H) : am_E ac_X5_in (0, [vL v, vU, vL lo, vU, vL hi, vU], [], h) (fun r h2 => r = some (vI (if lo ≤ v ∧ v ≤ hi then 1 else 0)) ∧ h2 = h) := by
  iterate 4 (refine am_E.go rfl rfl ?_; dsimp only [Nat.reduceAdd])
  by_cases h1 : v < lo
  · rw [show am_cmp .lt (if v < lo then -1 else if v = lo then 0 else 1) 0 = true by simp [am_cmp, h1]]
    iterate 1 (refine am_E.go rfl rfl ?_; dsimp only [Nat.reduceAdd])
    refine am_E.ret rfl rfl ?_
    rw [if_neg (by omega)]
    exact ⟨rfl, rfl⟩
  · rw [show am_cmp .lt (if v < lo then -1 else if v = lo then 0 else 1) 0 = false by rw [if_neg h1]; split <;> rfl]
    iterate 4 (refine am_E.go rfl rfl ?_; dsimp only [Nat.reduceAdd])
    by_cases h2 : hi < v
    · rw [show am_cmp .gt (if v < hi then -1 else if v = hi then 0 else 1) 0 = true by rw [if_neg (by omega), if_neg (by omega)]; rfl]
      iterate 1 (refine am_E.go rfl rfl ?_; dsimp only [Nat.reduceAdd])
      refine am_E.ret rfl rfl ?_
      rw [if_neg (by omega)]
      exact ⟨rfl, rfl⟩
    · rw [show am_cmp .gt (if v < hi then -1 else if v = hi then 0 else 1) 0 = false by split <;> (try split) <;> first | rfl | omega]
      iterate 2 (refine am_E.go rfl rfl ?_; dsimp only [Nat.reduceAdd])
      refine am_E.ret rfl rfl ?_
      rw [if_pos (by omega)]
      exact ⟨rfl, rfl⟩
theorem rn_isWide (n : Int) (h : am_H) : am_E ac_X5_isWide (0, [vI n], [], h) (fun r h2 => r = some (vI (if 1 ≤ n ∧ n ≤ 4 then 1 else 0)) ∧ h2 = h) := by
  iterate 4 (refine am_E.go rfl rfl ?_; dsimp only [Nat.reduceAdd])
  refine am_E.call rfl rfl rfl (Nat.le_of_ble_eq_true rfl) (rn_in n 1 4 h) ?_
  rintro r h2 ⟨rfl, rfl⟩
  show am_E _ (9, [vI n], [vI (if 1 ≤ n ∧ n ≤ 4 then 1 else 0)], h2) _
  by_cases q : 1 ≤ n ∧ n ≤ 4
  · rw [if_pos q]
    exact am_E.ret rfl rfl ⟨rfl, rfl⟩
  · rw [if_neg q]
    exact am_E.ret rfl rfl ⟨rfl, rfl⟩
theorem rn_boxes (n : Int) (h : am_H) : am_E ac_X5_boxes (0, [vI n], [], h) (fun r h2 => r = some (vI (if n = 1 then 1 else if n = 2 then 3 else if n = 3 then 15 else 105)) ∧ h2 = h) := by
  iterate 3 (refine am_E.go rfl rfl ?_; dsimp only [Nat.reduceAdd])
  by_cases h1 : n = 1
  · rw [show am_cmp .ne n 1 = false by simp [am_cmp, h1], if_pos h1]
    iterate 2 (refine am_E.go rfl rfl ?_; dsimp only [Nat.reduceAdd])
    exact am_E.ret rfl rfl ⟨rfl, rfl⟩
  · rw [show am_cmp .ne n 1 = true by simp [am_cmp, h1], if_neg h1]
    iterate 3 (refine am_E.go rfl rfl ?_; dsimp only [Nat.reduceAdd])
    by_cases h2 : n = 2
    · rw [show am_cmp .ne n 2 = false by simp [am_cmp, h2], if_pos h2]
      iterate 2 (refine am_E.go rfl rfl ?_; dsimp only [Nat.reduceAdd])
      exact am_E.ret rfl rfl ⟨rfl, rfl⟩
    · rw [show am_cmp .ne n 2 = true by simp [am_cmp, h2], if_neg h2]
      iterate 3 (refine am_E.go rfl rfl ?_; dsimp only [Nat.reduceAdd])
      by_cases h3 : n = 3
      · rw [show am_cmp .ne n 3 = false by simp [am_cmp, h3], if_pos h3]
        iterate 2 (refine am_E.go rfl rfl ?_; dsimp only [Nat.reduceAdd])
        exact am_E.ret rfl rfl ⟨rfl, rfl⟩
      · rw [show am_cmp .ne n 3 = true by simp [am_cmp, h3], if_neg h3]
        iterate 1 (refine am_E.go rfl rfl ?_; dsimp only [Nat.reduceAdd])
        exact am_E.ret rfl rfl ⟨rfl, rfl⟩
theorem rn_first (n : Int) (h : am_H) : am_E ac_X5_first (0, [vI n], [], h) (fun r h2 => r = some (vI (if n = 1 then 0 else if n = 2 then 1 else if n = 3 then 4 else 19)) ∧ h2 = h) := by
  iterate 3 (refine am_E.go rfl rfl ?_; dsimp only [Nat.reduceAdd])
  by_cases h1 : n = 1
  · rw [show am_cmp .ne n 1 = false by simp [am_cmp, h1], if_pos h1]
    iterate 2 (refine am_E.go rfl rfl ?_; dsimp only [Nat.reduceAdd])
    exact am_E.ret rfl rfl ⟨rfl, rfl⟩
  · rw [show am_cmp .ne n 1 = true by simp [am_cmp, h1], if_neg h1]
    iterate 3 (refine am_E.go rfl rfl ?_; dsimp only [Nat.reduceAdd])
    by_cases h2 : n = 2
    · rw [show am_cmp .ne n 2 = false by simp [am_cmp, h2], if_pos h2]
      iterate 2 (refine am_E.go rfl rfl ?_; dsimp only [Nat.reduceAdd])
      exact am_E.ret rfl rfl ⟨rfl, rfl⟩
    · rw [show am_cmp .ne n 2 = true by simp [am_cmp, h2], if_neg h2]
      iterate 3 (refine am_E.go rfl rfl ?_; dsimp only [Nat.reduceAdd])
      by_cases h3 : n = 3
      · rw [show am_cmp .ne n 3 = false by simp [am_cmp, h3], if_pos h3]
        iterate 2 (refine am_E.go rfl rfl ?_; dsimp only [Nat.reduceAdd])
        exact am_E.ret rfl rfl ⟨rfl, rfl⟩
      · rw [show am_cmp .ne n 3 = true by simp [am_cmp, h3], if_neg h3]
        iterate 1 (refine am_E.go rfl rfl ?_; dsimp only [Nat.reduceAdd])
        exact am_E.ret rfl rfl ⟨rfl, rfl⟩
def b_n (n : Int) : Int := if n = 1 then 1 else if n = 2 then 3 else if n = 3 then 15 else 105
def f_n (n : Int) : Int := if n = 1 then 0 else if n = 2 then 1 else if n = 3 then 4 else 19
theorem rn_at (n b : Int) (h : am_H) : am_E ac_X5_at (0, [vI n, vI b], [], h) (fun r h2 => r = some (vI (am_w (8 * am_w (f_n n + b)))) ∧ h2 = h) := by
  iterate 2 (refine am_E.go rfl rfl ?_; dsimp only [Nat.reduceAdd])
  refine am_E.call rfl rfl rfl (Nat.le_of_ble_eq_true rfl) (rn_first n h) ?_
  rintro r h2 ⟨rfl, rfl⟩
  show am_E _ (6, [vI n, vI b], [vI (f_n n), vI 8], h2) _
  iterate 3 (refine am_E.go rfl rfl ?_; dsimp only [Nat.reduceAdd])
  exact am_E.ret rfl rfl ⟨rfl, rfl⟩
