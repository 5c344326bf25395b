/-! Small tests of arguments. -/
theorem rn_X4_isSum (n : Int) (h : am_H) : am_E ac_X4_isSum (0, [vI n], [], h) (fun r h2 => r = some (vI (if 0 ≤ n ∧ n < 8 then 1 else 0)) ∧ h2 = h) := by
  iterate 2 (refine am_E.go rfl rfl ?_; dsimp only [Nat.reduceAdd])
  by_cases q : n < 0
  · rw [show am_cmp .lt n 0 = true by simp [am_cmp, q]]
    iterate 1 (refine am_E.go rfl rfl ?_; dsimp only [Nat.reduceAdd])
    exact am_E.ret rfl rfl ⟨by rw [if_neg (by omega)], rfl⟩
  · rw [show am_cmp .lt n 0 = false by simp [am_cmp]; omega]
    iterate 3 (refine am_E.go rfl rfl ?_; dsimp only [Nat.reduceAdd])
    by_cases q1 : 8 ≤ n
    · rw [show am_cmp .ge n 8 = true by simp [am_cmp]; omega]
      iterate 1 (refine am_E.go rfl rfl ?_; dsimp only [Nat.reduceAdd])
      exact am_E.ret rfl rfl ⟨by rw [if_neg (by omega)], rfl⟩
    · rw [show am_cmp .ge n 8 = false by simp [am_cmp]; omega]
      iterate 2 (refine am_E.go rfl rfl ?_; dsimp only [Nat.reduceAdd])
      exact am_E.ret rfl rfl ⟨by rw [if_pos (by omega)], rfl⟩
theorem rn_X5_isSum (n : Int) (h : am_H) : am_E ac_X5_isSum (0, [vI n], [], h) (fun r h2 => r = some (vI (if 0 ≤ n ∧ n ≤ 7 then 1 else 0)) ∧ h2 = h) := by
  iterate 4 (refine am_E.go rfl rfl ?_; dsimp only [Nat.reduceAdd])
  refine am_E.call rfl rfl rfl (Nat.le_of_ble_eq_true rfl) (rn_in n 0 7 h) ?_
  rintro r h2 ⟨rfl, rfl⟩
  show am_E _ (9, [vI n], [vI (if 0 ≤ n ∧ n ≤ 7 then 1 else 0)], h2) _
  by_cases q : 0 ≤ n ∧ n ≤ 7
  · rw [if_pos q]
    exact am_E.ret rfl rfl ⟨rfl, rfl⟩
  · rw [if_neg q]
    exact am_E.ret rfl rfl ⟨rfl, rfl⟩
theorem rn_X4_isThrough (n t : Int) (h : am_H) : am_E ac_X4_isThrough (0, [vI n, vI t], [], h) (fun r h2 => r = some (vI (if (1 ≤ n ∧ n ≤ 4) ∧ 0 ≤ t ∧ t ≤ n then 1 else 0)) ∧ h2 = h) := by
  iterate 1 (refine am_E.go rfl rfl ?_; dsimp only [Nat.reduceAdd])
  refine am_E.call rfl rfl rfl (Nat.le_of_ble_eq_true rfl) (rn_isStrands n h) ?_
  rintro r h2 ⟨rfl, rfl⟩
  show am_E _ (4, [vI n, vI t], [vI (if 1 ≤ n ∧ n ≤ 4 then 1 else 0)], h2) _
  by_cases q : 1 ≤ n ∧ n ≤ 4
  · rw [if_pos q]
    iterate 3 (refine am_E.go rfl rfl ?_; dsimp only [Nat.reduceAdd])
    by_cases q1 : t < 0
    · rw [show am_cmp .lt t 0 = true by simp [am_cmp, q1]]
      iterate 1 (refine am_E.go rfl rfl ?_; dsimp only [Nat.reduceAdd])
      exact am_E.ret rfl rfl ⟨by rw [if_neg (by omega)], rfl⟩
    · rw [show am_cmp .lt t 0 = false by simp [am_cmp]; omega]
      iterate 3 (refine am_E.go rfl rfl ?_; dsimp only [Nat.reduceAdd])
      by_cases q2 : n < t
      · rw [show am_cmp .gt t n = true by simp [am_cmp, q2]]
        iterate 1 (refine am_E.go rfl rfl ?_; dsimp only [Nat.reduceAdd])
        exact am_E.ret rfl rfl ⟨by rw [if_neg (by omega)], rfl⟩
      · rw [show am_cmp .gt t n = false by simp [am_cmp]; omega]
        iterate 2 (refine am_E.go rfl rfl ?_; dsimp only [Nat.reduceAdd])
        exact am_E.ret rfl rfl ⟨by rw [if_pos (by omega)], rfl⟩
  · rw [if_neg q]
    iterate 2 (refine am_E.go rfl rfl ?_; dsimp only [Nat.reduceAdd])
    exact am_E.ret rfl rfl ⟨by rw [if_neg (fun z => q z.1)], rfl⟩
theorem rn_X5_areHalves (n t : Int) (h : am_H) : am_E ac_X5_areHalves (0, [vI n, vI t], [], h) (fun r h2 => r = some (vI (if (1 ≤ n ∧ n ≤ 4) ∧ 0 ≤ t ∧ t ≤ n then 1 else 0)) ∧ h2 = h) := by
  iterate 1 (refine am_E.go rfl rfl ?_; dsimp only [Nat.reduceAdd])
  refine am_E.call rfl rfl rfl (Nat.le_of_ble_eq_true rfl) (rn_isWide n h) ?_
  rintro r h2 ⟨rfl, rfl⟩
  show am_E _ (4, [vI n, vI t], [vI (if 1 ≤ n ∧ n ≤ 4 then 1 else 0)], h2) _
  by_cases q : 1 ≤ n ∧ n ≤ 4
  · rw [if_pos q]
    iterate 6 (refine am_E.go rfl rfl ?_; dsimp only [Nat.reduceAdd])
    refine am_E.call rfl rfl rfl (Nat.le_of_ble_eq_true rfl) (rn_in t 0 n h2) ?_
    rintro r h3 ⟨rfl, rfl⟩
    show am_E _ (15, [vI n, vI t], [vI (if 0 ≤ t ∧ t ≤ n then 1 else 0)], h3) _
    by_cases q1 : 0 ≤ t ∧ t ≤ n
    · rw [if_pos q1]
      iterate 3 (refine am_E.go rfl rfl ?_; dsimp only [Nat.reduceAdd])
      exact am_E.ret rfl rfl ⟨by rw [if_pos ⟨q, q1⟩], rfl⟩
    · rw [if_neg q1]
      iterate 2 (refine am_E.go rfl rfl ?_; dsimp only [Nat.reduceAdd])
      exact am_E.ret rfl rfl ⟨by rw [if_neg (fun z => q1 z.2)], rfl⟩
  · rw [if_neg q]
    iterate 2 (refine am_E.go rfl rfl ?_; dsimp only [Nat.reduceAdd])
    exact am_E.ret rfl rfl ⟨by rw [if_neg (fun z => q z.1)], rfl⟩
theorem rn_X3_begin {o : Nat} {g : Nat → am_V} {n : Int} {h : am_H} (ho : o < h.1) (hc : h.2.2 o = (13, 5, g)) : am_E ac_X3_begin (0, [vR o, vI n], [], h) (fun r h2 => r = none ∧ h2.1 = h.1 ∧ h2.2.1 = h.2.1 ∧ (∀ b, b ≠ o → h2.2.2 b = h.2.2 b) ∧ h2.2.2 o = (13, 5, am_up (am_up g 0 (vI n)) 1 (vI 0))) := by
  iterate 2 (refine am_E.go rfl rfl ?_; dsimp only [Nat.reduceAdd])
  refine ae_pf (x := 3) (y := 0) rfl ho hc (by omega) rfl ?_
  iterate 2 (refine am_E.go rfl rfl ?_; dsimp only [Nat.reduceAdd])
  refine ae_pf (x := 3) (y := 1) rfl ho (am_wr_same hc) (by omega) rfl ?_
  exact am_E.ret rfl rfl ⟨rfl, rfl, rfl, fun b hb => by rw [am_wr_ne hb, am_wr_ne hb], am_wr_same (am_wr_same hc)⟩
