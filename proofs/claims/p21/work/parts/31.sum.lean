/-! Sum: small tests. -/
theorem rn_X3_isFactor (v : Int) (h : am_H) : am_E ac_X3_isFactor (0, [vL v, vU], [], h) (fun r h2 => r = some (vI (if -1000000000000 ≤ v ∧ v ≤ 1000000000000 then 1 else 0)) ∧ h2 = h) := by
  iterate 4 (refine am_E.go rfl rfl ?_; dsimp only [Nat.reduceAdd])
  rw [show am_cst 1 999999999999 = -1000000000000 by decide]
  by_cases h1 : v < -1000000000000
  · rw [show am_cmp .lt (if v < -1000000000000 then -1 else if v = -1000000000000 then 0 else 1) 0 = true by rw [if_pos h1]; rfl]
    iterate 1 (refine am_E.go rfl rfl ?_; dsimp only [Nat.reduceAdd])
    exact am_E.ret rfl rfl ⟨by rw [if_neg (by omega)], rfl⟩
  · rw [show am_cmp .lt (if v < -1000000000000 then -1 else if v = -1000000000000 then 0 else 1) 0 = false by rw [if_neg h1]; split <;> rfl]
    iterate 4 (refine am_E.go rfl rfl ?_; dsimp only [Nat.reduceAdd])
    rw [show am_cst 0 1000000000000 = 1000000000000 by decide]
    by_cases h2 : 1000000000000 < v
    · rw [show am_cmp .gt (if v < 1000000000000 then -1 else if v = 1000000000000 then 0 else 1) 0 = true by rw [if_neg (by omega), if_neg (by omega)]; rfl]
      iterate 1 (refine am_E.go rfl rfl ?_; dsimp only [Nat.reduceAdd])
      exact am_E.ret rfl rfl ⟨by rw [if_neg (by omega)], rfl⟩
    · rw [show am_cmp .gt (if v < 1000000000000 then -1 else if v = 1000000000000 then 0 else 1) 0 = false by split <;> (try split) <;> first | rfl | omega]
      iterate 2 (refine am_E.go rfl rfl ?_; dsimp only [Nat.reduceAdd])
      exact am_E.ret rfl rfl ⟨by rw [if_pos (by omega)], rfl⟩
/-- Sum.isAt(i, b, power): the numbers in the cell a, the powers in the cell b9 -/
theorem rn_X3_isAt {o a p i k : Nat} {g fa fp : Nat → am_V} {b pw xa xp : Int} {h : am_H} (ho : o < h.1) (hc : h.2.2 o = (13, 5, g)) (hk : g 1 = vI (k : Int)) (hk40 : k ≤ 40) (hga : g 2 = vR a) (hgp : g 3 = vR p) (ha : a < h.1) (hp : p < h.1) (hca : h.2.2 a = (0, 40, fa)) (hcp : h.2.2 p = (0, 40, fp)) (hxa : i < k → fa i = vI xa) (hxp : i < k → fp i = vI xp) :
    am_E ac_X3_isAt (0, [vR o, vI (i : Int), vI b, vI pw], [], h) (fun r h2 => r = some (vI (if i < k ∧ xa = b ∧ xp = pw then 1 else 0)) ∧ h2 = h) := by
  iterate 2 (refine am_E.go rfl rfl ?_; dsimp only [Nat.reduceAdd])
  refine ae_gf (x := 3) (y := 1) rfl ho hc (by omega) hk ?_
  iterate 1 (refine am_E.go rfl rfl ?_; dsimp only [Nat.reduceAdd])
  by_cases q : i < k
  · rw [show am_cmp .ge (i : Int) (k : Int) = false by simp [am_cmp]; omega]
    iterate 1 (refine am_E.go rfl rfl ?_; dsimp only [Nat.reduceAdd])
    refine ae_gf (x := 3) (y := 2) rfl ho hc (by omega) hga ?_
    iterate 1 (refine am_E.go rfl rfl ?_; dsimp only [Nat.reduceAdd])
    refine ae_ald (ok := fun k => k == 0) rfl rfl ha hca rfl rfl (j := i) (by omega) (hxa q) ?_
    iterate 2 (refine am_E.go rfl rfl ?_; dsimp only [Nat.reduceAdd])
    by_cases q1 : xa = b
    · rw [show am_cmp .ne xa b = false by simp [am_cmp, q1]]
      iterate 1 (refine am_E.go rfl rfl ?_; dsimp only [Nat.reduceAdd])
      refine ae_gf (x := 3) (y := 3) rfl ho hc (by omega) hgp ?_
      iterate 1 (refine am_E.go rfl rfl ?_; dsimp only [Nat.reduceAdd])
      refine ae_ald (ok := fun k => k == 0) rfl rfl hp hcp rfl rfl (j := i) (by omega) (hxp q) ?_
      iterate 2 (refine am_E.go rfl rfl ?_; dsimp only [Nat.reduceAdd])
      by_cases q2 : xp = pw
      · rw [show am_cmp .ne xp pw = false by simp [am_cmp, q2]]
        iterate 2 (refine am_E.go rfl rfl ?_; dsimp only [Nat.reduceAdd])
        exact am_E.ret rfl rfl ⟨by rw [if_pos ⟨q, q1, q2⟩], rfl⟩
      · rw [show am_cmp .ne xp pw = true by simp [am_cmp, q2]]
        iterate 1 (refine am_E.go rfl rfl ?_; dsimp only [Nat.reduceAdd])
        exact am_E.ret rfl rfl ⟨by rw [if_neg (fun z => q2 z.2.2)], rfl⟩
    · rw [show am_cmp .ne xa b = true by simp [am_cmp, q1]]
      iterate 1 (refine am_E.go rfl rfl ?_; dsimp only [Nat.reduceAdd])
      exact am_E.ret rfl rfl ⟨by rw [if_neg (fun z => q1 z.2.1)], rfl⟩
  · rw [show am_cmp .ge (i : Int) (k : Int) = true by simp [am_cmp]; omega]
    iterate 1 (refine am_E.go rfl rfl ?_; dsimp only [Nat.reduceAdd])
    exact am_E.ret rfl rfl ⟨by rw [if_neg (fun z => q z.1)], rfl⟩
