/-! Runs: what touches the cells. -/
theorem am_wr_same {h : am_H} {a i k n : Nat} {f : Nat → am_V} {v : am_V} (hc : h.2.2 a = (k, n, f)) : (am_wr h a i v).2.2 a = (k, n, am_up f i v) := by
  unfold am_wr am_up
  simp [hc]
theorem am_wr_ne {h : am_H} {a b i : Nat} {v : am_V} (hb : b ≠ a) : (am_wr h a i v).2.2 b = h.2.2 b := by
  unfold am_wr am_up
  simp [hb]
theorem am_up_s {α : Type} {f : Nat → α} {i : Nat} {v : α} : am_up f i v i = v := by simp [am_up]
theorem am_up_n {α : Type} {f : Nat → α} {i j : Nat} {v : α} (h : j ≠ i) : am_up f i v j = f j := by simp [am_up, h]
section AE
variable {C : am_C} {pc : Nat} {ls st : List am_V} {h : am_H} {Z : Option am_V → am_H → Prop}
theorem ae_gf {i x y a n : Nat} {f : Nat → am_V} {v : am_V} (hrow : am_row C pc = some (.getfield i, 3, x, y)) (ha : a < h.1) (hc : h.2.2 a = (10 + x, n, f)) (hy : y < n) (hv : f y = v) (k : am_E C (pc + 3, ls, v :: st, h) Z) : am_E C (pc, ls, vR a :: st, h) Z := by
  refine am_E.go hrow ?_ k
  show am_gf 3 x y (pc, ls, vR a :: st, h) = _
  unfold am_gf
  simp only [hc]
  rw [if_pos ⟨ha, trivial, hy⟩, hv]
theorem ae_pf {i x y a n : Nat} {f : Nat → am_V} {v : am_V} (hrow : am_row C pc = some (.putfield i, 3, x, y)) (ha : a < h.1) (hc : h.2.2 a = (10 + x, n, f)) (hy : y < n) (hv : am_fok (ac_ft x y) v = true) (k : am_E C (pc + 3, ls, st, am_wr h a y v) Z) : am_E C (pc, ls, v :: vR a :: st, h) Z := by
  refine am_E.go hrow ?_ k
  show am_pf ac_ft 3 x y (pc, ls, v :: vR a :: st, h) = _
  unfold am_pf
  simp only [hc]
  rw [if_pos ⟨ha, trivial, hy, hv⟩]
theorem ae_ald {ins : Instr} {ok : Nat → Bool} {x y a kd n j : Nat} {i : Int} {f : Nat → am_V} {v : am_V} (hrow : am_row C pc = some (ins, 1, x, y)) (hs : am_sem ac_ft ins = am_ald ok) (ha : a < h.1) (hc : h.2.2 a = (kd, n, f)) (hok : ok kd = true) (hi : i = (j : Int)) (hj : j < n) (hv : f j = v) (k : am_E C (pc + 1, ls, v :: st, h) Z) : am_E C (pc, ls, vI i :: vR a :: st, h) Z := by
  refine am_E.go hrow ?_ k
  show am_sem ac_ft ins 1 x y (pc, ls, vI i :: vR a :: st, h) = _
  rw [hs]
  unfold am_ald
  simp only [hc]
  rw [if_pos ⟨ha, hok, by omega, by omega⟩, hi, Int.toNat_natCast, hv]
theorem ae_ast {ins : Instr} {kd x y a n j : Nat} {i : Int} {f : Nat → am_V} {v : am_V} (hrow : am_row C pc = some (ins, 1, x, y)) (hs : am_sem ac_ft ins = am_ast kd kd) (ha : a < h.1) (hc : h.2.2 a = (kd, n, f)) (hi : i = (j : Int)) (hj : j < n) (hv : am_fok kd v = true) (k : am_E C (pc + 1, ls, st, am_wr h a j v) Z) : am_E C (pc, ls, v :: vI i :: vR a :: st, h) Z := by
  refine am_E.go hrow ?_ k
  show am_sem ac_ft ins 1 x y (pc, ls, v :: vI i :: vR a :: st, h) = _
  rw [hs]
  unfold am_ast
  simp only [hc]
  rw [if_pos ⟨ha, trivial, hv, by omega, by omega⟩, hi, Int.toNat_natCast]
end AE
/-- seen is all false, nothing else changes: from the loop's head, k places are done -/
theorem rn_forget_loop {o a N len : Nat} (hN : N ≤ len) (hN8 : N ≤ 8) (hoa : o ≠ a) : ∀ (d k : Nat) (h : am_H) (g f : Nat → am_V), d + k = N → o < h.1 → a < h.1 → h.2.2 o = (10, 11, g) → g 1 = vI (N : Int) → g 10 = vR a → h.2.2 a = (1, len, f) → (∀ j, j < k → f j = vI 0) →
    am_E ac_X0_forgetSeen (2, [vR o, vI (k : Int)], [], h) (fun r h2 => r = none ∧ h2.1 = h.1 ∧ h2.2.1 = h.2.1 ∧ (∀ b, b ≠ a → h2.2.2 b = h.2.2 b) ∧ ∃ f2, h2.2.2 a = (1, len, f2) ∧ (∀ j, j < N → f2 j = vI 0) ∧ ∀ j, N ≤ j → f2 j = f j)
  | 0, k, h, g, f, hd, ho, ha, hc, h1, h10, hca, hf => by
    iterate 2 (refine am_E.go rfl rfl ?_; dsimp only [Nat.reduceAdd])
    refine ae_gf (x := 0) (y := 1) rfl ho hc (by omega) h1 ?_
    refine am_E.go rfl rfl ?_; dsimp only [Nat.reduceAdd]
    rw [show am_cmp .ge (k : Int) (N : Int) = true by simp [am_cmp]; omega]
    refine am_E.ret rfl rfl ⟨rfl, rfl, rfl, fun _ _ => rfl, f, hca, fun j hj => hf j (by omega), fun _ _ => rfl⟩
  | d + 1, k, h, g, f, hd, ho, ha, hc, h1, h10, hca, hf => by
    iterate 2 (refine am_E.go rfl rfl ?_; dsimp only [Nat.reduceAdd])
    refine ae_gf (x := 0) (y := 1) rfl ho hc (by omega) h1 ?_
    refine am_E.go rfl rfl ?_; dsimp only [Nat.reduceAdd]
    rw [show am_cmp .ge (k : Int) (N : Int) = false by simp [am_cmp]; omega]
    refine am_E.go rfl rfl ?_; dsimp only [Nat.reduceAdd]
    refine ae_gf (x := 0) (y := 10) rfl ho hc (by omega) h10 ?_
    iterate 2 (refine am_E.go rfl rfl ?_; dsimp only [Nat.reduceAdd])
    refine ae_ast (kd := 1) rfl rfl ha hca rfl (j := k) (by omega) rfl ?_
    iterate 2 (refine am_E.go rfl rfl ?_; dsimp only [Nat.reduceAdd])
    have e : am_w ((k : Int) + 1) = ((k + 1 : Nat) : Int) := by
      rw [am_w_id (by unfold am_r32; omega)]
      omega
    show am_E _ (2, [vR o, vI (am_w ((k : Int) + 1))], [], am_wr h a k (vI 0)) _
    rw [e]
    refine (rn_forget_loop hN hN8 hoa d (k + 1) (am_wr h a k (vI 0)) g (am_up f k (vI 0)) (by omega) ho ha (by rw [am_wr_ne hoa]; exact hc) h1 h10 (am_wr_same hca) (fun j hj => ?_)).imp (fun r h2 q => ?_)
    · by_cases e9 : j = k
      · rw [e9, am_up_s]
      · rw [am_up_n e9]
        exact hf j (by omega)
    · obtain ⟨q1, q2, q3, q4, f2, q5, q6, q7⟩ := q
      exact ⟨q1, q2, q3, fun b hb => by rw [q4 b hb, am_wr_ne hb], f2, q5, q6, fun j hj => by rw [q7 j hj, am_up_n (by omega)]⟩
