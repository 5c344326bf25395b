/-! Runs: calls on an object, new cells, copies. -/
section AE
variable {C : am_C} {pc : Nat} {ls st : List am_V} {h : am_H} {Z : Option am_V → am_H → Prop}
theorem ae_callv {ins : Instr} {x y mL a n : Nat} {f : Nat → am_V} {as2 rest : List am_V} {C2 : am_C} {Z2 : Option am_V → am_H → Prop} (hrow : am_row C pc = some (ins, 3, x, y)) (hs : am_sem ac_ft ins = am_inv) (hx : 1000 ≤ x) (hy : y ≤ st.length) (has : (st.take y).reverse = vR a :: as2) (hrest : st.drop y = rest) (hcat : (rest.map am_cat).sum ≤ 8) (ha : a < h.1) (hc : h.2.2 a = (9 + x / 1000, n, f))
    (hM : ac_L[x % 1000]? = some (C2, mL)) (hcat2 : ((vR a :: as2).map am_cat).sum ≤ mL) (hk : am_E C2 (0, am_pad mL (vR a :: as2), [], h) Z2) (k : ∀ r h2, Z2 r h2 → am_E C (pc + 3, ls, r.toList ++ rest, h2) Z) : am_E C (pc, ls, st, h) Z := by
  have hr : am_rcv h x (st.take y).reverse = true := by
    rw [has]
    unfold am_rcv
    rw [if_neg (by omega)]
    simp only [hc, Bool.and_eq_true, decide_eq_true_eq]
    exact ⟨ha, trivial⟩
  have hr2 : ((st.drop y).map am_cat).sum ≤ 8 := by
    rw [hrest]
    exact hcat
  refine am_E.call (q := (x % 1000, vR a :: as2, pc + 3, ls, rest, h)) (M := (C2, mL)) hrow ?_ hM hcat2 hk k
  show am_sem ac_ft ins 3 x y (pc, ls, st, h) = _
  rw [hs]
  unfold am_inv
  rw [if_neg (by omega), if_neg (by omega), if_pos ⟨hy, hr2, hr⟩, has, hrest]
theorem ae_newa {ins : Instr} {len lo top x y n : Nat} {i : Int} (hrow : am_row C pc = some (ins, len, x, y)) (hs : am_sem ac_ft ins = am_newa lo top) (hi : i = (n : Int)) (hn : n ≤ 1024) (hx : lo ≤ x ∧ x ≤ top) (k : am_E C (pc + len, ls, vR h.1 :: st, am_mk h x n (fun _ => am_dv x)) Z) : am_E C (pc, ls, vI i :: st, h) Z := by
  refine am_E.go hrow ?_ k
  show am_sem ac_ft ins len x y (pc, ls, vI i :: st, h) = _
  rw [hs]
  unfold am_newa
  simp only []
  rw [if_pos ⟨by omega, by omega, hx.1, hx.2⟩, hi, Int.toNat_natCast]
theorem ae_mna {j d x y n m : Nat} {i i2 : Int} (hrow : am_row C pc = some (.multianewarray j d, 4, x, y)) (hi : i = (n : Int)) (hi2 : i2 = (m : Int)) (hn : n ≤ 1024) (hm : m ≤ 1024) (k : am_E C (pc + 4, ls, vR h.1 :: st, am_grid h n m) Z) : am_E C (pc, ls, vI i2 :: vI i :: st, h) Z := by
  refine am_E.go hrow ?_ k
  show am_mna 4 x y (pc, ls, vI i2 :: vI i :: st, h) = _
  unfold am_mna
  simp only []
  rw [if_pos ⟨by omega, by omega, by omega, by omega⟩, hi, hi2, Int.toNat_natCast, Int.toNat_natCast]
theorem ae_aast {x y a b j n : Nat} {i : Int} {kd n2 : Nat} {f g : Nat → am_V} (hrow : am_row C pc = some (.aastore, 1, x, y)) (ha : a < h.1) (hb : b < h.1) (hc : h.2.2 a = (kd, n, f)) (hd : h.2.2 b = (am_comp kd, n2, g)) (h4 : 4 ≤ kd) (h7 : kd < 7) (hi : i = (j : Int)) (hj : j < n) (k : am_E C (pc + 1, ls, st, am_wr h a j (vR b)) Z) : am_E C (pc, ls, vR b :: vI i :: vR a :: st, h) Z := by
  refine am_E.go hrow ?_ k
  show am_aast 1 x y (pc, ls, vR b :: vI i :: vR a :: st, h) = _
  unfold am_aast
  simp only [hc, hd]
  rw [if_pos ⟨ha, hb, h4, h7, trivial, by omega, by omega⟩, hi, Int.toNat_natCast]
/-- the heap behind a copy of n places -/
def am_cp (h : am_H) (a sp b dp n : Nat) : am_H := (h.1, h.2.1, am_up h.2.2 b ((h.2.2 b).1, (h.2.2 b).2.1, am_cpy (h.2.2 a).2.2 (h.2.2 b).2.2 sp dp n))
theorem ae_copy {j y a b ka na nb sp dp n : Nat} {i1 i2 i3 : Int} {f g : Nat → am_V} (hrow : am_row C pc = some (.invokestatic j, 3, 901, y)) (ha : a < h.1) (hb : b < h.1) (hc : h.2.2 a = (ka, na, f)) (hd : h.2.2 b = (ka, nb, g)) (hk : ka = 0 ∨ ka = 2) (h1 : i1 = (sp : Int)) (h2 : i2 = (dp : Int)) (h3 : i3 = (n : Int)) (h4 : sp + n ≤ na) (h5 : dp + n ≤ nb) (k : am_E C (pc + 3, ls, [], am_cp h a sp b dp n) Z) : am_E C (pc, ls, [vI i3, vI i2, vR b, vI i1, vR a], h) Z := by
  refine am_E.go hrow ?_ k
  show am_acopy 3 901 y (pc, ls, [vI i3, vI i2, vR b, vI i1, vR a], h) = _
  subst h1
  subst h2
  subst h3
  unfold am_acopy am_cp
  simp only [hc, hd]
  rw [if_pos ⟨ha, hb, trivial, hk, by omega, by omega, by omega, by omega, by omega⟩]
  simp only [Int.toNat_natCast]
end AE
/-- across: the point in the same place on the other side -/
theorem rn_across {o n : Nat} {g : Nat → am_V} {S p : Int} {h : am_H} (ho : o < h.1) (hc : h.2.2 o = (10, n, g)) (hn : 0 < n) (hS : g 0 = vI S) : am_E ac_X0_across (0, [vR o, vI p], [], h) (fun r h2 => r = some (vI (if p < S then am_w (p + S) else am_w (p - S))) ∧ h2 = h) := by
  iterate 2 (refine am_E.go rfl rfl ?_; dsimp only [Nat.reduceAdd])
  refine ae_gf (x := 0) (y := 0) rfl ho hc hn hS ?_
  refine am_E.go rfl rfl ?_; dsimp only [Nat.reduceAdd]
  by_cases q : p < S
  · rw [show am_cmp .ge p S = false by simp [am_cmp]; omega, if_pos q]
    iterate 2 (refine am_E.go rfl rfl ?_; dsimp only [Nat.reduceAdd])
    refine ae_gf (x := 0) (y := 0) rfl ho hc hn hS ?_
    iterate 2 (refine am_E.go rfl rfl ?_; dsimp only [Nat.reduceAdd])
    exact am_E.ret rfl rfl ⟨rfl, rfl⟩
  · rw [show am_cmp .ge p S = true by simp [am_cmp]; omega, if_neg q]
    iterate 2 (refine am_E.go rfl rfl ?_; dsimp only [Nat.reduceAdd])
    refine ae_gf (x := 0) (y := 0) rfl ho hc hn hS ?_
    iterate 1 (refine am_E.go rfl rfl ?_; dsimp only [Nat.reduceAdd])
    exact am_E.ret rfl rfl ⟨rfl, rfl⟩
