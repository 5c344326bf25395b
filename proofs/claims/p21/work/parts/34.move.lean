/-! The reference's move(to, from): one place of the row's three arrays. -/
theorem rn_X5_move {x a b c i j : Nat} {g fa fb fc : Nat → am_V} {va vb vc : Int} {h : am_H} (hx : x < h.1) (hc : h.2.2 x = (15, 27, g)) (hga : g 18 = vR a) (hgb : g 19 = vR b) (hgc : g 20 = vR c) (ha : a < h.1) (hb : b < h.1) (hcc : c < h.1) (hca : h.2.2 a = (0, 42, fa)) (hcb : h.2.2 b = (0, 42, fb)) (hcd : h.2.2 c = (2, 42, fc)) (hxa : x ≠ a) (hxb : x ≠ b) (hab : b ≠ a) (hac : c ≠ a) (hbc : c ≠ b) (hi : i < 42) (hj : j < 42) (hva : fa j = vI va) (hvb : fb j = vI vb) (hvc : fc j = vL vc) :
    am_E ac_X5_move (0, [vR x, vI (i : Int), vI (j : Int)], [], h) (fun r h2 => r = none ∧ h2.1 = h.1 ∧ h2.2.1 = h.2.1 ∧ (∀ d, d ≠ a → d ≠ b → d ≠ c → h2.2.2 d = h.2.2 d) ∧ h2.2.2 a = (0, 42, am_up fa i (vI va)) ∧ h2.2.2 b = (0, 42, am_up fb i (vI vb)) ∧ h2.2.2 c = (2, 42, am_up fc i (vL vc))) := by
  iterate 1 (refine am_E.go rfl rfl ?_; dsimp only [Nat.reduceAdd])
  refine ae_gf (x := 5) (y := 18) rfl hx hc (by omega) hga ?_
  iterate 2 (refine am_E.go rfl rfl ?_; dsimp only [Nat.reduceAdd])
  refine ae_gf (x := 5) (y := 18) rfl hx hc (by omega) hga ?_
  iterate 1 (refine am_E.go rfl rfl ?_; dsimp only [Nat.reduceAdd])
  refine ae_ald (ok := fun k => k == 0) rfl rfl ha hca rfl rfl (j := j) hj hva ?_
  refine ae_ast (kd := 0) rfl rfl ha hca rfl (j := i) hi rfl ?_
  have hc1 : (am_wr h a i (vI va)).2.2 x = (15, 27, g) := by rw [am_wr_ne hxa]; exact hc
  have hb1 : (am_wr h a i (vI va)).2.2 b = (0, 42, fb) := by rw [am_wr_ne hab]; exact hcb
  have hd1 : (am_wr h a i (vI va)).2.2 c = (2, 42, fc) := by rw [am_wr_ne hac]; exact hcd
  iterate 1 (refine am_E.go rfl rfl ?_; dsimp only [Nat.reduceAdd])
  refine ae_gf (x := 5) (y := 19) rfl hx hc1 (by omega) hgb ?_
  iterate 2 (refine am_E.go rfl rfl ?_; dsimp only [Nat.reduceAdd])
  refine ae_gf (x := 5) (y := 19) rfl hx hc1 (by omega) hgb ?_
  iterate 1 (refine am_E.go rfl rfl ?_; dsimp only [Nat.reduceAdd])
  refine ae_ald (ok := fun k => k == 0) rfl rfl hb hb1 rfl rfl (j := j) hj hvb ?_
  refine ae_ast (kd := 0) rfl rfl hb hb1 rfl (j := i) hi rfl ?_
  have hc2 : (am_wr (am_wr h a i (vI va)) b i (vI vb)).2.2 x = (15, 27, g) := by rw [am_wr_ne hxb]; exact hc1
  have hd2 : (am_wr (am_wr h a i (vI va)) b i (vI vb)).2.2 c = (2, 42, fc) := by rw [am_wr_ne hbc]; exact hd1
  iterate 1 (refine am_E.go rfl rfl ?_; dsimp only [Nat.reduceAdd])
  refine ae_gf (x := 5) (y := 20) rfl hx hc2 (by omega) hgc ?_
  iterate 2 (refine am_E.go rfl rfl ?_; dsimp only [Nat.reduceAdd])
  refine ae_gf (x := 5) (y := 20) rfl hx hc2 (by omega) hgc ?_
  iterate 1 (refine am_E.go rfl rfl ?_; dsimp only [Nat.reduceAdd])
  refine ae_ald (ok := fun k => k == 2) rfl rfl hcc hd2 rfl rfl (j := j) hj hvc ?_
  refine ae_ast (kd := 2) rfl rfl hcc hd2 rfl (j := i) hi rfl ?_
  exact am_E.ret rfl rfl ⟨rfl, rfl, rfl, fun d h1 h2 h3 => by rw [am_wr_ne h3, am_wr_ne h2, am_wr_ne h1], by rw [am_wr_ne (Ne.symm hac), am_wr_ne (Ne.symm hab)]; exact am_wr_same hca, by rw [am_wr_ne (Ne.symm hbc)]; exact am_wr_same hb1, am_wr_same hd2⟩
