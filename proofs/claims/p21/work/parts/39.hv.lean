/-! The shape of an object of Halves with n strands and z halves, at o. -/
def hv_t (o n z : Nat) : Nat → aq_T := fun y => match y with
  | 0 => .inr (vI (n : Int))
  | 1 => .inr (vR (o + 9))
  | 2 => .inr (vR (o + 1))
  | 3 => .inr (vR (o + 2))
  | 4 => .inr (vR (o + 16))
  | 5 => .inr (vR (o + 17))
  | 6 => .inr (vI (z : Int))
  | _ => .inl 0
def hv_0 (m : Nat) (F : aq_F) (o n z : Nat) (tl : Int → Int) (th : Int → Int → Int) : Prop := o + 18 ≤ m ∧ 1 ≤ n ∧ n ≤ 4 ∧ z ≤ 6 ∧ F o = (12, 7, hv_t o n z) ∧ F (o + 1) = (0, 6, fun j => .inr (vI (tl (j : Int)))) ∧ F (o + 2) = (3, 6, fun j => aq_g 6 j (o + 3 + j)) ∧ (∀ j, j < 6 → F (o + 3 + j) = (0, 6, fun _ => .inl 0)) ∧ F (o + 9) = (3, 6, fun j => aq_g 6 j (o + 10 + j)) ∧ (∀ h, h < 6 → F (o + 10 + h) = (0, n, fun j => .inr (vI (th (h : Int) (j : Int))))) ∧ F (o + 16) = (0, n, fun _ => .inl 0) ∧ F (o + 17) = (1, n, fun _ => .inl 0) ∧ ∀ h p : Int, 0 ≤ h → h < 6 → 0 ≤ p → p < (n : Int) → 0 ≤ th h p ∧ th h p ≤ (n : Int)
theorem rn_J9_floorMod {a b : Int} (hb : b ≠ 0) (h : am_H) : am_E ac_J9_floorMod_7cf53 (0, [vI a, vI b, vU], [], h) (fun r h2 => h2 = h ∧ aq_vi r) := by
  refine am_E.go (t2 := (1, [vI a, vI b, vU], [vI a], h)) rfl rfl ?_
  refine am_E.go (t2 := (2, [vI a, vI b, vU], [vI b, vI a], h)) rfl rfl ?_
  refine ae_bin (z := a.tmod b) rfl rfl (am_rem_s hb) ?_
  generalize a.tmod b = v
  refine am_E.go (t2 := (4, [vI a, vI b, vI v], [], h)) rfl rfl ?_
  refine am_E.go (t2 := (5, [vI a, vI b, vI v], [vI a], h)) rfl rfl ?_
  refine am_E.go (t2 := (6, [vI a, vI b, vI v], [vI b, vI a], h)) rfl rfl ?_
  refine am_E.go (t2 := (7, [vI a, vI b, vI v], [vI (am_xor a b)], h)) rfl rfl ?_
  refine ae_if0 rfl (fun _ => ?_) (fun _ => ?_)
  · refine am_E.go (t2 := (19, [vI a, vI b, vI v], [vI v], h)) rfl rfl ?_
    exact am_E.ret rfl rfl ⟨rfl, _, rfl⟩
  · refine am_E.go (t2 := (11, [vI a, vI b, vI v], [vI v], h)) rfl rfl ?_
    refine ae_if0 rfl (fun _ => ?_) (fun _ => ?_)
    · refine am_E.go (t2 := (19, [vI a, vI b, vI v], [vI v], h)) rfl rfl ?_
      exact am_E.ret rfl rfl ⟨rfl, _, rfl⟩
    · refine am_E.go (t2 := (15, [vI a, vI b, vI v], [vI v], h)) rfl rfl ?_
      refine am_E.go (t2 := (16, [vI a, vI b, vI v], [vI b, vI v], h)) rfl rfl ?_
      refine am_E.go (t2 := (17, [vI a, vI b, vI v], [vI (am_w (v + b))], h)) rfl rfl ?_
      exact am_E.ret rfl rfl ⟨rfl, _, rfl⟩
