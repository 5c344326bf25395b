theorem am_xs {a b : Int} (ha : am_r32 a) (hb : am_r32 b) (hb0 : 0 ≤ b) : am_xor a b < 0 ↔ a < 0 := by
  have e : am_xor a b = ((Int32.ofInt a).toBitVec ^^^ (Int32.ofInt b).toBitVec).toInt := rfl
  have ea : (Int32.ofInt a).toBitVec.toInt = a := am_tI ha
  have eb : (Int32.ofInt b).toBitVec.toInt = b := am_tI hb
  have m1 := BitVec.msb_eq_toInt (x := (Int32.ofInt a).toBitVec)
  have m2 := BitVec.msb_eq_toInt (x := (Int32.ofInt b).toBitVec)
  have m3 := BitVec.msb_eq_toInt (x := (Int32.ofInt a).toBitVec ^^^ (Int32.ofInt b).toBitVec)
  rw [BitVec.msb_xor, m1, m2, ea, eb, ← e, decide_eq_false (show ¬ b < 0 by omega), Bool.xor_false] at m3
  constructor
  · intro h
    rw [decide_eq_true h] at m3
    exact of_decide_eq_true m3
  · intro h
    rw [decide_eq_true h] at m3
    exact of_decide_eq_true m3.symm
theorem qx_floorMod {a b : Int} (ha : am_r32 a) (hb0 : 0 < b) (hb1 : b < 2147483648) (h : am_H) : am_E ac_J9_floorMod_7cf53 (0, [vI a, vI b, vU], [], h) (fun r h2 => h2 = h ∧ r = some (vI (a % b))) := by
  have hx := am_xs (a := a) (b := b) ha (am_ri (by omega) hb1) (by omega)
  have ht := Int.tmod_eq_emod (a := a) (b := b)
  have hm := nm_em (a := a) hb0
  refine am_E.go (t2 := (1, [vI a, vI b, vU], [vI a], h)) rfl rfl ?_
  refine am_E.go (t2 := (2, [vI a, vI b, vU], [vI b, vI a], h)) rfl rfl ?_
  refine ae_bin (z := a.tmod b) rfl rfl (am_rem_s (by omega)) ?_
  refine am_E.go (t2 := (4, [vI a, vI b, vI (a.tmod b)], [], h)) rfl rfl ?_
  refine am_E.go (t2 := (5, [vI a, vI b, vI (a.tmod b)], [vI a], h)) rfl rfl ?_
  refine am_E.go (t2 := (6, [vI a, vI b, vI (a.tmod b)], [vI b, vI a], h)) rfl rfl ?_
  refine am_E.go (t2 := (7, [vI a, vI b, vI (a.tmod b)], [vI (am_xor a b)], h)) rfl rfl ?_
  refine ae_if0 rfl (fun (q : 0 ≤ am_xor a b) => ?_) (fun (q : am_xor a b < 0) => ?_)
  · refine am_E.go (t2 := (19, [vI a, vI b, vI (a.tmod b)], [vI (a.tmod b)], h)) rfl rfl ?_
    refine am_E.ret rfl rfl ⟨rfl, ?_⟩
    rw [ht, if_pos (Or.inl (by have := fun z => hx.mpr z; omega)), show a % b - ((0 : Nat) : Int) = a % b by omega]
  · refine am_E.go (t2 := (11, [vI a, vI b, vI (a.tmod b)], [vI (a.tmod b)], h)) rfl rfl ?_
    refine ae_if0 rfl (fun (q2 : a.tmod b = 0) => ?_) (fun (q2 : a.tmod b ≠ 0) => ?_)
    · refine am_E.go (t2 := (19, [vI a, vI b, vI (a.tmod b)], [vI (a.tmod b)], h)) rfl rfl ?_
      refine am_E.ret rfl rfl ⟨rfl, ?_⟩
      rw [q2, Int.emod_eq_zero_of_dvd (Int.dvd_of_tmod_eq_zero q2)]
    · refine am_E.go (t2 := (15, [vI a, vI b, vI (a.tmod b)], [vI (a.tmod b)], h)) rfl rfl ?_
      refine am_E.go (t2 := (16, [vI a, vI b, vI (a.tmod b)], [vI b, vI (a.tmod b)], h)) rfl rfl ?_
      refine am_E.go (t2 := (17, [vI a, vI b, vI (a.tmod b)], [vI (am_w (a.tmod b + b))], h)) rfl rfl ?_
      refine am_E.ret rfl rfl ⟨rfl, ?_⟩
      have hn : ¬ (0 ≤ a ∨ b ∣ a) := by
        intro z
        rcases z with z | z
        · have := hx.mp q
          omega
        · exact q2 (Int.tmod_eq_zero_of_dvd z)
      rw [ht, if_neg hn, show a % b - (b.natAbs : Int) + b = a % b by omega, am_w_id (am_ri (by omega) (by omega))]
