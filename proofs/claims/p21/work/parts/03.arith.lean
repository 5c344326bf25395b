/-! The small machine's numbers beside the machine's own. -/
def am_r32 (x : Int) : Prop := -2147483648 ≤ x ∧ x < 2147483648
def am_r64 (x : Int) : Prop := -9223372036854775808 ≤ x ∧ x < 9223372036854775808
theorem am_w_r (x : Int) : am_r32 (am_w x) := by
  unfold am_w am_r32
  have h1 := Int.le_bmod (x := x) (m := 4294967296) (by decide)
  have h2 := Int.bmod_lt (x := x) (m := 4294967296) (by decide)
  omega
theorem am_wl_r (x : Int) : am_r64 (am_wl x) := by
  unfold am_wl am_r64
  have h1 := Int.le_bmod (x := x) (m := 18446744073709551616) (by decide)
  have h2 := Int.bmod_lt (x := x) (m := 18446744073709551616) (by decide)
  omega
theorem am_w_id {x : Int} (h : am_r32 x) : am_w x = x := by
  unfold am_r32 at h
  exact Int.bmod_eq_of_le (by omega) (by omega)
theorem am_wl_id {x : Int} (h : am_r64 x) : am_wl x = x := by
  unfold am_r64 at h
  exact Int.bmod_eq_of_le (by omega) (by omega)
theorem am_tI {x : Int} (h : am_r32 x) : (Int32.ofInt x).toInt = x := Int32.toInt_ofInt_of_le (by unfold am_r32 at h; omega) (by unfold am_r32 at h; omega)
theorem am_tL {x : Int} (h : am_r64 x) : (Int64.ofInt x).toInt = x := Int64.toInt_ofInt_of_le (by unfold am_r64 at h; omega) (by unfold am_r64 at h; omega)
theorem am_rI (a : Int32) : am_r32 a.toInt := ⟨by have := a.le_toInt; omega, by have := a.toInt_lt; omega⟩
theorem am_rL (a : Int64) : am_r64 a.toInt := ⟨by have := a.le_toInt; omega, by have := a.toInt_lt; omega⟩
theorem am_w_o (x : Int) : Int32.ofInt (am_w x) = Int32.ofInt x := Int32.toInt_inj.mp (by
  rw [am_tI (am_w_r x), Int32.toInt_ofInt]; rfl)
theorem am_wl_o (x : Int) : Int64.ofInt (am_wl x) = Int64.ofInt x := Int64.toInt_inj.mp (by
  rw [am_tL (am_wl_r x), Int64.toInt_ofInt]; rfl)
theorem am_o_add (x y : Int) : Int32.ofInt (am_w (x + y)) = Int32.ofInt x + Int32.ofInt y := by rw [am_w_o, Int32.ofInt_add]
theorem am_o_sub (x y : Int) : Int32.ofInt (am_w (x - y)) = Int32.ofInt x - Int32.ofInt y := by rw [am_w_o, Int32.ofInt_sub]
theorem am_o_mul (x y : Int) : Int32.ofInt (am_w (x * y)) = Int32.ofInt x * Int32.ofInt y := by rw [am_w_o, Int32.ofInt_mul]
theorem am_o_neg (x : Int) : Int32.ofInt (am_w (-x)) = -Int32.ofInt x := by rw [am_w_o, Int32.ofInt_neg]
theorem am_l_add (x y : Int) : Int64.ofInt (am_wl (x + y)) = Int64.ofInt x + Int64.ofInt y := by rw [am_wl_o, Int64.ofInt_add]
theorem am_l_mul (x y : Int) : Int64.ofInt (am_wl (x * y)) = Int64.ofInt x * Int64.ofInt y := by rw [am_wl_o, Int64.ofInt_mul]
theorem am_l_neg (x : Int) : Int64.ofInt (am_wl (-x)) = -Int64.ofInt x := by rw [am_wl_o, Int64.ofInt_neg]
theorem am_o_div {x y : Int} (hx : am_r32 x) (hy : am_r32 y) : Int32.ofInt (am_w (x.tdiv y)) = Int32.ofInt x / Int32.ofInt y := Int32.toInt_inj.mp (by
  rw [am_tI (am_w_r _), Int32.toInt_div, am_tI hx, am_tI hy]; rfl)
theorem am_l_div {x y : Int} (hx : am_r64 x) (hy : am_r64 y) : Int64.ofInt (am_wl (x.tdiv y)) = Int64.ofInt x / Int64.ofInt y := Int64.toInt_inj.mp (by
  rw [am_tL (am_wl_r _), Int64.toInt_div, am_tL hx, am_tL hy]; rfl)
theorem am_o_rem {x y : Int} (hx : am_r32 x) (hy : am_r32 y) : Int32.ofInt (x.tmod y) = Int32.ofInt x - Int32.ofInt x / Int32.ofInt y * Int32.ofInt y := by
  rw [← am_o_div hx hy, am_w_o, ← Int32.ofInt_mul, ← Int32.ofInt_sub]
  congr 1
  have := Int.mul_tdiv_add_tmod x y
  rw [Int.mul_comm] at this
  omega
theorem am_tmod_r {x y : Int} (hx : am_r32 x) : am_r32 (x.tmod y) := by
  unfold am_r32 at *
  have h2 : (x.tmod y).natAbs ≤ x.natAbs := by
    rw [Int.natAbs_tmod]
    exact Nat.mod_le _ _
  by_cases h : 0 ≤ x
  · have h1 := Int.tmod_nonneg y h
    omega
  · have h1 := Int.tmod_nonneg y (show 0 ≤ -x by omega)
    rw [Int.neg_tmod] at h1
    omega
theorem am_o_lt {x y : Int} (hx : am_r32 x) (hy : am_r32 y) : Int32.ofInt x < Int32.ofInt y ↔ x < y := by rw [Int32.lt_iff_toInt_lt, am_tI hx, am_tI hy]
theorem am_o_le {x y : Int} (hx : am_r32 x) (hy : am_r32 y) : Int32.ofInt x ≤ Int32.ofInt y ↔ x ≤ y := by rw [Int32.le_iff_toInt_le, am_tI hx, am_tI hy]
theorem am_o_eq {x y : Int} (hx : am_r32 x) (hy : am_r32 y) : Int32.ofInt x = Int32.ofInt y ↔ x = y := by rw [← Int32.toInt_inj, am_tI hx, am_tI hy]
theorem am_l_lt {x y : Int} (hx : am_r64 x) (hy : am_r64 y) : Int64.ofInt x < Int64.ofInt y ↔ x < y := by rw [Int64.lt_iff_toInt_lt, am_tL hx, am_tL hy]
theorem am_l_eq {x y : Int} (hx : am_r64 x) (hy : am_r64 y) : Int64.ofInt x = Int64.ofInt y ↔ x = y := by rw [← Int64.toInt_inj, am_tL hx, am_tL hy]
theorem am_0r : am_r32 0 := by unfold am_r32; omega
theorem am_0l : am_r64 0 := by unfold am_r64; omega
theorem am_o_cmp {x y : Int} (hx : am_r64 x) (hy : am_r64 y) : Int32.ofInt (if x < y then -1 else if x = y then 0 else 1) = lg_cmp (Int64.ofInt x) (Int64.ofInt y) := by
  unfold lg_cmp
  simp only [gt_iff_lt, am_l_lt hx hy, am_l_lt hy hx, am_l_eq hx hy]
  by_cases h1 : x < y
  · have h2 : ¬ y < x := by omega
    have h3 : ¬ x = y := by omega
    simp [h1, h2, h3]
  · by_cases h3 : x = y
    · have h2 : ¬ y < x := by omega
      simp [h1, h2, h3]
    · have h2 : y < x := by omega
      simp [h1, h2, h3]
theorem am_o_i2l {x : Int} (hx : am_r32 x) : (Int32.ofInt x).toInt64 = Int64.ofInt x := Int64.toInt_inj.mp (by
  rw [Int32.toInt_toInt64, am_tI hx, am_tL]; unfold am_r32 at hx; unfold am_r64; omega)
theorem am_o_l2i (x : Int) : (Int64.ofInt x).toInt32 = Int32.ofInt (am_w x) := by rw [am_w_o, Int64.toInt32_ofInt]
theorem am_32_64 {x : Int} (hx : am_r32 x) : am_r64 x := by unfold am_r32 at hx; unfold am_r64; omega
/-- an index in range -/
theorem am_o_ix {i : Int} {n : Nat} (h0 : 0 ≤ i) (h : i < (n : Int)) (hr : am_r32 i) : vp_in (Int32.ofInt i) n ∧ (Int32.ofInt i).toNatClampNeg = i.toNat := by
  have e := am_tI hr
  refine ⟨vp_in_iff.mpr (by rw [e]; exact ⟨h0, h⟩), ?_⟩
  show (Int32.ofInt i).toInt.toNat = i.toNat
  rw [e]
theorem am_cst_r (x y : Nat) (h : y < 9223372036854775808) : am_r64 (am_cst x y) := by
  unfold am_cst am_r64
  split <;> omega
