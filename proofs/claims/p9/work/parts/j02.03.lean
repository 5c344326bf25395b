def am_r32 (x : Int) : Prop := -2147483648 ≤ x ∧ x < 2147483648
def am_r64 (x : Int) : Prop := -9223372036854775808 ≤ x ∧ x < 9223372036854775808
theorem am_w_r (x : Int) : am_r32 (am_w x) := by
  unfold am_w am_r32
  have h1 := Int.le_bmod (x := x) (m := 4294967296) (by decide)
  have h2 := Int.bmod_lt (x := x) (m := 4294967296) (by decide)
  omega
theorem am_wl_r (x : Int) : am_r64 (am_wl x) := by
  unfold am_wl am_r64
  have h1 := Int.le_bmod (x := x) (m := 18446744073709551616) (by decide)
  have h2 := Int.bmod_lt (x := x) (m := 18446744073709551616) (by decide)
  omega
theorem am_w_id {x : Int} (h : am_r32 x) : am_w x = x := by
  unfold am_r32 at h
  exact Int.bmod_eq_of_le (by omega) (by omega)
theorem am_wl_id {x : Int} (h : am_r64 x) : am_wl x = x := by
  unfold am_r64 at h
  exact Int.bmod_eq_of_le (by omega) (by omega)
theorem am_tI {x : Int} (h : am_r32 x) : (Int32.ofInt x).toInt = x := Int32.toInt_ofInt_of_le (by unfold am_r32 at h; omega) (by unfold am_r32 at h; omega)
theorem am_tL {x : Int} (h : am_r64 x) : (Int64.ofInt x).toInt = x := Int64.toInt_ofInt_of_le (by unfold am_r64 at h; omega) (by unfold am_r64 at h; omega)
theorem am_rI (a : Int32) : am_r32 a.toInt := ⟨by have := a.le_toInt; omega, by have := a.toInt_lt; omega⟩
theorem am_rL (a : Int64) : am_r64 a.toInt := ⟨by have := a.le_toInt; omega, by have := a.toInt_lt; omega⟩
theorem am_w_o (x : Int) : Int32.ofInt (am_w x) = Int32.ofInt x := Int32.toInt_inj.mp (by
  rw [am_tI (am_w_r x), Int32.toInt_ofInt]; rfl)
theorem am_wl_o (x : Int) : Int64.ofInt (am_wl x) = Int64.ofInt x := Int64.toInt_inj.mp (by
  rw [am_tL (am_wl_r x), Int64.toInt_ofInt]; rfl)
theorem am_o_add (x y : Int) : Int32.ofInt (am_w (x + y)) = Int32.ofInt x + Int32.ofInt y := by rw [am_w_o, Int32.ofInt_add]
theorem am_o_sub (x y : Int) : Int32.ofInt (am_w (x - y)) = Int32.ofInt x - Int32.ofInt y := by rw [am_w_o, Int32.ofInt_sub]
theorem am_o_mul (x y : Int) : Int32.ofInt (am_w (x * y)) = Int32.ofInt x * Int32.ofInt y := by rw [am_w_o, Int32.ofInt_mul]
theorem am_o_neg (x : Int) : Int32.ofInt (am_w (-x)) = -Int32.ofInt x := by rw [am_w_o, Int32.ofInt_neg]
theorem am_l_add (x y : Int) : Int64.ofInt (am_wl (x + y)) = Int64.ofInt x + Int64.ofInt y := by rw [am_wl_o, Int64.ofInt_add]
theorem am_l_mul (x y : Int) : Int64.ofInt (am_wl (x * y)) = Int64.ofInt x * Int64.ofInt y := by rw [am_wl_o, Int64.ofInt_mul]
theorem am_l_neg (x : Int) : Int64.ofInt (am_wl (-x)) = -Int64.ofInt x := by rw [am_wl_o, Int64.ofInt_neg]
theorem am_o_div {x y : Int} (hx : am_r32 x) (hy : am_r32 y) : Int32.ofInt (am_w (x.tdiv y)) = Int32.ofInt x / Int32.ofInt y := Int32.toInt_inj.mp (by
  rw [am_tI (am_w_r _), Int32.toInt_div, am_tI hx, am_tI hy]; rfl)
theorem am_l_div {x y : Int} (hx : am_r64 x) (hy : am_r64 y) : Int64.ofInt (am_wl (x.tdiv y)) = Int64.ofInt x / Int64.ofInt y := Int64.toInt_inj.mp (by
  rw [am_tL (am_wl_r _), Int64.toInt_div, am_tL hx, am_tL hy]; rfl)
theorem am_o_rem {x y : Int} (hx : am_r32 x) (hy : am_r32 y) : Int32.ofInt (x.tmod y) = Int32.ofInt x - Int32.ofInt x / Int32.ofInt y * Int32.ofInt y := by
  rw [← am_o_div hx hy, am_w_o, ← Int32.ofInt_mul, ← Int32.ofInt_sub]
  congr 1
  have := Int.mul_tdiv_add_tmod x y
  rw [Int.mul_comm] at this
  omega
theorem am_tmod_r {x y : Int} (hx : am_r32 x) : am_r32 (x.tmod y) := by
  unfold am_r32 at *
  have h2 : (x.tmod y).natAbs ≤ x.natAbs := by
    rw [Int.natAbs_tmod]
    exact Nat.mod_le _ _
  by_cases h : 0 ≤ x
  · have h1 := Int.tmod_nonneg y h
    omega
  · have h1 := Int.tmod_nonneg y (show 0 ≤ -x by omega)
    rw [Int.neg_tmod] at h1
    omega
theorem am_o_lt {x y : Int} (hx : am_r32 x) (hy : am_r32 y) : Int32.ofInt x < Int32.ofInt y ↔ x < y := by rw [Int32.lt_iff_toInt_lt, am_tI hx, am_tI hy]
theorem am_o_le {x y : Int} (hx : am_r32 x) (hy : am_r32 y) : Int32.ofInt x ≤ Int32.ofInt y ↔ x ≤ y := by rw [Int32.le_iff_toInt_le, am_tI hx, am_tI hy]
theorem am_o_eq {x y : Int} (hx : am_r32 x) (hy : am_r32 y) : Int32.ofInt x = Int32.ofInt y ↔ x = y := by rw [← Int32.toInt_inj, am_tI hx, am_tI hy]
theorem am_l_lt {x y : Int} (hx : am_r64 x) (hy : am_r64 y) : Int64.ofInt x < Int64.ofInt y ↔ x < y := by rw [Int64.lt_iff_toInt_lt, am_tL hx, am_tL hy]
theorem am_l_eq {x y : Int} (hx : am_r64 x) (hy : am_r64 y) : Int64.ofInt x = Int64.ofInt y ↔ x = y := by rw [← Int64.toInt_inj, am_tL hx, am_tL hy]
theorem am_0r : am_r32 0 := by unfold am_r32; omega
theorem am_0l : am_r64 0 := by unfold am_r64; omega
theorem am_o_cmp {x y : Int} (hx : am_r64 x) (hy : am_r64 y) : Int32.ofInt (if x < y then -1 else if x = y then 0 else 1) = lg_cmp (Int64.ofInt x) (Int64.ofInt y) := by
  unfold lg_cmp
  simp only [gt_iff_lt, am_l_lt hx hy, am_l_lt hy hx, am_l_eq hx hy]
  by_cases h1 : x < y
  · have h2 : ¬ y < x := by omega
    have h3 : ¬ x = y := by omega
    simp [h1, h2, h3]
  · by_cases h3 : x = y
    · have h2 : ¬ y < x := by omega
      simp [h1, h2, h3]
    · have h2 : y < x := by omega
      simp [h1, h2, h3]
theorem am_o_i2l {x : Int} (hx : am_r32 x) : (Int32.ofInt x).toInt64 = Int64.ofInt x := Int64.toInt_inj.mp (by
  rw [Int32.toInt_toInt64, am_tI hx, am_tL]; unfold am_r32 at hx; unfold am_r64; omega)
theorem am_o_l2i (x : Int) : (Int64.ofInt x).toInt32 = Int32.ofInt (am_w x) := by rw [am_w_o, Int64.toInt32_ofInt]
theorem am_32_64 {x : Int} (hx : am_r32 x) : am_r64 x := by unfold am_r32 at hx; unfold am_r64; omega
/-- an index in range -/
theorem am_o_ix {i : Int} {n : Nat} (h0 : 0 ≤ i) (h : i < (n : Int)) (hr : am_r32 i) : vp_in (Int32.ofInt i) n ∧ (Int32.ofInt i).toNatClampNeg = i.toNat := by
  have e := am_tI hr
  refine ⟨vp_in_iff.mpr (by rw [e]; exact ⟨h0, h⟩), ?_⟩
  show (Int32.ofInt i).toInt.toNat = i.toNat
  rw [e]
def am_toI (v : am_V) : Int32 := match v with
  | .inl (.inl x) => Int32.ofInt x
  | _ => 0
def am_toL (v : am_V) : Int64 := match v with
  | .inl (.inr x) => Int64.ofInt x
  | _ => 0
def am_toR (ad : Nat → Nat) (v : am_V) : Option Nat := match v with
  | .inr (some (some k)) => some (ad k)
  | _ => none
def am_cv (ad : Nat → Nat) (v : am_V) : Value := match v with
  | .inl (.inl x) => .int (Int32.ofInt x)
  | .inl (.inr x) => .long (Int64.ofInt x)
  | .inr (some (some k)) => .ref (ad k)
  | .inr _ => .null
def am_ce (ad : Nat → Nat) (ca : Nat → ClassId) (K : am_K) : va_E :=
  if K.1 < 2 then .inl (ca K.1, K.2.1, .inl (fun i => am_toI (K.2.2 i)))
  else if K.1 = 2 then .inl (ca 2, K.2.1, .inr (.inl (fun i => am_toL (K.2.2 i))))
  else if K.1 < 7 then .inl (ca K.1, K.2.1, .inr (.inr (.inr (.inr (fun i => am_toR ad (K.2.2 i))))))
  else .inr (K.1 - 10, (List.range K.2.1).map (fun y => am_cv ad (K.2.2 y)))
def am_ws (ad : Nat → Nat) (ca : Nat → ClassId) (h : am_H) : va_W := (List.range h.1).map (fun k => (ad k, am_ce ad ca (h.2.2 k)))
/-- a value: its number in range, its cell there -/
def am_vk (n : Nat) (v : am_V) : Prop := match v with
  | .inl (.inl x) => am_r32 x
  | .inl (.inr x) => am_r64 x
  | .inr (some (some k)) => k < n
  | .inr (some none) => True
  | .inr none => False
/-- a value of a kind: 0 int, 1 boolean, 2 long, 3 reference -/
def am_vt (n k : Nat) (v : am_V) : Prop := am_vk n v ∧ am_fok k v = true
def am_ek (kd : Nat) : Nat := match kd with
  | 0 => 0
  | 1 => 1
  | 2 => 2
  | _ => 3
def am_ckd (ft : am_ft) (n : Nat) (K : am_K) : Prop := (K.1 < 7 ∧ K.2.1 ≤ 1024 ∧ ∀ i, am_vt n (am_ek K.1) (K.2.2 i)) ∨ (10 ≤ K.1 ∧ ∀ i, i < K.2.1 → am_vt n (ft (K.1 - 10) i) (K.2.2 i))
def am_gd (ft : am_ft) (h : am_H) : Prop := ∀ k, k < h.1 → am_ckd ft h.1 (h.2.2 k)
theorem am_vk.mono {n m : Nat} {v : am_V} (h : am_vk n v) (hm : n ≤ m) : am_vk m v := by
  rcases v with (x | x) | _ | _ | k
  · exact h
  · exact h
  · exact h
  · exact h
  · exact Nat.lt_of_lt_of_le h hm
theorem am_vt.mono {n m k : Nat} {v : am_V} (h : am_vt n k v) (hm : n ≤ m) : am_vt m k v := ⟨h.1.mono hm, h.2⟩
theorem am_ckd.mono {ft : am_ft} {n m : Nat} {K : am_K} (h : am_ckd ft n K) (hm : n ≤ m) : am_ckd ft m K := by
  rcases h with h | h
  · exact Or.inl ⟨h.1, h.2.1, fun i => (h.2.2 i).mono hm⟩
  · exact Or.inr ⟨h.1, fun i hi => (h.2 i hi).mono hm⟩
theorem am_ws_at {ad : Nat → Nat} {ca : Nat → ClassId} {h : am_H} {k : Nat} (hk : k < h.1) : (am_ws ad ca h)[k]? = some (ad k, am_ce ad ca (h.2.2 k)) := by
  unfold am_ws
  rw [List.getElem?_map, List.getElem?_range hk]
  rfl
theorem am_ws_len {ad : Nat → Nat} {ca : Nat → ClassId} {h : am_H} : (am_ws ad ca h).length = h.1 := by
  unfold am_ws
  simp
/-- one cell changed -/
theorem am_ws_set {ad : Nat → Nat} {ca : Nat → ClassId} {h : am_H} {a : Nat} {K : am_K} {e : va_E} (ha : a < h.1) (he : am_ce ad ca K = e) : am_ws ad ca (h.1, h.2.1, am_up h.2.2 a K) = (am_ws ad ca h).set a (ad a, e) := by
  apply List.ext_getElem?
  intro i
  rw [List.getElem?_set]
  by_cases hi : i < h.1
  · have h1 := am_ws_at (ad := ad) (ca := ca) (h := (h.1, h.2.1, am_up h.2.2 a K)) (k := i) hi
    rw [h1]
    by_cases e1 : a = i
    · subst e1
      rw [if_pos rfl, if_pos (by rw [am_ws_len]; exact ha)]
      simp [am_up, he]
    · rw [if_neg e1, am_ws_at hi]
      simp [am_up, Ne.symm e1]
  · have h1 : (am_ws ad ca (h.1, h.2.1, am_up h.2.2 a K))[i]? = none := List.getElem?_eq_none (by rw [am_ws_len]; exact Nat.le_of_not_lt hi)
    rw [h1]
    by_cases e1 : a = i
    · subst e1
      exact absurd ha hi
    · rw [if_neg e1]
      exact (List.getElem?_eq_none (by rw [am_ws_len]; exact Nat.le_of_not_lt hi)).symm
theorem am_toR_cg {ad ad' : Nat → Nat} {n : Nat} (h : ∀ k, k < n → ad' k = ad k) {v : am_V} (hv : am_vk n v) : am_toR ad' v = am_toR ad v := by
  rcases v with (x | x) | _ | _ | k
  · rfl
  · rfl
  · rfl
  · rfl
  · exact congrArg some (h k hv)
theorem am_cv_cg {ad ad' : Nat → Nat} {n : Nat} (h : ∀ k, k < n → ad' k = ad k) {v : am_V} (hv : am_vk n v) : am_cv ad' v = am_cv ad v := by
  rcases v with (x | x) | _ | _ | k
  · rfl
  · rfl
  · rfl
  · rfl
  · exact congrArg Value.ref (h k hv)
theorem am_ce_cg {ft : am_ft} {ad ad' : Nat → Nat} {ca : Nat → ClassId} {n : Nat} (h : ∀ k, k < n → ad' k = ad k) {K : am_K} (hK : am_ckd ft n K) : am_ce ad' ca K = am_ce ad ca K := by
  unfold am_ce
  rcases hK with hK | hK
  · have e : (fun i => am_toR ad' (K.2.2 i)) = (fun i => am_toR ad (K.2.2 i)) := funext fun i => am_toR_cg h (hK.2.2 i).1
    rw [e]
    simp only [if_pos hK.1]
  · have e : (List.range K.2.1).map (fun y => am_cv ad' (K.2.2 y)) = (List.range K.2.1).map (fun y => am_cv ad (K.2.2 y)) := List.map_congr_left fun y hy => am_cv_cg h (hK.2 y (List.mem_range.mp hy)).1
    rw [e]
    have h1 : ¬ K.1 < 2 := by omega
    have h2 : ¬ K.1 = 2 := by omega
    have h3 : ¬ K.1 < 7 := by omega
    simp only [if_neg h1, if_neg h2, if_neg h3]
theorem am_ws_cg {ft : am_ft} {ad ad' : Nat → Nat} {ca : Nat → ClassId} {h : am_H} (hg : am_gd ft h) (hh : ∀ k, k < h.1 → ad' k = ad k) : am_ws ad' ca h = am_ws ad ca h := by
  unfold am_ws
  refine List.map_congr_left fun k hk => ?_
  rw [hh k (List.mem_range.mp hk), am_ce_cg hh (hg k (List.mem_range.mp hk))]
/-- one cell more -/
theorem am_ws_push {ft : am_ft} {ad : Nat → Nat} {ca : Nat → ClassId} {h : am_H} {q : Nat} {K : am_K} {z : Nat} (hg : am_gd ft h) : am_ws (am_up ad h.1 q) ca (h.1 + 1, z, am_up h.2.2 h.1 K) = am_ws ad ca h ++ [(q, am_ce (am_up ad h.1 q) ca K)] := by
  have h1 : am_ws (am_up ad h.1 q) ca h = am_ws ad ca h := am_ws_cg hg (fun k hk => by simp [am_up, Nat.ne_of_lt hk])
  rw [← h1]
  unfold am_ws
  show (List.range (h.1 + 1)).map _ = _
  rw [List.range_succ, List.map_append]
  congr 1
  · refine List.map_congr_left fun k hk => ?_
    have := List.mem_range.mp hk
    simp [am_up, Nat.ne_of_lt this]
  · simp [am_up]
-- locals
def am_ent (ad : Nat → Nat) (ls : List am_V) (i : Nat) : Option (Nat × Value) := match ls[i]? with
  | some (.inr none) => none
  | some v => some (i, am_cv ad v)
  | none => none
def am_lvl (ad : Nat → Nat) (ls : List am_V) : List (Nat × Value) := (List.range ls.length).filterMap (am_ent ad ls)
def am_LR (ad : Nat → Nat) (ls : List am_V) (LS : Array Slot) : Prop := lv_has LS ls.length (am_lvl ad ls)
theorem am_ent_some {ad : Nat → Nat} {ls : List am_V} {i : Nat} {v : am_V} (h : ls[i]? = some v) (hv : v ≠ vU) : am_ent ad ls i = some (i, am_cv ad v) := by
  unfold am_ent
  rw [h]
  rcases v with (x | x) | _ | _ | k
  · rfl
  · rfl
  · exact absurd rfl hv
  · rfl
  · rfl
theorem am_ent_inv {ad : Nat → Nat} {ls : List am_V} {i : Nat} {q : Nat × Value} (h : am_ent ad ls i = some q) : ∃ v, ls[i]? = some v ∧ v ≠ vU ∧ q = (i, am_cv ad v) := by
  unfold am_ent at h
  rcases hv : ls[i]? with _ | ((x | x) | _ | _ | k) <;> rw [hv] at h
  · cases h
  · exact ⟨_, rfl, (fun q => by cases q), (Option.some.inj h).symm⟩
  · exact ⟨_, rfl, (fun q => by cases q), (Option.some.inj h).symm⟩
  · cases h
  · exact ⟨_, rfl, (fun q => by cases q), (Option.some.inj h).symm⟩
  · exact ⟨_, rfl, (fun q => by cases q), (Option.some.inj h).symm⟩
theorem am_lvl_mem {ad : Nat → Nat} {ls : List am_V} {q : Nat × Value} : q ∈ am_lvl ad ls ↔ ∃ v, ls[q.1]? = some v ∧ v ≠ vU ∧ q.2 = am_cv ad v := by
  unfold am_lvl
  rw [List.mem_filterMap]
  constructor
  · rintro ⟨i, -, hi⟩
    obtain ⟨v, h1, h2, rfl⟩ := am_ent_inv hi
    exact ⟨v, h1, h2, rfl⟩
  · rintro ⟨v, h1, h2, h3⟩
    refine ⟨q.1, List.mem_range.mpr (List.getElem?_eq_some_iff.mp h1).1, ?_⟩
    rw [am_ent_some h1 h2, ← h3]
theorem am_LR.get {ad : Nat → Nat} {ls : List am_V} {LS : Array Slot} (h : am_LR ad ls LS) {i : Nat} {v : am_V} (hi : ls[i]? = some v) (hv : v ≠ vU) : LS[i]? = some (.val (am_cv ad v)) := h.2.2 (i, am_cv ad v) (am_lvl_mem.mpr ⟨v, hi, hv, rfl⟩)
theorem am_cl_len (ls : List am_V) (i : Nat) : (am_cl ls i).length = ls.length := by
  unfold am_cl
  split
  · rfl
  · split
    · exact List.length_set
    · rfl
theorem am_cv_cat {ad : Nat → Nat} {v : am_V} (h : ∀ x, v ≠ vL x) : (am_cv ad v).category = 1 := by
  rcases v with (x | x) | _ | _ | k
  · rfl
  · exact absurd rfl (h x)
  · rfl
  · rfl
  · rfl
theorem am_cl_get {ls : List am_V} {i j : Nat} {v : am_V} (h : (am_cl ls i)[j]? = some v) (hv : v ≠ vU) : ls[j]? = some v ∧ ¬ (j + 1 = i ∧ ∃ x, v = vL x) := by
  unfold am_cl at h
  split at h
  · exact ⟨h, by rintro ⟨q, -⟩; omega⟩
  · rename_i k
    split at h
    · rename_i x hx
      rw [List.getElem?_set] at h
      by_cases e : k = j
      · subst e
        rw [if_pos rfl] at h
        split at h
        · exact absurd (Option.some.inj h).symm hv
        · cases h
      · rw [if_neg e] at h
        exact ⟨h, by rintro ⟨q, -⟩; omega⟩
    · rename_i hx
      refine ⟨h, ?_⟩
      rintro ⟨q, x, rfl⟩
      have : j = k := by omega
      subst this
      exact hx x h
theorem am_LR.put1 {ad : Nat → Nat} {ls : List am_V} {LS : Array Slot} {i : Nat} {v : am_V} (hi : i < ls.length) (h : lv_has LS ls.length ((i, am_cv ad v) :: (am_lvl ad ls).filter (fun q => !(q.1 == i) && !(q.1 + 1 == i && q.2.category == 2)))) : am_LR ad ((am_cl ls i).set i v) LS := by
  refine ⟨by rw [List.length_set, am_cl_len]; exact h.1, h.2.1, fun q hq => h.2.2 q ?_⟩
  obtain ⟨w, h1, h2, h3⟩ := am_lvl_mem.mp hq
  rw [List.getElem?_set] at h1
  by_cases e : i = q.1
  · rw [if_pos e, if_pos (by rw [am_cl_len]; exact hi)] at h1
    rw [← Option.some.inj h1] at h3
    exact List.mem_cons.mpr (Or.inl (Prod.ext e.symm h3))
  · rw [if_neg e] at h1
    obtain ⟨h4, h5⟩ := am_cl_get h1 h2
    refine List.mem_cons.mpr (Or.inr (List.mem_filter.mpr ⟨am_lvl_mem.mpr ⟨w, h4, h2, h3⟩, ?_⟩))
    have e1 : (q.1 == i) = false := by simpa using Ne.symm e
    rw [e1]
    by_cases e2 : q.1 + 1 = i
    · have : q.2.category = 1 := by
        rw [h3]
        exact am_cv_cat (fun x hx => h5 ⟨e2, x, hx⟩)
      simp [this]
    · have e3 : (q.1 + 1 == i) = false := by simpa using e2
      simp [e3]
theorem am_LR.put2 {ad : Nat → Nat} {ls : List am_V} {LS : Array Slot} {i : Nat} {v : am_V} (hi : i + 1 < ls.length) (h : lv_has LS ls.length ((i, am_cv ad v) :: (am_lvl ad ls).filter (fun q => !(q.1 == i) && (!(q.1 == i + 1) && !(q.1 + 1 == i && q.2.category == 2))))) : am_LR ad (((am_cl ls i).set i v).set (i + 1) vU) LS := by
  refine ⟨by rw [List.length_set, List.length_set, am_cl_len]; exact h.1, h.2.1, fun q hq => h.2.2 q ?_⟩
  obtain ⟨w, h1, h2, h3⟩ := am_lvl_mem.mp hq
  rw [List.getElem?_set] at h1
  by_cases e0 : i + 1 = q.1
  · rw [if_pos e0] at h1
    split at h1
    · exact absurd (Option.some.inj h1).symm h2
    · cases h1
  · rw [if_neg e0, List.getElem?_set] at h1
    by_cases e : i = q.1
    · rw [if_pos e, if_pos (by rw [am_cl_len]; omega)] at h1
      rw [← Option.some.inj h1] at h3
      exact List.mem_cons.mpr (Or.inl (Prod.ext e.symm h3))
    · rw [if_neg e] at h1
      obtain ⟨h4, h5⟩ := am_cl_get h1 h2
      refine List.mem_cons.mpr (Or.inr (List.mem_filter.mpr ⟨am_lvl_mem.mpr ⟨w, h4, h2, h3⟩, ?_⟩))
      have e1 : (q.1 == i) = false := by simpa using Ne.symm e
      have e4 : (q.1 == i + 1) = false := by simpa using Ne.symm e0
      rw [e1, e4]
      by_cases e2 : q.1 + 1 = i
      · have : q.2.category = 1 := by
          rw [h3]
          exact am_cv_cat (fun x hx => h5 ⟨e2, x, hx⟩)
        simp [this]
      · have e3 : (q.1 + 1 == i) = false := by simpa using e2
        simp [e3]
/-! Each step of the small machine is one of the machine's (all but calls and returns). -/
/-- the types of what an array of a kind holds -/
def am_ty (k : Nat) : FieldType := match k with
  | 0 => .int
  | 1 => .boolean
  | 2 => .long
  | 3 => .array .int
  | 4 => .object "StrandBoxes$Boxes"
  | 5 => .object "StrandBoxes$Halves"
  | _ => .object "StrandBoxes$Sum"
def am_tys (ca : Nat → ClassId) : List (ClassId × FieldType) := [(ca 0, am_ty 0), (ca 1, am_ty 1), (ca 2, am_ty 2), (ca 3, am_ty 3), (ca 4, am_ty 4), (ca 5, am_ty 5), (ca 6, am_ty 6)]
theorem am_tys_at (ca : Nat → ClassId) {k : Nat} (h : k < 7) : (am_tys ca)[k]? = some (ca k, am_ty k) := by
  rcases (show k = 0 ∨ k = 1 ∨ k = 2 ∨ k = 3 ∨ k = 4 ∨ k = 5 ∨ k = 6 by omega) with rfl | rfl | rfl | rfl | rfl | rfl | rfl <;> rfl
/-- from a state of the small machine the machine comes to Q, wherever the cells lie -/
def am_G (p : Program) (l : Launch) (e : Env) (R : Room) (s : State) (m : MethodId) (args : Array Value) (below : List Frame) (meth : Method) (c : Code) (Q : State → Prop) (D : va_G) (ca : Nat → ClassId) (ft : am_ft) (A : Nat → Prop) (n0 z0 : Nat) (ad0 : Nat → Nat) (nL : Nat) (t : am_S) : Prop :=
  ∀ (ad : Nat → Nat) (H : Heap) (locs : List Loc) (LS : Array Slot), (∀ k, k < n0 → ad k = ad0 k) → n0 ≤ t.2.2.2.1 → z0 ≤ t.2.2.2.2.1 → am_gd ft t.2.2.2 → (∀ v ∈ t.2.2.1, am_vk t.2.2.2.1 v) → (∀ v ∈ t.2.1, v = vU ∨ am_vk t.2.2.2.1 v) →
    va_P D vwCl (am_ws ad ca t.2.2.2) H → va_D A (am_ws ad ca t.2.2.2) → va_S A s.heap H locs → am_LR ad t.2.1 LS → t.2.1.length = nL →
    W p l e R s m args below meth c H locs (t.2.2.2.1 - n0) (t.2.2.2.2.1 - z0) Q (F0 m t.1 LS (t.2.2.1.map (am_cv ad)))
section SM
variable {p : Program} {l : Launch} {e : Env} {R : Room} {s : State} {m : MethodId} {args : Array Value} {below : List Frame} {meth : Method} {c : Code} {Q : State → Prop} {D : va_G} {ca : Nat → ClassId} {ft : am_ft} {A : Nat → Prop} {n0 z0 : Nat} {ad0 : Nat → Nat} {nL : Nat} {cc : ByteArray}
/-- only the stack's top changes -/
theorem sm_stk {pc pc2 : Nat} {ls us us2 st : List am_V} {h : am_H} (hg : (∀ v ∈ us, am_vk h.1 v) → ∀ v ∈ us2, am_vk h.1 v)
    (hW : ∀ (ad : Nat → Nat) (H : Heap) (locs : List Loc) (LS : Array Slot) (k z : Nat) (rest : List Value), (∀ v ∈ us, am_vk h.1 v) → W p l e R s m args below meth c H locs k z Q (F0 m pc2 LS (us2.map (am_cv ad) ++ rest)) → W p l e R s m args below meth c H locs k z Q (F0 m pc LS (us.map (am_cv ad) ++ rest)))
    (k : am_G p l e R s m args below meth c Q D ca ft A n0 z0 ad0 nL (pc2, ls, us2 ++ st, h)) : am_G p l e R s m args below meth c Q D ca ft A n0 z0 ad0 nL (pc, ls, us ++ st, h) := by
  intro ad H locs LS h1 h2 h3 h4 h5 h6 h7 h8 h9 h10 h11
  have hu : ∀ v ∈ us, am_vk h.1 v := fun v hv => h5 v (List.mem_append_left _ hv)
  have := k ad H locs LS h1 h2 h3 h4 (fun v hv => (List.mem_append.mp hv).elim (hg hu v) (fun q => h5 v (List.mem_append_right _ q))) h6 h7 h8 h9 h10 h11
  rw [List.map_append] at this ⊢
  exact hW ad H locs LS _ _ _ hu this
theorem sm_push {pc pc2 : Nat} {ls st : List am_V} {h : am_H} {v : am_V} (hv : am_vk h.1 v)
    (hW : ∀ (ad : Nat → Nat) (H : Heap) (locs : List Loc) (LS : Array Slot) (k z : Nat) (rest : List Value), W p l e R s m args below meth c H locs k z Q (F0 m pc2 LS (am_cv ad v :: rest)) → W p l e R s m args below meth c H locs k z Q (F0 m pc LS rest))
    (k : am_G p l e R s m args below meth c Q D ca ft A n0 z0 ad0 nL (pc2, ls, v :: st, h)) : am_G p l e R s m args below meth c Q D ca ft A n0 z0 ad0 nL (pc, ls, st, h) :=
  sm_stk (us := []) (us2 := [v]) (fun _ w hw => by rw [List.mem_singleton.mp hw]; exact hv) (fun ad H locs LS k z rest _ q => hW ad H locs LS k z rest q) k
theorem sm_bin {pc : Nat} {ls st : List am_V} {h : am_H} {x y z : Int} {g : Int32 → Int32 → Int32} (hz : am_r32 x → am_r32 y → am_r32 z ∧ Int32.ofInt z = g (Int32.ofInt x) (Int32.ofInt y))
    (hW : ∀ (H : Heap) (locs : List Loc) (LS : Array Slot) (k z : Nat) (rest : List Value), am_r32 x → am_r32 y → W p l e R s m args below meth c H locs k z Q (F0 m (pc + 1) LS (.int (g (Int32.ofInt x) (Int32.ofInt y)) :: rest)) → W p l e R s m args below meth c H locs k z Q (F0 m pc LS (.int (Int32.ofInt y) :: .int (Int32.ofInt x) :: rest)))
    (k : am_G p l e R s m args below meth c Q D ca ft A n0 z0 ad0 nL (pc + 1, ls, vI z :: st, h)) : am_G p l e R s m args below meth c Q D ca ft A n0 z0 ad0 nL (pc, ls, vI y :: vI x :: st, h) := by
  refine sm_stk (us := [vI y, vI x]) (us2 := [vI z]) (fun q w hw => ?_) (fun ad H locs LS k z9 rest q w => ?_) k
  · rw [List.mem_singleton.mp hw]
    exact (hz (q (vI x) (by simp)) (q (vI y) (by simp))).1
  · have hx : am_r32 x := q (vI x) (by simp)
    have hy : am_r32 y := q (vI y) (by simp)
    have e := (hz hx hy).2
    refine hW H locs LS k z9 rest hx hy ?_
    rw [← e]
    exact w
theorem sm_binl {pc : Nat} {ls st : List am_V} {h : am_H} {x y z : Int} {g : Int64 → Int64 → Int64} (hz : am_r64 x → am_r64 y → am_r64 z ∧ Int64.ofInt z = g (Int64.ofInt x) (Int64.ofInt y))
    (hW : ∀ (H : Heap) (locs : List Loc) (LS : Array Slot) (k z : Nat) (rest : List Value), am_r64 x → am_r64 y → W p l e R s m args below meth c H locs k z Q (F0 m (pc + 1) LS (.long (g (Int64.ofInt x) (Int64.ofInt y)) :: rest)) → W p l e R s m args below meth c H locs k z Q (F0 m pc LS (.long (Int64.ofInt y) :: .long (Int64.ofInt x) :: rest)))
    (k : am_G p l e R s m args below meth c Q D ca ft A n0 z0 ad0 nL (pc + 1, ls, vL z :: st, h)) : am_G p l e R s m args below meth c Q D ca ft A n0 z0 ad0 nL (pc, ls, vL y :: vL x :: st, h) := by
  refine sm_stk (us := [vL y, vL x]) (us2 := [vL z]) (fun q w hw => ?_) (fun ad H locs LS k z9 rest q w => ?_) k
  · rw [List.mem_singleton.mp hw]
    exact (hz (q (vL x) (by simp)) (q (vL y) (by simp))).1
  · have hx : am_r64 x := q (vL x) (by simp)
    have hy : am_r64 y := q (vL y) (by simp)
    have e := (hz hx hy).2
    refine hW H locs LS k z9 rest hx hy ?_
    rw [← e]
    exact w
theorem sm_shl {pc : Nat} {ls st : List am_V} {h : am_H} {x y z : Int} {g : Int64 → Int32 → Int64} (hz : Int64.ofInt z = g (Int64.ofInt x) (Int32.ofInt y)) (hr : am_r64 z)
    (hW : ∀ (H : Heap) (locs : List Loc) (LS : Array Slot) (k z : Nat) (rest : List Value), W p l e R s m args below meth c H locs k z Q (F0 m (pc + 1) LS (.long (g (Int64.ofInt x) (Int32.ofInt y)) :: rest)) → W p l e R s m args below meth c H locs k z Q (F0 m pc LS (.int (Int32.ofInt y) :: .long (Int64.ofInt x) :: rest)))
    (k : am_G p l e R s m args below meth c Q D ca ft A n0 z0 ad0 nL (pc + 1, ls, vL z :: st, h)) : am_G p l e R s m args below meth c Q D ca ft A n0 z0 ad0 nL (pc, ls, vI y :: vL x :: st, h) := by
  refine sm_stk (us := [vI y, vL x]) (us2 := [vL z]) (fun q w hw => ?_) (fun ad H locs LS k z9 rest q w => ?_) k
  · rw [List.mem_singleton.mp hw]
    exact hr
  · refine hW H locs LS k z9 rest ?_
    rw [← hz]
    exact w
theorem sm_load {pc pc2 i : Nat} {ls st : List am_V} {h : am_H} {v : am_V} (hi : ls[i]? = some v) (hv : v ≠ vU)
    (hW : ∀ (ad : Nat → Nat) (H : Heap) (locs : List Loc) (LS : Array Slot) (k z : Nat) (rest : List Value), LS[i]? = some (.val (am_cv ad v)) → W p l e R s m args below meth c H locs k z Q (F0 m pc2 LS (am_cv ad v :: rest)) → W p l e R s m args below meth c H locs k z Q (F0 m pc LS rest))
    (k : am_G p l e R s m args below meth c Q D ca ft A n0 z0 ad0 nL (pc2, ls, v :: st, h)) : am_G p l e R s m args below meth c Q D ca ft A n0 z0 ad0 nL (pc, ls, st, h) := by
  intro ad H locs LS h1 h2 h3 h4 h5 h6 h7 h8 h9 h10 h11
  have hk : am_vk h.1 v := (h6 v (List.mem_of_getElem? hi)).elim (fun q => absurd q hv) (fun q => q)
  have := k ad H locs LS h1 h2 h3 h4 (fun w hw => (List.mem_cons.mp hw).elim (fun q => by rw [q]; exact hk) (h5 w)) h6 h7 h8 h9 h10 h11
  exact hW ad H locs LS _ _ _ (h10.get hi hv) this
theorem sm_stor {pc pc2 i : Nat} {ls st : List am_V} {h : am_H} {v : am_V} (hi : i < ls.length)
    (hW : ∀ (ad : Nat → Nat) (H : Heap) (locs : List Loc) (LS : Array Slot) (k z : Nat) (rest : List Value), lv_has LS ls.length (am_lvl ad ls) → (∀ LS2 : Array Slot, lv_has LS2 ls.length ((i, am_cv ad v) :: (am_lvl ad ls).filter (fun q => !(q.1 == i) && !(q.1 + 1 == i && q.2.category == 2))) → W p l e R s m args below meth c H locs k z Q (F0 m pc2 LS2 rest)) → W p l e R s m args below meth c H locs k z Q (F0 m pc LS (am_cv ad v :: rest)))
    (k : am_G p l e R s m args below meth c Q D ca ft A n0 z0 ad0 nL (pc2, (am_cl ls i).set i v, st, h)) : am_G p l e R s m args below meth c Q D ca ft A n0 z0 ad0 nL (pc, ls, v :: st, h) := by
  intro ad H locs LS h1 h2 h3 h4 h5 h6 h7 h8 h9 h10 h11
  refine hW ad H locs LS _ _ _ h10 (fun LS2 q => ?_)
  refine k ad H locs LS2 h1 h2 h3 h4 (fun w hw => h5 w (List.mem_cons_of_mem _ hw)) (fun w hw => ?_) h7 h8 h9 (am_LR.put1 hi q) (by show ((am_cl ls i).set i v).length = nL; rw [List.length_set, am_cl_len]; exact h11)
  rcases List.mem_or_eq_of_mem_set hw with q1 | q1
  · by_cases e : w = vU
    · exact Or.inl e
    · obtain ⟨j, hj⟩ := List.getElem?_of_mem q1
      exact h6 w (List.mem_of_getElem? (am_cl_get hj e).1)
  · rw [q1]
    exact Or.inr (h5 v (by simp))
theorem sm_storl {pc pc2 i : Nat} {ls st : List am_V} {h : am_H} {x : Int} (hi : i + 1 < ls.length)
    (hW : ∀ (ad : Nat → Nat) (H : Heap) (locs : List Loc) (LS : Array Slot) (k z : Nat) (rest : List Value), lv_has LS ls.length (am_lvl ad ls) → (∀ LS2 : Array Slot, lv_has LS2 ls.length ((i, .long (Int64.ofInt x)) :: (am_lvl ad ls).filter (fun q => !(q.1 == i) && (!(q.1 == i + 1) && !(q.1 + 1 == i && q.2.category == 2)))) → W p l e R s m args below meth c H locs k z Q (F0 m pc2 LS2 rest)) → W p l e R s m args below meth c H locs k z Q (F0 m pc LS (.long (Int64.ofInt x) :: rest)))
    (k : am_G p l e R s m args below meth c Q D ca ft A n0 z0 ad0 nL (pc2, ((am_cl ls i).set i (vL x)).set (i + 1) vU, st, h)) : am_G p l e R s m args below meth c Q D ca ft A n0 z0 ad0 nL (pc, ls, vL x :: st, h) := by
  intro ad H locs LS h1 h2 h3 h4 h5 h6 h7 h8 h9 h10 h11
  refine hW ad H locs LS _ _ _ h10 (fun LS2 q => ?_)
  refine k ad H locs LS2 h1 h2 h3 h4 (fun w hw => h5 w (List.mem_cons_of_mem _ hw)) (fun w hw => ?_) h7 h8 h9 (am_LR.put2 (v := vL x) hi q) (by show (((am_cl ls i).set i (vL x)).set (i + 1) vU).length = nL; rw [List.length_set, List.length_set, am_cl_len]; exact h11)
  rcases List.mem_or_eq_of_mem_set hw with q0 | q0
  · rcases List.mem_or_eq_of_mem_set q0 with q1 | q1
    · by_cases e : w = vU
      · exact Or.inl e
      · obtain ⟨j, hj⟩ := List.getElem?_of_mem q1
        exact h6 w (List.mem_of_getElem? (am_cl_get hj e).1)
    · rw [q1]
      exact Or.inr (h5 (vL x) (by simp))
  · exact Or.inl q0
theorem sm_iinc {pc i : Nat} {ls st : List am_V} {h : am_H} {x n : Int} (hx : p.tables.exec = Jvm.exec) (hb : c.code = cc) (hdg : decode cc pc = .ok (.iinc i n, 3)) (hi : ls[i]? = some (vI x))
    (k : am_G p l e R s m args below meth c Q D ca ft A n0 z0 ad0 nL (pc + 3, (am_cl ls i).set i (vI (am_w (x + n))), st, h)) : am_G p l e R s m args below meth c Q D ca ft A n0 z0 ad0 nL (pc, ls, st, h) := by
  intro ad H locs LS h1 h2 h3 h4 h5 h6 h7 h8 h9 h10 h11
  have hl : i < ls.length := (List.getElem?_eq_some_iff.mp hi).1
  have hm : (i, Value.int (Int32.ofInt x)) ∈ am_lvl ad ls := am_lvl_mem.mpr ⟨vI x, hi, (fun q => by cases q), rfl⟩
  obtain ⟨j, hj⟩ := List.getElem?_of_mem hm
  refine lv_iinc (k := j) (v := Int32.ofInt (am_w (x + n))) hx hb hdg h10 hj (by rw [am_w_o, Int32.ofInt_add]) hl rfl (fun LS2 q => ?_)
  refine k ad H locs LS2 h1 h2 h3 h4 h5 (fun w hw => ?_) h7 h8 h9 (am_LR.put1 (v := vI (am_w (x + n))) hl q) (by show ((am_cl ls i).set i _).length = nL; rw [List.length_set, am_cl_len]; exact h11)
  rcases List.mem_or_eq_of_mem_set hw with q1 | q1
  · by_cases e : w = vU
    · exact Or.inl e
    · obtain ⟨j, hj⟩ := List.getElem?_of_mem q1
      exact h6 w (List.mem_of_getElem? (am_cl_get hj e).1)
  · rw [q1]
    exact Or.inr (am_w_r _)
end SM
/-! Branches, fields, arrays. -/
section SM
variable {p : Program} {l : Launch} {e : Env} {R : Room} {s : State} {m : MethodId} {args : Array Value} {below : List Frame} {meth : Method} {c : Code} {Q : State → Prop} {D : va_G} {ca : Nat → ClassId} {ft : am_ft} {A : Nat → Prop} {n0 z0 : Nat} {ad0 : Nat → Nat} {nL : Nat} {cc : ByteArray}
theorem sm_if {cnd : Jvm.ClassFile.Cond} {pc tgt : Nat} {off : Int} {ls st : List am_V} {h : am_H} {a : Int} (hx : p.tables.exec = Jvm.exec) (hb : c.code = cc) (hdg : decode cc pc = .ok (.ifCond cnd off, 3)) (ht : (pc : Int) + off = (tgt : Int))
    (k : am_G p l e R s m args below meth c Q D ca ft A n0 z0 ad0 nL ((if am_cmp cnd a 0 then tgt else pc + 3), ls, st, h)) : am_G p l e R s m args below meth c Q D ca ft A n0 z0 ad0 nL (pc, ls, vI a :: st, h) := by
  intro ad H locs LS h1 h2 h3 h4 h5 h6 h7 h8 h9 h10 h11
  have ha : am_r32 a := h5 (vI a) (by simp)
  have hb9 : am_r32 0 := am_0r
  have e0 : (0 : Int32) = Int32.ofInt 0 := by decide
  have K := k ad H locs LS h1 h2 h3 h4 (fun w hw => h5 w (by simp [hw])) h6 h7 h8 h9 h10 h11
  cases cnd
  · refine lv_if_eq hx hb hdg ht (fun q => ?_) (fun q => ?_)
    · rw [e0] at q
      have q1 : a = 0 := (am_o_eq ha hb9).mp q
      have q2 : am_cmp .eq a 0 = true := by simp [am_cmp]; omega
      simp only [q2] at K
      exact K
    · rw [e0] at q
      have q1 : ¬ (a = 0) := fun z => q ((am_o_eq ha hb9).mpr z)
      have q2 : am_cmp .eq a 0 = false := by simp [am_cmp]; omega
      simp only [q2] at K
      exact K
  · refine lv_if_ne hx hb hdg ht (fun q => ?_) (fun q => ?_)
    · rw [e0] at q
      have q1 : ¬ a = 0 := fun z => q ((am_o_eq ha hb9).mpr z)
      have q2 : am_cmp .ne a 0 = true := by simp [am_cmp]; omega
      simp only [q2] at K
      exact K
    · rw [e0] at q
      have q1 : a = 0 := (am_o_eq ha hb9).mp q
      have q2 : am_cmp .ne a 0 = false := by simp [am_cmp]; omega
      simp only [q2] at K
      exact K
  · refine lv_if_lt hx hb hdg ht (fun q => ?_) (fun q => ?_)
    · rw [e0] at q
      have q1 : a < 0 := (am_o_lt ha hb9).mp q
      have q2 : am_cmp .lt a 0 = true := by simp [am_cmp]; omega
      simp only [q2] at K
      exact K
    · rw [e0] at q
      have q1 : ¬ (a < 0) := fun z => q ((am_o_lt ha hb9).mpr z)
      have q2 : am_cmp .lt a 0 = false := by simp [am_cmp]; omega
      simp only [q2] at K
      exact K
  · refine lv_if_ge hx hb hdg ht (fun q => ?_) (fun q => ?_)
    · rw [e0] at q
      have q1 : 0 ≤ a := (am_o_le hb9 ha).mp q
      have q2 : am_cmp .ge a 0 = true := by simp [am_cmp]; omega
      simp only [q2] at K
      exact K
    · rw [e0] at q
      have q1 : ¬ (0 ≤ a) := fun z => q ((am_o_le hb9 ha).mpr z)
      have q2 : am_cmp .ge a 0 = false := by simp [am_cmp]; omega
      simp only [q2] at K
      exact K
  · refine lv_if_gt hx hb hdg ht (fun q => ?_) (fun q => ?_)
    · rw [e0] at q
      have q1 : 0 < a := (am_o_lt hb9 ha).mp q
      have q2 : am_cmp .gt a 0 = true := by simp [am_cmp]; omega
      simp only [q2] at K
      exact K
    · rw [e0] at q
      have q1 : ¬ (0 < a) := fun z => q ((am_o_lt hb9 ha).mpr z)
      have q2 : am_cmp .gt a 0 = false := by simp [am_cmp]; omega
      simp only [q2] at K
      exact K
  · refine lv_if_le hx hb hdg ht (fun q => ?_) (fun q => ?_)
    · rw [e0] at q
      have q1 : a ≤ 0 := (am_o_le ha hb9).mp q
      have q2 : am_cmp .le a 0 = true := by simp [am_cmp]; omega
      simp only [q2] at K
      exact K
    · rw [e0] at q
      have q1 : ¬ (a ≤ 0) := fun z => q ((am_o_le ha hb9).mpr z)
      have q2 : am_cmp .le a 0 = false := by simp [am_cmp]; omega
      simp only [q2] at K
      exact K
theorem sm_icmp {cnd : Jvm.ClassFile.Cond} {pc tgt : Nat} {off : Int} {ls st : List am_V} {h : am_H} {a b : Int} (hx : p.tables.exec = Jvm.exec) (hb : c.code = cc) (hdg : decode cc pc = .ok (.if_icmp cnd off, 3)) (ht : (pc : Int) + off = (tgt : Int))
    (k : am_G p l e R s m args below meth c Q D ca ft A n0 z0 ad0 nL ((if am_cmp cnd a b then tgt else pc + 3), ls, st, h)) : am_G p l e R s m args below meth c Q D ca ft A n0 z0 ad0 nL (pc, ls, vI b :: vI a :: st, h) := by
  intro ad H locs LS h1 h2 h3 h4 h5 h6 h7 h8 h9 h10 h11
  have ha : am_r32 a := h5 (vI a) (by simp)
  have hb9 : am_r32 b := h5 (vI b) (by simp)
  have K := k ad H locs LS h1 h2 h3 h4 (fun w hw => h5 w (by simp [hw])) h6 h7 h8 h9 h10 h11
  cases cnd
  · refine lv_icmp_eq hx hb hdg ht (fun q => ?_) (fun q => ?_)
    · have q1 : a = b := (am_o_eq ha hb9).mp q
      have q2 : am_cmp .eq a b = true := by simp [am_cmp]; omega
      simp only [q2] at K
      exact K
    · have q1 : ¬ (a = b) := fun z => q ((am_o_eq ha hb9).mpr z)
      have q2 : am_cmp .eq a b = false := by simp [am_cmp]; omega
      simp only [q2] at K
      exact K
  · refine lv_icmp_ne hx hb hdg ht (fun q => ?_) (fun q => ?_)
    · have q1 : ¬ a = b := fun z => q ((am_o_eq ha hb9).mpr z)
      have q2 : am_cmp .ne a b = true := by simp [am_cmp]; omega
      simp only [q2] at K
      exact K
    · have q1 : a = b := (am_o_eq ha hb9).mp q
      have q2 : am_cmp .ne a b = false := by simp [am_cmp]; omega
      simp only [q2] at K
      exact K
  · refine lv_icmp_lt hx hb hdg ht (fun q => ?_) (fun q => ?_)
    · have q1 : a < b := (am_o_lt ha hb9).mp q
      have q2 : am_cmp .lt a b = true := by simp [am_cmp]; omega
      simp only [q2] at K
      exact K
    · have q1 : ¬ (a < b) := fun z => q ((am_o_lt ha hb9).mpr z)
      have q2 : am_cmp .lt a b = false := by simp [am_cmp]; omega
      simp only [q2] at K
      exact K
  · refine lv_icmp_ge hx hb hdg ht (fun q => ?_) (fun q => ?_)
    · have q1 : b ≤ a := (am_o_le hb9 ha).mp q
      have q2 : am_cmp .ge a b = true := by simp [am_cmp]; omega
      simp only [q2] at K
      exact K
    · have q1 : ¬ (b ≤ a) := fun z => q ((am_o_le hb9 ha).mpr z)
      have q2 : am_cmp .ge a b = false := by simp [am_cmp]; omega
      simp only [q2] at K
      exact K
  · refine lv_icmp_gt hx hb hdg ht (fun q => ?_) (fun q => ?_)
    · have q1 : b < a := (am_o_lt hb9 ha).mp q
      have q2 : am_cmp .gt a b = true := by simp [am_cmp]; omega
      simp only [q2] at K
      exact K
    · have q1 : ¬ (b < a) := fun z => q ((am_o_lt hb9 ha).mpr z)
      have q2 : am_cmp .gt a b = false := by simp [am_cmp]; omega
      simp only [q2] at K
      exact K
  · refine lv_icmp_le hx hb hdg ht (fun q => ?_) (fun q => ?_)
    · have q1 : a ≤ b := (am_o_le ha hb9).mp q
      have q2 : am_cmp .le a b = true := by simp [am_cmp]; omega
      simp only [q2] at K
      exact K
    · have q1 : ¬ (a ≤ b) := fun z => q ((am_o_le ha hb9).mpr z)
      have q2 : am_cmp .le a b = false := by simp [am_cmp]; omega
      simp only [q2] at K
      exact K
theorem sm_goto {pc tgt : Nat} {off : Int} {ls st : List am_V} {h : am_H} (hx : p.tables.exec = Jvm.exec) (hb : c.code = cc) (hdg : decode cc pc = .ok (.goto off, 3)) (ht : (pc : Int) + off = (tgt : Int)) (k : am_G p l e R s m args below meth c Q D ca ft A n0 z0 ad0 nL (tgt, ls, st, h)) : am_G p l e R s m args below meth c Q D ca ft A n0 z0 ad0 nL (pc, ls, st, h) := by
  intro ad H locs LS h1 h2 h3 h4 h5 h6 h7 h8 h9 h10 h11
  exact lv_goto hx hb hdg ht (k ad H locs LS h1 h2 h3 h4 h5 h6 h7 h8 h9 h10 h11)
theorem sm_sw1 {pc : Nat} {d lo hi : Int} {offs : Array Int} {len : Nat} {ls st : List am_V} {h : am_H} {a : Int} (hx : p.tables.exec = Jvm.exec) (hb : c.code = cc) (hdg : decode cc pc = .ok (.tableswitch d lo hi offs, len)) (ho : a < lo ∨ hi < a) (ht : 0 ≤ (pc : Int) + d) (k : am_G p l e R s m args below meth c Q D ca ft A n0 z0 ad0 nL (((pc : Int) + d).toNat, ls, st, h)) : am_G p l e R s m args below meth c Q D ca ft A n0 z0 ad0 nL (pc, ls, vI a :: st, h) := by
  intro ad H locs LS h1 h2 h3 h4 h5 h6 h7 h8 h9 h10 h11
  have ha : am_r32 a := h5 (vI a) (by simp)
  exact lv_tableOut hx hb hdg (by rw [am_tI ha]; exact ho) (by omega) (k ad H locs LS h1 h2 h3 h4 (fun w hw => h5 w (by simp [hw])) h6 h7 h8 h9 h10 h11)
theorem sm_sw2 {pc : Nat} {d lo hi o : Int} {offs : Array Int} {len : Nat} {ls st : List am_V} {h : am_H} {a : Int} (hx : p.tables.exec = Jvm.exec) (hb : c.code = cc) (hdg : decode cc pc = .ok (.tableswitch d lo hi offs, len)) (ho : ¬ (a < lo ∨ hi < a)) (hq : offs[(a - lo).toNat]? = some o) (ht : 0 ≤ (pc : Int) + o) (k : am_G p l e R s m args below meth c Q D ca ft A n0 z0 ad0 nL (((pc : Int) + o).toNat, ls, st, h)) : am_G p l e R s m args below meth c Q D ca ft A n0 z0 ad0 nL (pc, ls, vI a :: st, h) := by
  intro ad H locs LS h1 h2 h3 h4 h5 h6 h7 h8 h9 h10 h11
  have ha : am_r32 a := h5 (vI a) (by simp)
  exact lv_tableIn hx hb hdg (by rw [am_tI ha]; omega) (by rw [am_tI ha]; omega) (by rw [am_tI ha]; exact hq) (by omega) (k ad H locs LS h1 h2 h3 h4 (fun w hw => h5 w (by simp [hw])) h6 h7 h8 h9 h10 h11)
theorem am_ce_obj {ad : Nat → Nat} {ca : Nat → ClassId} {K : am_K} {x : Nat} (h : K.1 = 10 + x) : am_ce ad ca K = .inr (x, (List.range K.2.1).map (fun y => am_cv ad (K.2.2 y))) := by
  unfold am_ce
  rw [if_neg (by omega), if_neg (by omega), if_neg (by omega), h, Nat.add_sub_cancel_left]
theorem am_ce_i {ad : Nat → Nat} {ca : Nat → ClassId} {K : am_K} {k : Nat} (h : K.1 = k) (h2 : k < 2) : am_ce ad ca K = .inl (ca k, K.2.1, .inl (fun i => am_toI (K.2.2 i))) := by
  unfold am_ce
  rw [if_pos (by omega), h]
theorem am_ce_l {ad : Nat → Nat} {ca : Nat → ClassId} {K : am_K} (h : K.1 = 2) : am_ce ad ca K = .inl (ca 2, K.2.1, .inr (.inl (fun i => am_toL (K.2.2 i)))) := by
  unfold am_ce
  rw [if_neg (by omega), if_pos h]
theorem am_ce_q {ad : Nat → Nat} {ca : Nat → ClassId} {K : am_K} (h : 3 ≤ K.1) (h2 : K.1 < 7) : am_ce ad ca K = .inl (ca K.1, K.2.1, .inr (.inr (.inr (.inr (fun i => am_toR ad (K.2.2 i)))))) := by
  unfold am_ce
  rw [if_neg (by omega), if_neg (by omega), if_pos h2]
/-- a field's link and what the tables say of its class -/
def am_fl (own : String) (index x y : Nat) (Ts : List Cond) : Prop := ∃ (C : String) (T : u_T) (N : Nat), vwCl[x]? = some (C, T, N) ∧ y < N ∧ Cond.fieldLink own index (T y).1 (T y).2.1 (T y).2.2.1 ∈ Ts ∧ ∀ w ∈ u_ws C T N, w ∈ Ts
theorem am_vt_ne {n k : Nat} {v : am_V} (h : am_vt n k v) : v ≠ vU := by
  rintro rfl
  exact h.1
theorem am_gd_fld {h : am_H} {a x y : Nat} (hg : am_gd ft h) (ha : a < h.1) (hk : (h.2.2 a).1 = 10 + x) (hy : y < (h.2.2 a).2.1) : am_vt h.1 (ft x y) ((h.2.2 a).2.2 y) := by
  rcases hg a ha with q | q
  · omega
  · have := q.2 y hy
    rwa [hk, Nat.add_sub_cancel_left] at this
theorem am_gd_arr {h : am_H} {a : Nat} (hg : am_gd ft h) (ha : a < h.1) (hk : (h.2.2 a).1 < 7) (i : Nat) : am_vt h.1 (am_ek (h.2.2 a).1) ((h.2.2 a).2.2 i) := by
  rcases hg a ha with q | q
  · exact q.2.2 i
  · omega
theorem sm_gf {own : String} {Ts : List Cond} {pc index a x y : Nat} {ls st : List am_V} {h : am_H} (hx : p.tables.exec = Jvm.exec) (hb : c.code = cc) (hown : s.vm.findClass own = some m.cls) (hts : ∀ w ∈ Ts, w.before args s = true) (hK : va_K D vwCl (am_tys ca) s) (hdg : decode cc pc = .ok (.getfield index, 3)) (hf : am_fl own index x y Ts)
    (ha : a < h.1) (hk : (h.2.2 a).1 = 10 + x) (hy : y < (h.2.2 a).2.1) (k : am_G p l e R s m args below meth c Q D ca ft A n0 z0 ad0 nL (pc + 3, ls, (h.2.2 a).2.2 y :: st, h)) : am_G p l e R s m args below meth c Q D ca ft A n0 z0 ad0 nL (pc, ls, vR a :: st, h) := by
  intro ad H locs LS h1 h2 h3 h4 h5 h6 h7 h8 h9 h10 h11
  obtain ⟨C, T, N, f1, f2, f3, f4⟩ := hf
  have hv := am_gd_fld h4 ha hk hy
  refine va_get hx hb hts f4 hown hK h7 a ((am_ws_at ha).trans (by rw [am_ce_obj hk])) f1 y f2 (hts _ f3) (fun _ q => q) (v := am_cv ad ((h.2.2 a).2.2 y)) ?_ hdg (k ad H locs LS h1 h2 h3 h4 (fun w hw => (List.mem_cons.mp hw).elim (fun q => by rw [q]; exact hv.1) (fun q => h5 w (List.mem_cons_of_mem _ q))) h6 h7 h8 h9 h10 h11)
  rw [List.getElem?_map, List.getElem?_range hy]
  rfl
/-- a kind of values and a type -/
def am_tk (k : Nat) (ty : FieldType) : Bool := match k, ty with
  | 0, .int => true
  | 1, .boolean => true
  | 2, .long => true
  | 3, .array _ => true
  | 3, .object _ => true
  | _, _ => false
theorem am_fit {ad : Nat → Nat} {n k : Nat} {v : am_V} {ty : FieldType} (hv : am_vk n v) (hf : am_fok k v = true) (ht : am_tk k ty = true) : narrow ty (am_cv ad v) = am_cv ad v ∧ fits ty (am_cv ad v) = true := by
  rcases v with (x | x) | _ | _ | a
  · have : (k = 0) ∨ (k = 1 ∧ (x = 0 ∨ x = 1)) := by simpa [am_fok] using hf
    rcases this with rfl | ⟨rfl, rfl | rfl⟩
    · cases ty <;> first | (cases ht; done) | exact ⟨rfl, rfl⟩
    · cases ty <;> first | (cases ht; done) | exact ⟨(by decide : narrow .boolean (.int (Int32.ofInt 0)) = .int (Int32.ofInt 0)), (by decide : fits .boolean (.int (Int32.ofInt 0)) = true)⟩
    · cases ty <;> first | (cases ht; done) | exact ⟨(by decide : narrow .boolean (.int (Int32.ofInt 1)) = .int (Int32.ofInt 1)), (by decide : fits .boolean (.int (Int32.ofInt 1)) = true)⟩
  · have : k = 2 := by simpa [am_fok] using hf
    subst this
    cases ty <;> first | (cases ht; done) | exact ⟨rfl, rfl⟩
  · exact hv.elim
  · have : k = 3 := by simpa [am_fok] using hf
    subst this
    cases ty <;> first | (cases ht; done) | exact ⟨rfl, rfl⟩
  · have : k = 3 := by simpa [am_fok] using hf
    subst this
    cases ty <;> first | (cases ht; done) | exact ⟨rfl, rfl⟩
theorem am_gd_wr {h : am_H} {a i : Nat} {v : am_V} (hg : am_gd ft h) (hc : am_ckd ft h.1 ((h.2.2 a).1, (h.2.2 a).2.1, am_up (h.2.2 a).2.2 i v)) : am_gd ft (am_wr h a i v) := by
  intro k hk
  show am_ckd ft h.1 (am_up h.2.2 a _ k)
  unfold am_up
  by_cases e : k = a
  · rw [if_pos e]
    exact hc
  · rw [if_neg e]
    exact hg k hk
theorem am_map_set {ad : Nat → Nat} {n y : Nat} {f : Nat → am_V} {v : am_V} : (List.range n).map (fun j => am_cv ad (am_up f y v j)) = ((List.range n).map (fun j => am_cv ad (f j))).set y (am_cv ad v) := by
  apply List.ext_getElem?
  intro i
  rw [List.getElem?_set, List.getElem?_map, List.getElem?_map]
  by_cases hi : i < n
  · rw [List.getElem?_range hi]
    by_cases e : y = i
    · subst e
      simp [am_up, hi]
    · simp [am_up, e, Ne.symm e]
  · have : (List.range n)[i]? = none := List.getElem?_eq_none (by simp; omega)
    rw [this]
    by_cases e : y = i
    · subst e
      simp [hi]
    · simp [e]
/-- behind a write of a field or an element -/
theorem am_put_go {pc2 a i : Nat} {ls st us : List am_V} {h : am_H} {v : am_V} {ad : Nat → Nat} {H : Heap} {locs : List Loc} {LS : Array Slot} {e1 : va_E} (h1 : ∀ k, k < n0 → ad k = ad0 k) (h2 : n0 ≤ h.1) (h3 : z0 ≤ h.2.1) (h5 : ∀ w ∈ us ++ st, am_vk h.1 w) (h6 : ∀ w ∈ ls, w = vU ∨ am_vk h.1 w) (h10 : am_LR ad ls LS) (h11 : ls.length = nL) (ha : a < h.1) (hc : am_gd ft (am_wr h a i v))
    (he : am_ce ad ca ((h.2.2 a).1, (h.2.2 a).2.1, am_up (h.2.2 a).2.2 i v) = e1) (k : am_G p l e R s m args below meth c Q D ca ft A n0 z0 ad0 nL (pc2, ls, st, am_wr h a i v))
    (hP : va_P D vwCl ((am_ws ad ca h).set a (ad a, e1)) H) (hD : va_D A ((am_ws ad ca h).set a (ad a, e1))) (hS : va_S A s.heap H locs) : W p l e R s m args below meth c H locs (h.1 - n0) (h.2.1 - z0) Q (F0 m pc2 LS (st.map (am_cv ad))) := by
  have e : am_ws ad ca (am_wr h a i v) = (am_ws ad ca h).set a (ad a, e1) := am_ws_set ha he
  rw [← e] at hP hD
  exact k ad H locs LS h1 h2 h3 hc (fun w hw => h5 w (List.mem_append_right _ hw)) h6 hP hD hS h10 h11
theorem sm_pf {own : String} {Ts : List Cond} {pc index a x y : Nat} {ls st : List am_V} {h : am_H} {v : am_V} {C : String} {T : u_T} {N : Nat} (tyf : Nat → FieldType) (hx : p.tables.exec = Jvm.exec) (hb : c.code = cc) (hown : s.vm.findClass own = some m.cls) (hts : ∀ w ∈ Ts, w.before args s = true) (hK : va_K D vwCl (am_tys ca) s) (hdg : decode cc pc = .ok (.putfield index, 3))
    (f1 : vwCl[x]? = some (C, T, N)) (f2 : y < N) (f3 : Cond.fieldLink own index (T y).1 (T y).2.1 (T y).2.2.1 ∈ Ts) (f4 : ∀ w ∈ u_ws C T N, w ∈ Ts) (f5 : ∀ k, k < N → parseFieldDescriptor (T k).2.2.1 = some (tyf k)) (f6 : ∀ a, a < N → ∀ b, b < N → a ≠ b → (T a).2.1 ≠ (T b).2.1) (f7 : am_tk (ft x y) (tyf y) = true)
    (f8 : (T y).2.2.2 = false ∨ ((T y).2.2.2 = true ∧ meth.name = "<init>" ∧ (T y).1 = own))
    (ha : a < h.1) (hk : (h.2.2 a).1 = 10 + x) (hy : y < (h.2.2 a).2.1) (hv : am_fok (ft x y) v = true) (k : am_G p l e R s m args below meth c Q D ca ft A n0 z0 ad0 nL (pc + 3, ls, st, am_wr h a y v)) : am_G p l e R s m args below meth c Q D ca ft A n0 z0 ad0 nL (pc, ls, v :: vR a :: st, h) := by
  intro ad H locs LS h1 h2 h3 h4 h5 h6 h7 h8 h9 h10 h11
  have hvk : am_vk h.1 v := h5 v (by simp)
  obtain ⟨g1, g2⟩ := am_fit (ad := ad) hvk hv f7
  have he : am_ce ad ca ((h.2.2 a).1, (h.2.2 a).2.1, am_up (h.2.2 a).2.2 y v) = .inr (x, ((List.range (h.2.2 a).2.1).map (fun j => am_cv ad ((h.2.2 a).2.2 j))).set y (am_cv ad v)) := (am_ce_obj (K := ((h.2.2 a).1, (h.2.2 a).2.1, am_up (h.2.2 a).2.2 y v)) hk).trans (congrArg (fun z => (Sum.inr (x, z) : va_E)) am_map_set)
  have hc : am_gd ft (am_wr h a y v) := am_gd_wr h4 (Or.inr ⟨by omega, fun i hi => by
    show am_vt h.1 (ft ((h.2.2 a).1 - 10) i) (am_up (h.2.2 a).2.2 y v i)
    rw [hk, Nat.add_sub_cancel_left]
    unfold am_up
    by_cases e : i = y
    · rw [if_pos e, e]
      exact ⟨hvk, hv⟩
    · rw [if_neg e]
      exact am_gd_fld h4 ha hk hi⟩)
  have hl : y < ((List.range (h.2.2 a).2.1).map (fun j => am_cv ad ((h.2.2 a).2.2 j))).length := by simpa using hy
  rcases f8 with f8 | ⟨f8, f9, f10⟩
  · exact va_put hx hb hts f4 tyf f5 f6 hown hK h7 h8 h9 a ((am_ws_at ha).trans (by rw [am_ce_obj hk])) f1 y f2 (hts _ f3) (fun _ q => q) f8 (f5 y f2) g1 g2 hl hdg (fun H1 locs1 hP hD hS => am_put_go (us := [v, vR a]) h1 h2 h3 h5 h6 h10 h11 ha hc he k hP hD hS)
  · exact va_putF hx hb hts f4 tyf f5 f6 hown hK h7 h8 h9 a ((am_ws_at ha).trans (by rw [am_ce_obj hk])) f1 y f2 (hts _ f3) (fun _ q => q) f8 f9 f10 (f5 y f2) g1 g2 hl hdg (fun H1 locs1 hP hD hS => am_put_go (us := [v, vR a]) h1 h2 h3 h5 h6 h10 h11 ha hc he k hP hD hS)
end SM
/-! Arrays. -/
section SM
variable {p : Program} {l : Launch} {e : Env} {R : Room} {s : State} {m : MethodId} {args : Array Value} {below : List Frame} {meth : Method} {c : Code} {Q : State → Prop} {D : va_G} {ca : Nat → ClassId} {ft : am_ft} {A : Nat → Prop} {n0 z0 : Nat} {ad0 : Nat → Nat} {nL : Nat} {cc : ByteArray}
theorem am_cv_I {ad : Nat → Nat} {v : am_V} {n k : Nat} (hk : k < 2) (h : am_vt n k v) : am_cv ad v = .int (am_toI v) := by
  obtain ⟨h1, h2⟩ := h
  rcases v with (x | x) | _ | _ | a
  · rfl
  · have : k = 2 := by simpa [am_fok] using h2
    omega
  · exact h1.elim
  · have : k = 3 := by simpa [am_fok] using h2
    omega
  · have : k = 3 := by simpa [am_fok] using h2
    omega
theorem am_cv_iald {ad : Nat → Nat} {v : am_V} {n : Nat} (h : am_vt n 0 v) : am_cv ad v = .int (am_toI v) := am_cv_I (by omega) h
theorem am_cv_zald {ad : Nat → Nat} {v : am_V} {n : Nat} (h : am_vt n 1 v) : am_cv ad v = .int (am_toI v) := am_cv_I (by omega) h
theorem am_cv_lald {ad : Nat → Nat} {v : am_V} {n : Nat} (h : am_vt n 2 v) : am_cv ad v = .long (am_toL v) := by
  obtain ⟨h1, h2⟩ := h
  rcases v with (x | x) | _ | _ | a
  · simp [am_fok] at h2
  · rfl
  · exact h1.elim
  · simp [am_fok] at h2
  · simp [am_fok] at h2
theorem am_cv_aald {ad : Nat → Nat} {v : am_V} {n : Nat} (h : am_vt n 3 v) : am_cv ad v = va_rf (am_toR ad v) := by
  obtain ⟨h1, h2⟩ := h
  rcases v with (x | x) | _ | _ | a
  · simp [am_fok] at h2
  · simp [am_fok] at h2
  · exact h1.elim
  · rfl
  · rfl
theorem am_nar {v : am_V} {n : Nat} (h1 : am_vk n v) (h2 : am_fok 1 v = true) : vp_nar .boolean (am_toI v) = am_toI v := by
  rcases v with (x | x) | _ | _ | a
  · have : x = 0 ∨ x = 1 := by simpa [am_fok] using h2
    rcases this with rfl | rfl
    · exact (by decide : vp_nar .boolean (Int32.ofInt 0) = Int32.ofInt 0)
    · exact (by decide : vp_nar .boolean (Int32.ofInt 1) = Int32.ofInt 1)
  · simp [am_fok] at h2
  · exact h1.elim
  · simp [am_fok] at h2
  · simp [am_fok] at h2
theorem sm_iald {pc a : Nat} {i : Int} {ls st : List am_V} {h : am_H} (hx : p.tables.exec = Jvm.exec) (hb : c.code = cc) (hK : va_K D vwCl (am_tys ca) s) (hdg : decode cc pc = .ok (.iaload, 1)) (ha : a < h.1) (hk : (h.2.2 a).1 = 0) (h0 : 0 ≤ i) (hi : i < ((h.2.2 a).2.1 : Int)) (k : am_G p l e R s m args below meth c Q D ca ft A n0 z0 ad0 nL (pc + 1, ls, (h.2.2 a).2.2 i.toNat :: st, h)) : am_G p l e R s m args below meth c Q D ca ft A n0 z0 ad0 nL (pc, ls, vI i :: vR a :: st, h) := by
  intro ad H locs LS h1 h2 h3 h4 h5 h6 h7 h8 h9 h10 h11
  have h4 : am_gd ft h := h4
  have hv := am_gd_arr h4 ha (by omega) i.toNat
  rw [hk] at hv
  obtain ⟨q1, q2⟩ := am_o_ix h0 hi (h5 (vI i) (by simp))
  refine va_iald hx hb hK h7 a 0 ((am_ws_at ha).trans (by rw [am_ce_i hk (by omega)])) (am_tys_at ca (k := 0) (by omega)) q1 hdg ?_
  rw [q2, show (Value.int <| am_toI ((h.2.2 a).2.2 i.toNat)) = am_cv ad ((h.2.2 a).2.2 i.toNat) from (am_cv_iald hv).symm]
  exact k ad H locs LS h1 h2 h3 h4 (fun w hw => (List.mem_cons.mp hw).elim (fun q => by rw [q]; exact hv.1) (fun q => h5 w (by simp [q]))) h6 h7 h8 h9 h10 h11
theorem sm_zald {pc a : Nat} {i : Int} {ls st : List am_V} {h : am_H} (hx : p.tables.exec = Jvm.exec) (hb : c.code = cc) (hK : va_K D vwCl (am_tys ca) s) (hdg : decode cc pc = .ok (.baload, 1)) (ha : a < h.1) (hk : (h.2.2 a).1 = 1) (h0 : 0 ≤ i) (hi : i < ((h.2.2 a).2.1 : Int)) (k : am_G p l e R s m args below meth c Q D ca ft A n0 z0 ad0 nL (pc + 1, ls, (h.2.2 a).2.2 i.toNat :: st, h)) : am_G p l e R s m args below meth c Q D ca ft A n0 z0 ad0 nL (pc, ls, vI i :: vR a :: st, h) := by
  intro ad H locs LS h1 h2 h3 h4 h5 h6 h7 h8 h9 h10 h11
  have h4 : am_gd ft h := h4
  have hv := am_gd_arr h4 ha (by omega) i.toNat
  rw [hk] at hv
  obtain ⟨q1, q2⟩ := am_o_ix h0 hi (h5 (vI i) (by simp))
  refine va_zald hx hb hK h7 a 1 ((am_ws_at ha).trans (by rw [am_ce_i hk (by omega)])) (am_tys_at ca (k := 1) (by omega)) q1 hdg ?_
  rw [q2, show (Value.int <| am_toI ((h.2.2 a).2.2 i.toNat)) = am_cv ad ((h.2.2 a).2.2 i.toNat) from (am_cv_zald hv).symm]
  exact k ad H locs LS h1 h2 h3 h4 (fun w hw => (List.mem_cons.mp hw).elim (fun q => by rw [q]; exact hv.1) (fun q => h5 w (by simp [q]))) h6 h7 h8 h9 h10 h11
theorem sm_lald {pc a : Nat} {i : Int} {ls st : List am_V} {h : am_H} (hx : p.tables.exec = Jvm.exec) (hb : c.code = cc) (hK : va_K D vwCl (am_tys ca) s) (hdg : decode cc pc = .ok (.laload, 1)) (ha : a < h.1) (hk : (h.2.2 a).1 = 2) (h0 : 0 ≤ i) (hi : i < ((h.2.2 a).2.1 : Int)) (k : am_G p l e R s m args below meth c Q D ca ft A n0 z0 ad0 nL (pc + 1, ls, (h.2.2 a).2.2 i.toNat :: st, h)) : am_G p l e R s m args below meth c Q D ca ft A n0 z0 ad0 nL (pc, ls, vI i :: vR a :: st, h) := by
  intro ad H locs LS h1 h2 h3 h4 h5 h6 h7 h8 h9 h10 h11
  have h4 : am_gd ft h := h4
  have hv := am_gd_arr h4 ha (by omega) i.toNat
  rw [hk] at hv
  obtain ⟨q1, q2⟩ := am_o_ix h0 hi (h5 (vI i) (by simp))
  refine va_lald hx hb hK h7 a 2 ((am_ws_at ha).trans (by rw [am_ce_l hk])) (am_tys_at ca (k := 2) (by omega)) q1 hdg ?_
  rw [q2, show (Value.long <| am_toL ((h.2.2 a).2.2 i.toNat)) = am_cv ad ((h.2.2 a).2.2 i.toNat) from (am_cv_lald hv).symm]
  exact k ad H locs LS h1 h2 h3 h4 (fun w hw => (List.mem_cons.mp hw).elim (fun q => by rw [q]; exact hv.1) (fun q => h5 w (by simp [q]))) h6 h7 h8 h9 h10 h11
theorem sm_iast {pc a : Nat} {i : Int} {ls st : List am_V} {h : am_H} {v : am_V} (hx : p.tables.exec = Jvm.exec) (hb : c.code = cc) (hK : va_K D vwCl (am_tys ca) s) (hdg : decode cc pc = .ok (.iastore, 1)) (ha : a < h.1) (hk : (h.2.2 a).1 = 0) (hf : am_fok 0 v = true) (h0 : 0 ≤ i) (hi : i < ((h.2.2 a).2.1 : Int)) (k : am_G p l e R s m args below meth c Q D ca ft A n0 z0 ad0 nL (pc + 1, ls, st, am_wr h a i.toNat v)) : am_G p l e R s m args below meth c Q D ca ft A n0 z0 ad0 nL (pc, ls, v :: vI i :: vR a :: st, h) := by
  intro ad H locs LS h1 h2 h3 h4 h5 h6 h7 h8 h9 h10 h11
  have h4 : am_gd ft h := h4
  have hvk : am_vk h.1 v := h5 v (by simp)
  obtain ⟨q1, q2⟩ := am_o_ix h0 hi (h5 (vI i) (by simp))
  have hc : am_gd ft (am_wr h a i.toNat v) := am_gd_wr h4 (by
    rcases h4 a ha with q | q
    · refine Or.inl ⟨q.1, q.2.1, fun j => ?_⟩
      show am_vt h.1 (am_ek (h.2.2 a).1) (am_up (h.2.2 a).2.2 i.toNat v j)
      unfold am_up
      by_cases e : j = i.toNat
      · rw [if_pos e, hk]
        exact ⟨hvk, hf⟩
      · rw [if_neg e]
        exact q.2.2 j
    · omega)
  have he : am_ce ad ca ((h.2.2 a).1, (h.2.2 a).2.1, am_up (h.2.2 a).2.2 i.toNat v) = .inl (ca 0, (h.2.2 a).2.1, .inl (upd (fun j => am_toI ((h.2.2 a).2.2 j)) i.toNat (am_toI v))) := by
    rw [am_ce_i (K := ((h.2.2 a).1, (h.2.2 a).2.1, am_up (h.2.2 a).2.2 i.toNat v)) hk (by omega)]
    refine congrArg (fun z => (Sum.inl (ca 0, (h.2.2 a).2.1, .inl z) : va_E)) (funext fun j => ?_)
    show am_toI (am_up _ _ _ j) = upd _ _ _ j
    unfold am_up upd
    by_cases e : j = i.toNat
    · rw [if_pos e, if_pos e]
    · rw [if_neg e, if_neg e]
  rw [show ((v :: vI i :: vR a :: st).map (am_cv ad)) = .int (am_toI v) :: .int (Int32.ofInt i) :: .ref (ad a) :: st.map (am_cv ad) by rw [List.map_cons, am_cv_iald ⟨hvk, hf⟩]; rfl]
  refine va_iast hx hb hK h7 h8 h9 a 0 ((am_ws_at ha).trans (by rw [am_ce_i hk (by omega)])) (am_tys_at ca (k := 0) (by omega)) q1 hdg (fun H1 locs1 hP hD hS => ?_)
  rw [q2] at hP hD
  exact am_put_go (us := [v, vI i, vR a]) h1 h2 h3 h5 h6 h10 h11 ha hc he k hP hD hS
theorem sm_zast {pc a : Nat} {i : Int} {ls st : List am_V} {h : am_H} {v : am_V} (hx : p.tables.exec = Jvm.exec) (hb : c.code = cc) (hK : va_K D vwCl (am_tys ca) s) (hdg : decode cc pc = .ok (.bastore, 1)) (ha : a < h.1) (hk : (h.2.2 a).1 = 1) (hf : am_fok 1 v = true) (h0 : 0 ≤ i) (hi : i < ((h.2.2 a).2.1 : Int)) (k : am_G p l e R s m args below meth c Q D ca ft A n0 z0 ad0 nL (pc + 1, ls, st, am_wr h a i.toNat v)) : am_G p l e R s m args below meth c Q D ca ft A n0 z0 ad0 nL (pc, ls, v :: vI i :: vR a :: st, h) := by
  intro ad H locs LS h1 h2 h3 h4 h5 h6 h7 h8 h9 h10 h11
  have h4 : am_gd ft h := h4
  have hvk : am_vk h.1 v := h5 v (by simp)
  obtain ⟨q1, q2⟩ := am_o_ix h0 hi (h5 (vI i) (by simp))
  have hc : am_gd ft (am_wr h a i.toNat v) := am_gd_wr h4 (by
    rcases h4 a ha with q | q
    · refine Or.inl ⟨q.1, q.2.1, fun j => ?_⟩
      show am_vt h.1 (am_ek (h.2.2 a).1) (am_up (h.2.2 a).2.2 i.toNat v j)
      unfold am_up
      by_cases e : j = i.toNat
      · rw [if_pos e, hk]
        exact ⟨hvk, hf⟩
      · rw [if_neg e]
        exact q.2.2 j
    · omega)
  have he : am_ce ad ca ((h.2.2 a).1, (h.2.2 a).2.1, am_up (h.2.2 a).2.2 i.toNat v) = .inl (ca 1, (h.2.2 a).2.1, .inl (upd (fun j => am_toI ((h.2.2 a).2.2 j)) i.toNat (am_toI v))) := by
    rw [am_ce_i (K := ((h.2.2 a).1, (h.2.2 a).2.1, am_up (h.2.2 a).2.2 i.toNat v)) hk (by omega)]
    refine congrArg (fun z => (Sum.inl (ca 1, (h.2.2 a).2.1, .inl z) : va_E)) (funext fun j => ?_)
    show am_toI (am_up _ _ _ j) = upd _ _ _ j
    unfold am_up upd
    by_cases e : j = i.toNat
    · rw [if_pos e, if_pos e]
    · rw [if_neg e, if_neg e]
  rw [show ((v :: vI i :: vR a :: st).map (am_cv ad)) = .int (am_toI v) :: .int (Int32.ofInt i) :: .ref (ad a) :: st.map (am_cv ad) by rw [List.map_cons, am_cv_zald ⟨hvk, hf⟩]; rfl]
  refine va_zast hx hb hK h7 h8 h9 a 1 ((am_ws_at ha).trans (by rw [am_ce_i hk (by omega)])) (am_tys_at ca (k := 1) (by omega)) q1 hdg (fun H1 locs1 hP hD hS => ?_)
  rw [q2, am_nar hvk hf] at hP hD
  exact am_put_go (us := [v, vI i, vR a]) h1 h2 h3 h5 h6 h10 h11 ha hc he k hP hD hS
theorem sm_last {pc a : Nat} {i : Int} {ls st : List am_V} {h : am_H} {v : am_V} (hx : p.tables.exec = Jvm.exec) (hb : c.code = cc) (hK : va_K D vwCl (am_tys ca) s) (hdg : decode cc pc = .ok (.lastore, 1)) (ha : a < h.1) (hk : (h.2.2 a).1 = 2) (hf : am_fok 2 v = true) (h0 : 0 ≤ i) (hi : i < ((h.2.2 a).2.1 : Int)) (k : am_G p l e R s m args below meth c Q D ca ft A n0 z0 ad0 nL (pc + 1, ls, st, am_wr h a i.toNat v)) : am_G p l e R s m args below meth c Q D ca ft A n0 z0 ad0 nL (pc, ls, v :: vI i :: vR a :: st, h) := by
  intro ad H locs LS h1 h2 h3 h4 h5 h6 h7 h8 h9 h10 h11
  have h4 : am_gd ft h := h4
  have hvk : am_vk h.1 v := h5 v (by simp)
  obtain ⟨q1, q2⟩ := am_o_ix h0 hi (h5 (vI i) (by simp))
  have hc : am_gd ft (am_wr h a i.toNat v) := am_gd_wr h4 (by
    rcases h4 a ha with q | q
    · refine Or.inl ⟨q.1, q.2.1, fun j => ?_⟩
      show am_vt h.1 (am_ek (h.2.2 a).1) (am_up (h.2.2 a).2.2 i.toNat v j)
      unfold am_up
      by_cases e : j = i.toNat
      · rw [if_pos e, hk]
        exact ⟨hvk, hf⟩
      · rw [if_neg e]
        exact q.2.2 j
    · omega)
  have he : am_ce ad ca ((h.2.2 a).1, (h.2.2 a).2.1, am_up (h.2.2 a).2.2 i.toNat v) = .inl (ca 2, (h.2.2 a).2.1, .inr <| .inl (vp_updL (fun j => am_toL ((h.2.2 a).2.2 j)) i.toNat (am_toL v))) := by
    rw [am_ce_l (K := ((h.2.2 a).1, (h.2.2 a).2.1, am_up (h.2.2 a).2.2 i.toNat v)) hk]
    refine congrArg (fun z => (Sum.inl (ca 2, (h.2.2 a).2.1, .inr <| .inl z) : va_E)) (funext fun j => ?_)
    show am_toL (am_up _ _ _ j) = vp_updL _ _ _ j
    unfold am_up vp_updL
    by_cases e : j = i.toNat
    · rw [if_pos e, if_pos e]
    · rw [if_neg e, if_neg e]
  rw [show ((v :: vI i :: vR a :: st).map (am_cv ad)) = .long (am_toL v) :: .int (Int32.ofInt i) :: .ref (ad a) :: st.map (am_cv ad) by rw [List.map_cons, am_cv_lald ⟨hvk, hf⟩]; rfl]
  refine va_last hx hb hK h7 h8 h9 a 2 ((am_ws_at ha).trans (by rw [am_ce_l hk])) (am_tys_at ca (k := 2) (by omega)) q1 hdg (fun H1 locs1 hP hD hS => ?_)
  rw [q2] at hP hD
  exact am_put_go (us := [v, vI i, vR a]) h1 h2 h3 h5 h6 h10 h11 ha hc he k hP hD hS
theorem am_ek_q {k : Nat} (h : 3 ≤ k) : am_ek k = 3 := by
  unfold am_ek
  split <;> omega
theorem sm_aald {pc a : Nat} {i : Int} {ls st : List am_V} {h : am_H} (hx : p.tables.exec = Jvm.exec) (hb : c.code = cc) (hK : va_K D vwCl (am_tys ca) s) (hdg : decode cc pc = .ok (.aaload, 1)) (ha : a < h.1) (hk : 3 ≤ (h.2.2 a).1) (hk7 : (h.2.2 a).1 < 7) (h0 : 0 ≤ i) (hi : i < ((h.2.2 a).2.1 : Int)) (k : am_G p l e R s m args below meth c Q D ca ft A n0 z0 ad0 nL (pc + 1, ls, (h.2.2 a).2.2 i.toNat :: st, h)) : am_G p l e R s m args below meth c Q D ca ft A n0 z0 ad0 nL (pc, ls, vI i :: vR a :: st, h) := by
  intro ad H locs LS h1 h2 h3 h4 h5 h6 h7 h8 h9 h10 h11
  have h4 : am_gd ft h := h4
  have hv := am_gd_arr h4 ha hk7 i.toNat
  rw [am_ek_q hk] at hv
  obtain ⟨q1, q2⟩ := am_o_ix h0 hi (h5 (vI i) (by simp))
  have hlt : (Int32.ofInt i).toNatClampNeg < (h.2.2 a).2.1 := Nat.not_le.mp fun q => q1 (Or.inr q)
  have hw : (am_ws ad ca h)[a]? = some (ad a, .inl (ca (h.2.2 a).1, (h.2.2 a).2.1, .inr (.inr (.inr (.inr (fun j => am_toR ad ((h.2.2 a).2.2 j))))))) := (am_ws_at ha).trans (by rw [am_ce_q hk hk7])
  have ht := am_tys_at ca (k := (h.2.2 a).1) hk7
  refine W.aald (v := va_rf (am_toR ad ((h.2.2 a).2.2 (Int32.ofInt i).toNatClampNeg))) (ty := am_ty (h.2.2 a).1) hx hb (h7 a _ hw) ((hK.2 (h.2.2 a).1 _ ht).1 (h.2.2 a).2.1 (fun j => va_rf (am_toR ad ((h.2.2 a).2.2 j)))) (by
    unfold am_ty
    split <;> first | rfl | omega) (fun q => by cases q) (by show ¬ (Int32.ofInt i < 0 ∨ (arrV _ _ _).slots.size ≤ _); rw [arrV_size]; exact q1) (by show (arrV _ _ _).slots[_]? = _; rw [arrV_read _ _ hlt]) rfl rfl hdg ?_
  rw [q2, ← am_cv_aald hv]
  exact k ad H locs LS h1 h2 h3 h4 (fun w hw => (List.mem_cons.mp hw).elim (fun q => by rw [q]; exact hv.1) (fun q => h5 w (by simp [q]))) h6 h7 h8 h9 h10 h11
theorem sm_aast {pc a b ci : Nat} {r : vw_C} {i : Int} {ls st : List am_V} {h : am_H} (hx : p.tables.exec = Jvm.exec) (hb : c.code = cc) (hK : va_K D vwCl (am_tys ca) s) (hdg : decode cc pc = .ok (.aastore, 1)) (ha : a < h.1) (hb2 : b < h.1) (hk : 3 ≤ (h.2.2 a).1) (hk7 : (h.2.2 a).1 < 7) (hr : vwCl[ci]? = some r) (hty : am_ty (h.2.2 a).1 = .object r.1) (hkb : (h.2.2 b).1 = 10 + ci) (h0 : 0 ≤ i) (hi : i < ((h.2.2 a).2.1 : Int)) (k : am_G p l e R s m args below meth c Q D ca ft A n0 z0 ad0 nL (pc + 1, ls, st, am_wr h a i.toNat (vR b))) : am_G p l e R s m args below meth c Q D ca ft A n0 z0 ad0 nL (pc, ls, vR b :: vI i :: vR a :: st, h) := by
  intro ad H locs LS h1 h2 h3 h4 h5 h6 h7 h8 h9 h10 h11
  have h4 : am_gd ft h := h4
  obtain ⟨q1, q2⟩ := am_o_ix h0 hi (h5 (vI i) (by simp))
  have hc : am_gd ft (am_wr h a i.toNat (vR b)) := am_gd_wr h4 (by
    rcases h4 a ha with q | q
    · refine Or.inl ⟨q.1, q.2.1, fun j => ?_⟩
      show am_vt h.1 (am_ek (h.2.2 a).1) (am_up (h.2.2 a).2.2 i.toNat (vR b) j)
      unfold am_up
      by_cases e : j = i.toNat
      · rw [if_pos e, am_ek_q hk]
        exact ⟨hb2, rfl⟩
      · rw [if_neg e]
        exact q.2.2 j
    · omega)
  have he : am_ce ad ca ((h.2.2 a).1, (h.2.2 a).2.1, am_up (h.2.2 a).2.2 i.toNat (vR b)) = .inl (ca (h.2.2 a).1, (h.2.2 a).2.1, .inr (.inr (.inr (.inr (va_up (fun j => am_toR ad ((h.2.2 a).2.2 j)) i.toNat (some (ad b))))))) := by
    rw [am_ce_q (K := ((h.2.2 a).1, (h.2.2 a).2.1, am_up (h.2.2 a).2.2 i.toNat (vR b))) hk hk7]
    refine congrArg (fun z => (Sum.inl (ca (h.2.2 a).1, (h.2.2 a).2.1, .inr (.inr (.inr (.inr z)))) : va_E)) (funext fun j => ?_)
    show am_toR ad (am_up _ _ _ j) = va_up _ _ _ j
    unfold am_up va_up
    by_cases e : j = i.toNat
    · rw [if_pos e, if_pos e]
      rfl
    · rw [if_neg e, if_neg e]
  have hw : (am_ws ad ca h)[a]? = some (ad a, .inl (ca (h.2.2 a).1, (h.2.2 a).2.1, .inr (.inr (.inr (.inr (fun j => am_toR ad ((h.2.2 a).2.2 j))))))) := (am_ws_at ha).trans (by rw [am_ce_q hk hk7])
  have ht := am_tys_at ca (k := (h.2.2 a).1) hk7
  rw [hty] at ht
  refine va_astq hx hb hK h7 h8 h9 a (h.2.2 a).1 b ci hw ht ((am_ws_at hb2).trans (by rw [am_ce_obj hkb])) hr q1 hdg (fun H1 locs1 hP hD hS => ?_)
  rw [q2] at hP hD
  exact am_put_go (us := [vR b, vI i, vR a]) h1 h2 h3 h5 h6 h10 h11 ha hc he k hP hD hS
theorem sm_len {pc a : Nat} {ls st : List am_V} {h : am_H} (hx : p.tables.exec = Jvm.exec) (hb : c.code = cc) (hK : va_K D vwCl (am_tys ca) s) (hdg : decode cc pc = .ok (.arraylength, 1)) (ha : a < h.1) (hk7 : (h.2.2 a).1 < 7) (k : am_G p l e R s m args below meth c Q D ca ft A n0 z0 ad0 nL (pc + 1, ls, vI ((h.2.2 a).2.1 : Int) :: st, h)) : am_G p l e R s m args below meth c Q D ca ft A n0 z0 ad0 nL (pc, ls, vR a :: st, h) := by
  intro ad H locs LS h1 h2 h3 h4 h5 h6 h7 h8 h9 h10 h11
  have h4 : am_gd ft h := h4
  have hn : (h.2.2 a).2.1 ≤ 1024 := by
    rcases h4 a ha with q | q
    · exact q.2.1
    · omega
  have hr : am_r32 ((h.2.2 a).2.1 : Int) := by unfold am_r32; omega
  have ht := am_tys_at ca (k := (h.2.2 a).1) hk7
  have K := k ad H locs LS h1 h2 h3 h4 (fun w hw => (List.mem_cons.mp hw).elim (fun q => by rw [q]; exact hr) (fun q => h5 w (by simp [q]))) h6 h7 h8 h9 h10 h11
  have e : Int32.ofNat (h.2.2 a).2.1 = Int32.ofInt ((h.2.2 a).2.1 : Int) := Int32.toInt_inj.mp (by rw [am_tI hr]; exact nI_toInt (by omega))
  have hw := am_ws_at (ad := ad) (ca := ca) ha
  by_cases q1 : (h.2.2 a).1 < 2
  · rw [am_ce_i rfl q1] at hw
    exact va_alen hx hb hK h7 a (h.2.2 a).1 hw ht e hdg K
  · by_cases q2 : (h.2.2 a).1 = 2
    · rw [am_ce_l q2] at hw
      rw [q2] at ht
      exact va_alen hx hb hK h7 a 2 hw ht e hdg K
    · rw [am_ce_q (by omega) hk7] at hw
      exact va_alen hx hb hK h7 a (h.2.2 a).1 hw ht e hdg K
end SM
/-! New cells; copies. -/
section SM
variable {p : Program} {l : Launch} {e : Env} {R : Room} {s : State} {m : MethodId} {args : Array Value} {below : List Frame} {meth : Method} {c : Code} {Q : State → Prop} {D : va_G} {ca : Nat → ClassId} {ft : am_ft} {A : Nat → Prop} {n0 z0 : Nat} {ad0 : Nat → Nat} {nL : Nat} {cc : ByteArray}
theorem am_LR.cg {ad ad2 : Nat → Nat} {n : Nat} {ls : List am_V} {LS : Array Slot} (h : am_LR ad ls LS) (hh : ∀ k, k < n → ad2 k = ad k) (hl : ∀ v ∈ ls, v = vU ∨ am_vk n v) : am_LR ad2 ls LS := by
  refine ⟨h.1, h.2.1, fun q hq => ?_⟩
  obtain ⟨v, h1, h2, h3⟩ := am_lvl_mem.mp hq
  have hv : am_vk n v := (hl v (List.mem_of_getElem? h1)).elim (fun z => absurd z h2) (fun z => z)
  exact h.2.2 q (am_lvl_mem.mpr ⟨v, h1, h2, by rw [h3, am_cv_cg hh hv]⟩)
theorem am_st_cg {ad ad2 : Nat → Nat} {n : Nat} {st : List am_V} (hh : ∀ k, k < n → ad2 k = ad k) (hl : ∀ v ∈ st, am_vk n v) : st.map (am_cv ad2) = st.map (am_cv ad) := List.map_congr_left fun v hv => am_cv_cg hh (hl v hv)
theorem am_up_lt {ad : Nat → Nat} {n q : Nat} : ∀ k, k < n → am_up ad n q k = ad k := fun k hk => by simp [am_up, Nat.ne_of_lt hk]
/-- behind a new cell -/
theorem am_new_go {pc2 q kd n : Nat} {ls st us : List am_V} {h : am_H} {f : Nat → am_V} {ad : Nat → Nat} {H : Heap} {locs : List Loc} {LS : Array Slot} {e1 : va_E} (h1 : ∀ k, k < n0 → ad k = ad0 k) (h2 : n0 ≤ h.1) (h3 : z0 ≤ h.2.1) (h4 : am_gd ft h) (h5 : ∀ w ∈ us ++ st, am_vk h.1 w) (h6 : ∀ w ∈ ls, w = vU ∨ am_vk h.1 w) (h10 : am_LR ad ls LS) (h11 : ls.length = nL) (hc : am_ckd ft (h.1 + 1) (kd, n, f))
    (he : am_ce (am_up ad h.1 q) ca (kd, n, f) = e1) (k : am_G p l e R s m args below meth c Q D ca ft A n0 z0 ad0 nL (pc2, ls, vR h.1 :: st, am_mk h kd n f))
    (hP : va_P D vwCl (am_ws ad ca h ++ [(q, e1)]) H) (hD : va_D A (am_ws ad ca h ++ [(q, e1)])) (hS : va_S A s.heap H locs) : W p l e R s m args below meth c H locs (h.1 - n0 + 1) (h.2.1 - z0 + n) Q (F0 m pc2 LS (.ref q :: st.map (am_cv ad))) := by
  have e : am_ws (am_up ad h.1 q) ca (am_mk h kd n f) = am_ws ad ca h ++ [(q, e1)] := by
    rw [← he]
    exact am_ws_push h4
  rw [← e] at hP hD
  have hlt : ∀ k, k < h.1 → am_up ad h.1 q k = ad k := am_up_lt
  have hs5 : ∀ w ∈ st, am_vk h.1 w := fun w hw => h5 w (List.mem_append_right _ hw)
  have K := k (am_up ad h.1 q) H locs LS (fun j hj => (hlt j (by omega)).trans (h1 j hj)) (show n0 ≤ h.1 + 1 by omega) (show z0 ≤ h.2.1 + n by omega) (fun j hj => by
      show am_ckd ft (h.1 + 1) (am_up h.2.2 h.1 (kd, n, f) j)
      have hj : j < h.1 + 1 := hj
      unfold am_up
      by_cases e9 : j = h.1
      · rw [if_pos e9]
        exact hc
      · rw [if_neg e9]
        exact (h4 j (by omega)).mono (Nat.le_succ _))
    (fun w hw => (List.mem_cons.mp hw).elim (fun z => by rw [z]; exact Nat.lt_succ_self _) (fun z => (hs5 w z).mono (Nat.le_succ _)))
    (fun w hw => (h6 w hw).elim Or.inl (fun z => Or.inr (z.mono (Nat.le_succ _)))) hP hD hS (h10.cg hlt h6) h11
  have e2 : (vR h.1 :: st).map (am_cv (am_up ad h.1 q)) = .ref q :: st.map (am_cv ad) := by
    rw [List.map_cons, am_st_cg hlt hs5]
    show Value.ref (am_up ad h.1 q h.1) :: _ = _
    simp [am_up]
  exact W.cs (show h.1 - n0 + 1 = h.1 + 1 - n0 by omega) (show h.2.1 - z0 + n = h.2.1 + n - z0 by omega) (by rw [← e2]; exact K)
theorem am_dv_ok {n k : Nat} {ty : FieldType} (h : am_tk k ty = true) : am_vt n k (am_dv k) ∧ ∀ ad, defaultValue ty = am_cv ad (am_dv k) := by
  unfold am_tk at h
  split at h
  · exact ⟨⟨am_0r, rfl⟩, fun _ => rfl⟩
  · exact ⟨⟨am_0r, rfl⟩, fun _ => rfl⟩
  · exact ⟨⟨am_0l, rfl⟩, fun _ => rfl⟩
  · exact ⟨⟨trivial, rfl⟩, fun _ => rfl⟩
  · exact ⟨⟨trivial, rfl⟩, fun _ => rfl⟩
  · cases h
theorem sm_new {own : String} {Ts : List Cond} {pc index x : Nat} {ls st : List am_V} {h : am_H} {C : String} {T : u_T} {N : Nat} (tyf : Nat → FieldType) (hx : p.tables.exec = Jvm.exec) (hb : c.code = cc) (hown : s.vm.findClass own = some m.cls) (hts : ∀ w ∈ Ts, w.before args s = true) (hK : va_K D vwCl (am_tys ca) s) (hA : ∀ q, s.heap.size ≤ q → A q) (hdg : decode cc pc = .ok (.new index, 3))
    (f1 : vwCl[x]? = some (C, T, N)) (f4 : ∀ w ∈ u_ws C T N, w ∈ Ts) (f5 : ∀ k, k < N → parseFieldDescriptor (T k).2.2.1 = some (tyf k)) (f7 : ∀ k, k < N → am_tk (ft x k) (tyf k) = true) (f8 : Cond.classLink own index C ∈ Ts) (f9 : Cond.instantiable C N ∈ Ts) (f10 : Cond.initialized C ∈ Ts)
    (hrc : h.1 + 1 - n0 ≤ R.cells) (hrs : h.2.1 + N - z0 ≤ R.slots) (k : am_G p l e R s m args below meth c Q D ca ft A n0 z0 ad0 nL (pc + 3, ls, vR h.1 :: st, am_mk h (10 + x) N (fun j => am_dv (ft x j)))) : am_G p l e R s m args below meth c Q D ca ft A n0 z0 ad0 nL (pc, ls, st, h) := by
  intro ad H locs LS h1 h2 h3 h4 h5 h6 h7 h8 h9 h10 h11
  have h4 : am_gd ft h := h4
  have h2 : n0 ≤ h.1 := h2
  have h3 : z0 ≤ h.2.1 := h3
  refine va_new (fs := (List.range N).map (fun j => am_cv ad (am_dv (ft x j)))) hx hb hts f4 tyf f5 hown (hts _ f8) (hts _ f9) (hts _ f10) hK h7 h8 h9 hA f1 (fun j hj => ?_) (show h.1 - n0 + 1 ≤ R.cells by omega) (show h.2.1 - z0 + N ≤ R.slots by omega) hdg (fun q H1 hP hD hS => ?_)
  · rw [(am_dv_ok (n := 0) (f7 j hj)).2 ad]
    unfold vp_V
    simp [hj]
  · refine am_new_go (us := []) (kd := 10 + x) (n := N) (f := fun j => am_dv (ft x j)) h1 h2 h3 h4 h5 h6 h10 h11 (Or.inr ⟨Nat.le_add_right _ _, fun i hi => ?_⟩) ?_ k hP hD hS
    · show am_vt _ (ft (10 + x - 10) i) (am_dv (ft x i))
      rw [Nat.add_sub_cancel_left]
      exact (am_dv_ok (f7 i hi)).1
    · rw [am_ce_obj (K := (10 + x, N, fun j => am_dv (ft x j))) rfl]
      refine congrArg (fun z => (Sum.inr (x, z) : va_E)) (List.map_congr_left fun j hj => ?_)
      have hj := List.mem_range.mp hj
      rw [← (am_dv_ok (n := 0) (f7 j hj)).2 ad, ← (am_dv_ok (n := 0) (f7 j hj)).2 (am_up ad h.1 q)]
theorem am_ca_eq {ty : FieldType} {k : Nat} {cA : ClassId} (hk : k < 3) (hty : am_ty k = ty) (hK : va_K D vwCl (am_tys ca) s) (h : va_RA s cA ty) : cA = ca k := by
  have h2 := (hK.2 k _ (am_tys_at ca (k := k) (by omega))).2
  rw [hty] at h2
  subst hty
  rcases (show k = 0 ∨ k = 1 ∨ k = 2 by omega) with rfl | rfl | rfl <;> exact Option.some.inj (Eq.trans (Eq.symm h) h2)
theorem sm_newa {Ts : List Cond} {pc kd : Nat} {n : Int} {at9 : ArrayType} {ls st : List am_V} {h : am_H} (hx : p.tables.exec = Jvm.exec) (hb : c.code = cc) (hts : ∀ w ∈ Ts, w.before args s = true) (hK : va_K D vwCl (am_tys ca) s) (hA : ∀ q, s.heap.size ≤ q → A q) (hdg : decode cc pc = .ok (.newarray at9, 2))
    (hkd : kd < 3) (hty : newarray.typeOf at9 = am_ty kd) (f8 : Cond.arrayClass (newarray.typeOf at9) ∈ Ts) (hn0 : 0 ≤ n) (hn : n ≤ 1024)
    (hrc : h.1 + 1 - n0 ≤ R.cells) (hrs : h.2.1 + n.toNat - z0 ≤ R.slots) (k : am_G p l e R s m args below meth c Q D ca ft A n0 z0 ad0 nL (pc + 2, ls, vR h.1 :: st, am_mk h kd n.toNat (fun _ => am_dv kd))) : am_G p l e R s m args below meth c Q D ca ft A n0 z0 ad0 nL (pc, ls, vI n :: st, h) := by
  intro ad H locs LS h1 h2 h3 h4 h5 h6 h7 h8 h9 h10 h11
  have h4 : am_gd ft h := h4
  have h2 : n0 ≤ h.1 := h2
  have h3 : z0 ≤ h.2.1 := h3
  have hr : am_r32 n := h5 (vI n) (by simp)
  have hneg : ¬ Int32.ofInt n < 0 := fun q => by
    have := (am_o_lt hr am_0r).mp q
    omega
  have hN : (Int32.ofInt n).toNatClampNeg = n.toNat := by
    show (Int32.ofInt n).toInt.toNat = n.toNat
    rw [am_tI hr]
  have hck : am_ckd ft (h.1 + 1) (kd, n.toNat, fun _ => am_dv kd) := Or.inl ⟨show kd < 7 by omega, show n.toNat ≤ 1024 by omega, fun i => by
    rcases (show kd = 0 ∨ kd = 1 ∨ kd = 2 by omega) with rfl | rfl | rfl
    · exact ⟨am_0r, rfl⟩
    · exact ⟨am_0r, rfl⟩
    · exact ⟨am_0l, rfl⟩⟩
  rcases (show kd = 0 ∨ kd = 1 ∨ kd = 2 by omega) with rfl | rfl | rfl
  · refine va_newa (a0 := (n.toNat, .inl (fun _ => 0))) hx hb (hts _ f8) hty hK h7 h8 h9 hA (fun _ => rfl) hneg hN (by show n.toNat * 4 ≤ 536870912; omega) (show h.1 - n0 + 1 ≤ R.cells by omega) (show h.2.1 - z0 + n.toNat ≤ R.slots by omega) hdg (fun q cA H1 hK1 hP hD hS => ?_)
    have e := am_ca_eq (k := 0) (cA := cA) (by omega) rfl hK (hK1.2 7 _ rfl).2
    subst e
    exact am_new_go (us := [vI n]) h1 h2 h3 h4 h5 h6 h10 h11 hck (am_ce_i (K := (0, n.toNat, fun _ => vI 0)) rfl (by omega)) k hP hD hS
  · refine va_newa (a0 := (n.toNat, .inl (fun _ => 0))) hx hb (hts _ f8) hty hK h7 h8 h9 hA (fun _ => rfl) hneg hN (by show n.toNat * 1 ≤ 536870912; omega) (show h.1 - n0 + 1 ≤ R.cells by omega) (show h.2.1 - z0 + n.toNat ≤ R.slots by omega) hdg (fun q cA H1 hK1 hP hD hS => ?_)
    have e := am_ca_eq (k := 1) (cA := cA) (by omega) rfl hK (hK1.2 7 _ rfl).2
    subst e
    exact am_new_go (us := [vI n]) h1 h2 h3 h4 h5 h6 h10 h11 hck (am_ce_i (K := (1, n.toNat, fun _ => vI 0)) rfl (by omega)) k hP hD hS
  · refine va_newa (a0 := (n.toNat, .inr (.inl (fun _ => 0)))) hx hb (hts _ f8) hty hK h7 h8 h9 hA (fun _ => rfl) hneg hN (by show n.toNat * 8 ≤ 536870912; omega) (show h.1 - n0 + 1 ≤ R.cells by omega) (show h.2.1 - z0 + n.toNat ≤ R.slots by omega) hdg (fun q cA H1 hK1 hP hD hS => ?_)
    have e := am_ca_eq (k := 2) (cA := cA) (by omega) rfl hK (hK1.2 7 _ rfl).2
    subst e
    exact am_new_go (us := [vI n]) h1 h2 h3 h4 h5 h6 h10 h11 hck (am_ce_l (K := (2, n.toNat, fun _ => vL 0)) rfl) k hP hD hS
theorem sm_newq {own C : String} {Ts : List Cond} {pc index kd : Nat} {n : Int} {ls st : List am_V} {h : am_H} (hx : p.tables.exec = Jvm.exec) (hb : c.code = cc) (hown : s.vm.findClass own = some m.cls) (hts : ∀ w ∈ Ts, w.before args s = true) (hK : va_K D vwCl (am_tys ca) s) (hA : ∀ q, s.heap.size ≤ q → A q) (hdg : decode cc pc = .ok (.anewarray index, 3))
    (hkd : 4 ≤ kd) (hk7 : kd < 7) (hty : am_ty kd = .object C) (f8 : Cond.classLink own index C ∈ Ts) (f9 : va_AO C s) (hn0 : 0 ≤ n) (hn : n ≤ 1024)
    (hrc : h.1 + 1 - n0 ≤ R.cells) (hrs : h.2.1 + n.toNat - z0 ≤ R.slots) (k : am_G p l e R s m args below meth c Q D ca ft A n0 z0 ad0 nL (pc + 3, ls, vR h.1 :: st, am_mk h kd n.toNat (fun _ => am_dv kd))) : am_G p l e R s m args below meth c Q D ca ft A n0 z0 ad0 nL (pc, ls, vI n :: st, h) := by
  intro ad H locs LS h1 h2 h3 h4 h5 h6 h7 h8 h9 h10 h11
  have h4 : am_gd ft h := h4
  have h2 : n0 ≤ h.1 := h2
  have h3 : z0 ≤ h.2.1 := h3
  have hr : am_r32 n := h5 (vI n) (by simp)
  have hneg : ¬ Int32.ofInt n < 0 := fun q => by
    have := (am_o_lt hr am_0r).mp q
    omega
  have hN : (Int32.ofInt n).toNatClampNeg = n.toNat := by
    show (Int32.ofInt n).toInt.toNat = n.toNat
    rw [am_tI hr]
  have hdv : am_dv kd = vN := by
    rcases (show kd = 4 ∨ kd = 5 ∨ kd = 6 by omega) with rfl | rfl | rfl <;> rfl
  refine va_newq hx hb hown (hts _ f8) f9 hK h7 h8 h9 hA hneg hN (by omega) (show h.1 - n0 + 1 ≤ R.cells by omega) (show h.2.1 - z0 + n.toNat ≤ R.slots by omega) hdg (fun q cA H1 hK1 hP hD hS => ?_)
  have e : cA = ca kd := by
    have g1 := (hK1.2 7 (cA, .object C) rfl).2
    have g2 := (hK.2 kd _ (am_tys_at ca hk7)).2
    rw [hty] at g2
    obtain ⟨_, _, _, _, _, g3⟩ := g1
    obtain ⟨_, _, _, _, _, g4⟩ := g2
    exact Option.some.inj (g3.symm.trans g4)
  subst e
  refine am_new_go (us := [vI n]) h1 h2 h3 h4 h5 h6 h10 h11 (Or.inl ⟨hk7, show n.toNat ≤ 1024 by omega, fun i => ?_⟩) ?_ k hP hD hS
  · show am_vt _ (am_ek kd) (am_dv kd)
    rw [am_ek_q (by omega), hdv]
    exact ⟨trivial, rfl⟩
  · rw [am_ce_q (K := (kd, n.toNat, fun _ => am_dv kd)) (by show 3 ≤ kd; omega) hk7, hdv]
    rfl
theorem am_cpy_i {f g : Nat → am_V} {sp dp n : Nat} : (fun j => am_toI (am_cpy f g sp dp n j)) = va_cpy (fun j => am_toI (f j)) (fun j => am_toI (g j)) sp dp n := by
  funext j
  unfold am_cpy va_cpy
  split <;> rfl
theorem am_cpy_l {f g : Nat → am_V} {sp dp n : Nat} : (fun j => am_toL (am_cpy f g sp dp n j)) = va_cpy (fun j => am_toL (f j)) (fun j => am_toL (g j)) sp dp n := by
  funext j
  unfold am_cpy va_cpy
  split <;> rfl
theorem sm_copy {own : String} {Ts : List Cond} {pc index a b : Nat} {n sp dp : Int} {ls : List am_V} {h : am_H} (hx : p.tables.exec = Jvm.exec) (hb : c.code = cc) (hml : c.maxLocals = nL) (hown : s.vm.findClass own = some m.cls) (hts : ∀ w ∈ Ts, w.before args s = true) (hK : va_K D vwCl (am_tys ca) s) (hdg : decode cc pc = .ok (.invokestatic index, 3))
    (f1 : Cond.methodLink own index arraycopyName ∈ Ts) (f2 : Cond.native arraycopyName ∈ Ts) (f3 : Cond.static arraycopyName ∈ Ts) (f4 : Cond.initialized "java/lang/System" ∈ Ts) (hfr : 1 ≤ R.frames) (hlo : nativeFrameWords "java/lang/System" "arraycopy" 5 + 11 ≤ R.locals)
    (ha : a < h.1) (hb2 : b < h.1) (hab : (h.2.2 a).1 = (h.2.2 b).1) (hk : (h.2.2 a).1 = 0 ∨ (h.2.2 a).1 = 2) (hn : 0 ≤ n) (hs0 : 0 ≤ sp) (hd0 : 0 ≤ dp) (h1a : sp + n ≤ ((h.2.2 a).2.1 : Int)) (h1b : dp + n ≤ ((h.2.2 b).2.1 : Int))
    (k : am_G p l e R s m args below meth c Q D ca ft A n0 z0 ad0 nL (pc + 3, ls, [], (h.1, h.2.1, am_up h.2.2 b ((h.2.2 b).1, (h.2.2 b).2.1, am_cpy (h.2.2 a).2.2 (h.2.2 b).2.2 sp.toNat dp.toNat n.toNat)))) : am_G p l e R s m args below meth c Q D ca ft A n0 z0 ad0 nL (pc, ls, [vI n, vI dp, vR b, vI sp, vR a], h) := by
  intro ad H locs LS h1 h2 h3 h4 h5 h6 h7 h8 h9 h10 h11
  have h4 : am_gd ft h := h4
  have hrn : am_r32 n := h5 (vI n) (by simp)
  have hrd : am_r32 dp := h5 (vI dp) (by simp)
  have hrs : am_r32 sp := h5 (vI sp) (by simp)
  have neg : ∀ z : Int, am_r32 z → 0 ≤ z → ¬ Int32.ofInt z < 0 := fun z hz h0 q => by
    have := (am_o_lt hz am_0r).mp q
    omega
  have cl : ∀ z : Int, am_r32 z → (Int32.ofInt z).toNatClampNeg = z.toNat := fun z hz => by
    show (Int32.ofInt z).toInt.toNat = z.toNat
    rw [am_tI hz]
  have hc : am_gd ft (h.1, h.2.1, am_up h.2.2 b ((h.2.2 b).1, (h.2.2 b).2.1, am_cpy (h.2.2 a).2.2 (h.2.2 b).2.2 sp.toNat dp.toNat n.toNat)) := by
    intro j hj
    show am_ckd ft h.1 (am_up h.2.2 b _ j)
    unfold am_up
    by_cases e : j = b
    · rw [if_pos e]
      have ga := am_gd_arr h4 ha (by omega)
      rcases h4 b hb2 with q | q
      · refine Or.inl ⟨q.1, q.2.1, fun i => ?_⟩
        show am_vt h.1 (am_ek (h.2.2 b).1) (am_cpy _ _ _ _ _ i)
        unfold am_cpy
        split
        · rw [← hab]
          exact ga _
        · exact q.2.2 i
      · omega
    · rw [if_neg e]
      exact h4 j hj
  have fin : ∀ (H1 : Heap) (locs1 : List Loc) (e1 : va_E), am_ce ad ca ((h.2.2 b).1, (h.2.2 b).2.1, am_cpy (h.2.2 a).2.2 (h.2.2 b).2.2 sp.toNat dp.toNat n.toNat) = e1 → va_P D vwCl ((am_ws ad ca h).set b (ad b, e1)) H1 → va_D A ((am_ws ad ca h).set b (ad b, e1)) → va_S A s.heap H1 locs1 → W p l e R s m args below meth c H1 locs1 (h.1 - n0) (h.2.1 - z0) Q (F0 m (pc + 3) LS []) := fun H1 locs1 e1 he hP hD hS => by
    rw [← am_ws_set hb2 he] at hP hD
    exact k ad H1 locs1 LS h1 h2 h3 hc (fun w hw => by simp at hw) h6 hP hD hS h10 h11
  have hml2 : c.maxLocals = LS.size := hml.trans (h11.symm.trans h10.1.symm)
  rcases hk with hk | hk
  · have hkb : (h.2.2 b).1 = 0 := by omega
    have fi : ∀ i, i < (Int32.ofInt n).toNatClampNeg → fits .int (.int ((fun j => am_toI ((h.2.2 a).2.2 j)) ((Int32.ofInt sp).toNatClampNeg + i))) = true := fun i _ => rfl
    refine va_copyi (ty := .int) (rest := []) hx hb hml2 hown (hts _ f1) (hts _ f2) (hts _ f3) (hts _ f4) hK h7 h8 h9 a b 0 0 ((am_ws_at ha).trans (by rw [am_ce_i hk (by omega)])) ((am_ws_at hb2).trans (by rw [am_ce_i hkb (by omega)])) rfl rfl rfl (neg sp hrs hs0) (neg dp hrd hd0) (neg n hrn hn) (by rw [cl _ hrs, cl _ hrn]; omega) (by rw [cl _ hrd, cl _ hrn]; omega) fi hfr (by simpa using hlo) hdg (fun H1 locs1 hP hD hS => ?_)
    rw [cl _ hrs, cl _ hrd, cl _ hrn] at hP hD
    exact fin H1 locs1 _ (by rw [am_ce_i (K := ((h.2.2 b).1, (h.2.2 b).2.1, am_cpy (h.2.2 a).2.2 (h.2.2 b).2.2 sp.toNat dp.toNat n.toNat)) hkb (by omega)]; exact congrArg (fun z => (Sum.inl (ca 0, (h.2.2 b).2.1, .inl z) : va_E)) am_cpy_i) hP hD hS
  · have hkb : (h.2.2 b).1 = 2 := by omega
    have fi : ∀ i, i < (Int32.ofInt n).toNatClampNeg → fits .long (.long ((fun j => am_toL ((h.2.2 a).2.2 j)) ((Int32.ofInt sp).toNatClampNeg + i))) = true := fun i _ => rfl
    refine va_copyl (ty := .long) (rest := []) hx hb hml2 hown (hts _ f1) (hts _ f2) (hts _ f3) (hts _ f4) hK h7 h8 h9 a b 2 2 ((am_ws_at ha).trans (by rw [am_ce_l hk])) ((am_ws_at hb2).trans (by rw [am_ce_l hkb])) rfl rfl rfl (neg sp hrs hs0) (neg dp hrd hd0) (neg n hrn hn) (by rw [cl _ hrs, cl _ hrn]; omega) (by rw [cl _ hrd, cl _ hrn]; omega) fi hfr (by simpa using hlo) hdg (fun H1 locs1 hP hD hS => ?_)
    rw [cl _ hrs, cl _ hrd, cl _ hrn] at hP hD
    exact fin H1 locs1 _ (by rw [am_ce_l (K := ((h.2.2 b).1, (h.2.2 b).2.1, am_cpy (h.2.2 a).2.2 (h.2.2 b).2.2 sp.toNat dp.toNat n.toNat)) hkb]; exact congrArg (fun z => (Sum.inl (ca 2, (h.2.2 b).2.1, .inr (.inl z)) : va_E)) am_cpy_l) hP hD hS
theorem sm_obj {own : String} {Ts : List Cond} {pc index a : Nat} {ls : List am_V} {h : am_H} (hx : p.tables.exec = Jvm.exec) (hb : c.code = cc) (hml : c.maxLocals = nL) (hown : s.vm.findClass own = some m.cls) (hts : ∀ w ∈ Ts, w.before args s = true) (hdg : decode cc pc = .ok (.invokespecial index, 3)) (f1 : Cond.methodLink own index Lib.objectInit ∈ Ts) (f2 : Cond.instanceMethod Lib.objectInit ∈ Ts) (f3 : Cond.code Lib.objectInit ⟨#[0xb1]⟩ 1 none ∈ Ts) (hfr : 1 ≤ R.frames) (hlo : 12 ≤ R.locals)
    (k : am_G p l e R s m args below meth c Q D ca ft A n0 z0 ad0 nL (pc + 3, ls, [], h)) : am_G p l e R s m args below meth c Q D ca ft A n0 z0 ad0 nL (pc, ls, [vR a], h) := by
  intro ad H locs LS h1 h2 h3 h4 h5 h6 h7 h8 h9 h10 h11
  have h4 : am_gd ft h := h4
  exact W.objInit hx hb hown (hts _ f1) (hts _ f2) (hts _ f3) rfl (h10.1.trans (h11.trans hml.symm)) rfl hdg hfr (by show 2 * 0 + 0 + 12 ≤ R.locals; omega) (k ad H locs LS h1 h2 h3 h4 (fun w hw => by simp at hw) h6 h7 h8 h9 h10 h11)
end SM
/-! new int[n][k]. -/
section SM
variable {p : Program} {l : Launch} {e : Env} {R : Room} {s : State} {m : MethodId} {args : Array Value} {below : List Frame} {meth : Method} {c : Code} {Q : State → Prop} {D : va_G} {ca : Nat → ClassId} {ft : am_ft} {A : Nat → Prop} {n0 z0 : Nat} {ad0 : Nat → Nat} {nL : Nat} {cc : ByteArray}
def am_ga (ad : Nat → Nat) (b n q : Nat) (r : Nat → Nat) : Nat → Nat := fun j => if j = b then q else if b < j ∧ j < b + 1 + n then r (j - b - 1) else ad j
theorem am_ga_lt {ad : Nat → Nat} {b n q : Nat} {r : Nat → Nat} : ∀ k, k < b → am_ga ad b n q r k = ad k := fun k hk => by
  unfold am_ga
  rw [if_neg (by omega), if_neg (by omega)]
theorem am_ga_b {ad : Nat → Nat} {b n q : Nat} {r : Nat → Nat} : am_ga ad b n q r b = q := by
  unfold am_ga
  rw [if_pos rfl]
theorem am_ga_r {ad : Nat → Nat} {b n q i : Nat} {r : Nat → Nat} (hi : i < n) : am_ga ad b n q r (b + 1 + i) = r i := by
  unfold am_ga
  rw [if_neg (by omega), if_pos (by omega)]
  congr 1
  omega
theorem am_ws_grid {ad : Nat → Nat} {h : am_H} {n k q : Nat} {r : Nat → Nat} {f : Nat → va_E} (hg : am_gd ft h) : am_ws (am_ga ad h.1 n q r) ca (am_grid h n k) = (am_ws ad ca h ++ [(q, .inl (ca 3, n, .inr (.inr (.inr (.inr (fun i => if i < n then some (r i) else none))))))]) ++ va_pl ([] ++ (List.range n).map r) (vr_up f ((List.range n).map r) (.inl (ca 0, k, .inl (fun _ => 0)))) := by
  have h1 : am_ws (am_ga ad h.1 n q r) ca h = am_ws ad ca h := am_ws_cg hg am_ga_lt
  rw [← h1]
  unfold am_ws va_pl
  show (List.range (h.1 + 1 + n)).map _ = _
  rw [List.range_add, List.range_succ, List.map_append, List.map_append, List.nil_append]
  congr 1
  · congr 1
    · refine List.map_congr_left fun j hj => ?_
      have hj := List.mem_range.mp hj
      unfold am_grid
      simp only []
      rw [if_neg (by omega), if_neg (by omega)]
    · rw [List.map_singleton, am_ga_b]
      congr 2
      unfold am_grid
      simp only [if_pos]
      rw [am_ce_q (by show 3 ≤ 3; omega) (by show 3 < 7; omega)]
      refine congrArg (fun z => (Sum.inl (ca 3, n, .inr (.inr (.inr (.inr z)))) : va_E)) (funext fun i => ?_)
      show am_toR _ (if i < n then vR (h.1 + 1 + i) else vN) = _
      by_cases hi : i < n
      · rw [if_pos hi, if_pos hi]
        exact congrArg some (am_ga_r hi)
      · rw [if_neg hi, if_neg hi]
        rfl
  · rw [List.map_map, List.map_map]
    refine List.map_congr_left fun i hi => ?_
    have hi := List.mem_range.mp hi
    show (am_ga ad h.1 n q r (h.1 + 1 + i), am_ce _ ca ((am_grid h n k).2.2 (h.1 + 1 + i))) = (r i, vr_up f _ _ (r i))
    rw [am_ga_r hi, vr_up_in (List.mem_map.mpr ⟨i, List.mem_range.mpr hi, rfl⟩)]
    congr 1
    unfold am_grid
    simp only []
    rw [if_neg (by omega), if_pos (by omega)]
    exact am_ce_i (K := (0, k, fun _ => vI 0)) rfl (by omega)
theorem sm_mna {own : String} {Ts : List Cond} {pc index : Nat} {n k : Int} {ls st : List am_V} {h : am_H} (hx : p.tables.exec = Jvm.exec) (hb : c.code = cc) (hown : s.vm.findClass own = some m.cls) (hts : ∀ w ∈ Ts, w.before args s = true) (hK : va_K D vwCl (am_tys ca) s) (hA : ∀ q, s.heap.size ≤ q → A q) (hdg : decode cc pc = .ok (.multianewarray index 2, 4))
    (f8 : Cond.classLink own index ("[" ++ (FieldType.array .int).toString) ∈ Ts) (f9 : va_AOA .int s) (f10 : Cond.arrayClass .int ∈ Ts) (hn0 : 0 ≤ n) (hn : n ≤ 1024) (hk0 : 0 ≤ k) (hk : k ≤ 1024)
    (hrc : h.1 + 1 + n.toNat - n0 ≤ R.cells) (hrs : h.2.1 + n.toNat + n.toNat * k.toNat - z0 ≤ R.slots) (kk : am_G p l e R s m args below meth c Q D ca ft A n0 z0 ad0 nL (pc + 4, ls, vR h.1 :: st, am_grid h n.toNat k.toNat)) : am_G p l e R s m args below meth c Q D ca ft A n0 z0 ad0 nL (pc, ls, vI k :: vI n :: st, h) := by
  intro ad H locs LS h1 h2 h3 h4 h5 h6 h7 h8 h9 h10 h11
  have h4 : am_gd ft h := h4
  have h2 : n0 ≤ h.1 := h2
  have h3 : z0 ≤ h.2.1 := h3
  have hrn : am_r32 n := h5 (vI n) (by simp)
  have hrk : am_r32 k := h5 (vI k) (by simp)
  have neg : ∀ z : Int, am_r32 z → 0 ≤ z → ¬ Int32.ofInt z < 0 := fun z hz h0 q => by
    have := (am_o_lt hz am_0r).mp q
    omega
  have cl : ∀ z : Int, am_r32 z → (Int32.ofInt z).toNatClampNeg = z.toNat := fun z hz => by
    show (Int32.ofInt z).toInt.toNat = z.toNat
    rw [am_tI hz]
  have hcy : s.vm.findClass (FieldType.array .int).toString = some (ca 0) := (hK.2 0 _ (am_tys_at ca (k := 0) (by omega))).2
  have e0 : ∀ f : Nat → va_E, am_ws ad ca h ++ va_pl [] f = am_ws ad ca h := fun f => by simp [va_pl]
  have hs5 : ∀ w ∈ st, am_vk h.1 w := fun w hw => h5 w (by simp [hw])
  refine va_mna (X := am_ws ad ca h) (L := []) (f := fun _ => .inl (ca 0, 0, .inl (fun _ => 0))) (ty := .int) (cy := ca 0) (z := (k.toNat, .inl (fun _ => 0))) hx hb hown (hts _ f8) f9 (hts _ f10) hcy hK (by rw [e0]; exact h7) (by rw [e0]; exact h8) h9 hA (neg n hrn hn0) (neg k hrk hk0) (cl n hrn) (cl k hrk) (by omega) (by show k.toNat * 4 ≤ 536870912; omega) (by omega) rfl rfl (show h.1 - n0 + (1 + n.toNat) ≤ R.cells by omega) (show h.2.1 - z0 + (n.toNat + n.toNat * k.toNat) ≤ R.slots by omega) (fun c9 => ?_) hdg (fun q r cA H1 hr1 hr2 hK1 hP hD hS => ?_)
  · rw [vp_cell_i, ← arrV_new]
    rfl
  · have e : cA = ca 3 := by
      have g1 := (hK1.2 7 (cA, .array .int) rfl).2
      have g2 := (hK.2 3 _ (am_tys_at ca (k := 3) (by omega))).2
      exact Option.some.inj (Eq.trans (Eq.symm g1) g2)
    subst e
    rw [← am_ws_grid (ft := ft) (ad := ad) h4] at hP hD
    have K := kk (am_ga ad h.1 n.toNat q r) H1 locs LS (fun j hj => (am_ga_lt j (by omega)).trans (h1 j hj)) (show n0 ≤ h.1 + 1 + n.toNat by omega) (show z0 ≤ h.2.1 + n.toNat + n.toNat * k.toNat by omega) (fun j hj => by
        have hj : j < h.1 + 1 + n.toNat := hj
        show am_ckd ft (h.1 + 1 + n.toNat) ((am_grid h n.toNat k.toNat).2.2 j)
        unfold am_grid
        simp only []
        by_cases e9 : j = h.1
        · rw [if_pos e9]
          refine Or.inl ⟨show 3 < 7 by omega, show n.toNat ≤ 1024 by omega, fun i => ?_⟩
          show am_vt _ 3 (if i < n.toNat then vR (h.1 + 1 + i) else vN)
          by_cases hi : i < n.toNat
          · rw [if_pos hi]
            exact ⟨show h.1 + 1 + i < _ by omega, rfl⟩
          · rw [if_neg hi]
            exact ⟨trivial, rfl⟩
        · rw [if_neg e9]
          by_cases e8 : h.1 < j ∧ j < h.1 + 1 + n.toNat
          · rw [if_pos e8]
            exact Or.inl ⟨show 0 < 7 by omega, show k.toNat ≤ 1024 by omega, fun i => ⟨am_0r, rfl⟩⟩
          · rw [if_neg e8]
            exact (h4 j (by omega)).mono (by omega))
      (fun w hw => (List.mem_cons.mp hw).elim (fun z => by rw [z]; show h.1 < h.1 + 1 + n.toNat; omega) (fun z => (hs5 w z).mono (show h.1 ≤ h.1 + 1 + n.toNat by omega)))
      (fun w hw => (h6 w hw).elim Or.inl (fun z => Or.inr (z.mono (show h.1 ≤ h.1 + 1 + n.toNat by omega)))) hP hD hS (h10.cg am_ga_lt h6) h11
    have e2 : (vR h.1 :: st).map (am_cv (am_ga ad h.1 n.toNat q r)) = .ref q :: st.map (am_cv ad) := by
      rw [List.map_cons, am_st_cg am_ga_lt hs5]
      show Value.ref (am_ga ad h.1 n.toNat q r h.1) :: _ = _
      rw [am_ga_b]
    exact W.cs (show h.1 - n0 + 1 + n.toNat = h.1 + 1 + n.toNat - n0 by omega) (show h.2.1 - z0 + n.toNat + n.toNat * k.toNat = h.2.1 + n.toNat + n.toNat * k.toNat - z0 by omega) (by rw [← e2]; exact K)
end SM
abbrev am_nx (t : am_S) : (am_S ⊕ ((Nat × List am_V × am_S) ⊕ (Option am_V × am_H))) := .inl t
theorem iv_load {k i len x y pc : Nat} {ls st : List am_V} {h : am_H} {r} (e : am_load k i len x y (pc, ls, st, h) = some r) : ∃ v, ls[i]? = some v ∧ am_is k v = true ∧ r = am_nx (pc + len, ls, v :: st, h) := by
  unfold am_load at e
  split at e
  · rename_i v hv
    split at e
    · rename_i hk
      exact ⟨v, hv, hk, (Option.some.inj e).symm⟩
    · cases e
  · cases e
theorem iv_stor {k i len x y pc : Nat} {ls st : List am_V} {h : am_H} {r} (e : am_stor k i len x y (pc, ls, st, h) = some r) : ∃ v st2, st = v :: st2 ∧ am_is k v = true ∧ i < ls.length ∧ r = am_nx (pc + len, (am_cl ls i).set i v, st2, h) := by
  unfold am_stor at e
  split at e
  · rename_i v st2 hst
    split at e
    · rename_i hk
      simp only [Bool.and_eq_true, decide_eq_true_eq] at hk
      exact ⟨v, st2, hst, hk.1, hk.2, (Option.some.inj e).symm⟩
    · cases e
  · cases e
theorem iv_storl {i len x y pc : Nat} {ls st : List am_V} {h : am_H} {r} (e : am_storl i len x y (pc, ls, st, h) = some r) : ∃ z st2, st = vL z :: st2 ∧ i + 1 < ls.length ∧ r = am_nx (pc + len, ((am_cl ls i).set i (vL z)).set (i + 1) vU, st2, h) := by
  unfold am_storl at e
  split at e
  · rename_i z st2 hst
    split at e
    · rename_i hk
      exact ⟨z, st2, hst, hk, (Option.some.inj e).symm⟩
    · cases e
  · cases e
theorem iv_iinc {i len x y pc : Nat} {n : Int} {ls st : List am_V} {h : am_H} {r} (e : am_iinc i n len x y (pc, ls, st, h) = some r) : ∃ z, ls[i]? = some (vI z) ∧ r = am_nx (pc + len, (am_cl ls i).set i (vI (am_w (z + n))), st, h) := by
  unfold am_iinc at e
  split at e
  · rename_i z hz
    exact ⟨z, hz, (Option.some.inj e).symm⟩
  · cases e
theorem iv_bin {f : Int → Int → Option Int} {len x y pc : Nat} {ls st : List am_V} {h : am_H} {r} (e : am_bin f len x y (pc, ls, st, h) = some r) : ∃ a b z st2, st = vI b :: vI a :: st2 ∧ f a b = some z ∧ r = am_nx (pc + len, ls, vI z :: st2, h) := by
  unfold am_bin at e
  split at e
  · rename_i b a st2 hst
    obtain ⟨z, hz, e2⟩ := Option.map_eq_some_iff.mp e
    exact ⟨a, b, z, st2, hst, hz, e2.symm⟩
  · cases e
theorem iv_binl {f : Int → Int → Option Int} {len x y pc : Nat} {ls st : List am_V} {h : am_H} {r} (e : am_binl f len x y (pc, ls, st, h) = some r) : ∃ a b z st2, st = vL b :: vL a :: st2 ∧ f a b = some z ∧ r = am_nx (pc + len, ls, vL z :: st2, h) := by
  unfold am_binl at e
  split at e
  · rename_i b a st2 hst
    obtain ⟨z, hz, e2⟩ := Option.map_eq_some_iff.mp e
    exact ⟨a, b, z, st2, hst, hz, e2.symm⟩
  · cases e
theorem iv_shl {f : Int → Int → Option Int} {len x y pc : Nat} {ls st : List am_V} {h : am_H} {r} (e : am_shl f len x y (pc, ls, st, h) = some r) : ∃ a b z st2, st = vI b :: vL a :: st2 ∧ f a b = some z ∧ r = am_nx (pc + len, ls, vL z :: st2, h) := by
  unfold am_shl at e
  split at e
  · rename_i b a st2 hst
    obtain ⟨z, hz, e2⟩ := Option.map_eq_some_iff.mp e
    exact ⟨a, b, z, st2, hst, hz, e2.symm⟩
  · cases e
theorem iv_un {f : Int → Int} {len x y pc : Nat} {ls st : List am_V} {h : am_H} {r} (e : (am_un f) len x y (pc, ls, st, h) = some r) : ∃ a st2, st = vI a :: st2 ∧ r = am_nx (pc + len, ls, vI (f a) :: st2, h) := by
  unfold am_un at e
  split at e
  · rename_i a st2 hst
    exact ⟨a, st2, hst, (Option.some.inj e).symm⟩
  · cases e
theorem iv_unl {f : Int → Int} {len x y pc : Nat} {ls st : List am_V} {h : am_H} {r} (e : (am_unl f) len x y (pc, ls, st, h) = some r) : ∃ a st2, st = vL a :: st2 ∧ r = am_nx (pc + len, ls, vL (f a) :: st2, h) := by
  unfold am_unl at e
  split at e
  · rename_i a st2 hst
    exact ⟨a, st2, hst, (Option.some.inj e).symm⟩
  · cases e
theorem iv_i2l {len x y pc : Nat} {ls st : List am_V} {h : am_H} {r} (e : am_i2l len x y (pc, ls, st, h) = some r) : ∃ a st2, st = vI a :: st2 ∧ r = am_nx (pc + len, ls, vL a :: st2, h) := by
  unfold am_i2l at e
  split at e
  · rename_i a st2 hst
    exact ⟨a, st2, hst, (Option.some.inj e).symm⟩
  · cases e
theorem iv_l2i {len x y pc : Nat} {ls st : List am_V} {h : am_H} {r} (e : am_l2i len x y (pc, ls, st, h) = some r) : ∃ a st2, st = vL a :: st2 ∧ r = am_nx (pc + len, ls, vI (am_w a) :: st2, h) := by
  unfold am_l2i at e
  split at e
  · rename_i a st2 hst
    exact ⟨a, st2, hst, (Option.some.inj e).symm⟩
  · cases e
theorem iv_lcmp {len x y pc : Nat} {ls st : List am_V} {h : am_H} {r} (e : am_lcmp len x y (pc, ls, st, h) = some r) : ∃ b a st2, st = vL b :: vL a :: st2 ∧ r = am_nx (pc + len, ls, vI (if a < b then -1 else if a = b then 0 else 1) :: st2, h) := by
  unfold am_lcmp at e
  split at e
  · rename_i b a st2 hst
    exact ⟨b, a, st2, hst, (Option.some.inj e).symm⟩
  · cases e
theorem iv_if {cnd : Jvm.ClassFile.Cond} {len x y pc : Nat} {ls st : List am_V} {h : am_H} {r} (e : (am_if cnd) len x y (pc, ls, st, h) = some r) : ∃ a st2, st = vI a :: st2 ∧ r = am_nx ((if am_cmp cnd a 0 then x else pc + len), ls, st2, h) := by
  unfold am_if at e
  split at e
  · rename_i a st2 hst
    exact ⟨a, st2, hst, (Option.some.inj e).symm⟩
  · cases e
theorem iv_icmp {cnd : Jvm.ClassFile.Cond} {len x y pc : Nat} {ls st : List am_V} {h : am_H} {r} (e : (am_icmp cnd) len x y (pc, ls, st, h) = some r) : ∃ b a st2, st = vI b :: vI a :: st2 ∧ r = am_nx ((if am_cmp cnd a b then x else pc + len), ls, st2, h) := by
  unfold am_icmp at e
  split at e
  · rename_i b a st2 hst
    exact ⟨b, a, st2, hst, (Option.some.inj e).symm⟩
  · cases e
theorem iv_dup {len x y pc : Nat} {ls st : List am_V} {h : am_H} {r} (e : am_dup len x y (pc, ls, st, h) = some r) : ∃ v st2, st = v :: st2 ∧ ((am_is 0 v || am_is 2 v) = true) ∧ r = am_nx (pc + len, ls, v :: v :: st2, h) := by
  unfold am_dup at e
  split at e
  · rename_i v st2 hst
    split at e
    · rename_i hk
      exact ⟨v, st2, hst, hk, (Option.some.inj e).symm⟩
    · cases e
  · cases e
theorem iv_dup2 {len x y pc : Nat} {ls st : List am_V} {h : am_H} {r} (e : am_dup2 len x y (pc, ls, st, h) = some r) : ∃ v w st2, st = v :: w :: st2 ∧ (((am_is 0 v || am_is 2 v) && (am_is 0 w || am_is 2 w)) = true) ∧ r = am_nx (pc + len, ls, v :: w :: v :: w :: st2, h) := by
  unfold am_dup2 at e
  split at e
  · rename_i v w st2 hst
    split at e
    · rename_i hk
      exact ⟨v, w, st2, hst, hk, (Option.some.inj e).symm⟩
    · cases e
  · cases e
theorem iv_pop {k : Nat} {len x y pc : Nat} {ls st : List am_V} {h : am_H} {r} (e : (am_pop k) len x y (pc, ls, st, h) = some r) : ∃ v st2, st = v :: st2 ∧ (am_is k v = true) ∧ r = am_nx (pc + len, ls, st2, h) := by
  unfold am_pop at e
  split at e
  · rename_i v st2 hst
    split at e
    · rename_i hk
      exact ⟨v, st2, hst, hk, (Option.some.inj e).symm⟩
    · cases e
  · cases e
theorem iv_gf {len x y pc : Nat} {ls st : List am_V} {h : am_H} {r} (e : am_gf len x y (pc, ls, st, h) = some r) : ∃ a st2, st = vR a :: st2 ∧ (a < h.1 ∧ (h.2.2 a).1 = 10 + x ∧ y < (h.2.2 a).2.1) ∧ r = am_nx (pc + len, ls, (h.2.2 a).2.2 y :: st2, h) := by
  unfold am_gf at e
  split at e
  · rename_i a st2 hst
    split at e
    · rename_i hk
      exact ⟨a, st2, hst, hk, (Option.some.inj e).symm⟩
    · cases e
  · cases e
theorem iv_pf {ft : am_ft} {len x y pc : Nat} {ls st : List am_V} {h : am_H} {r} (e : (am_pf ft) len x y (pc, ls, st, h) = some r) : ∃ v a st2, st = v :: vR a :: st2 ∧ (a < h.1 ∧ (h.2.2 a).1 = 10 + x ∧ y < (h.2.2 a).2.1 ∧ am_fok (ft x y) v = true) ∧ r = am_nx (pc + len, ls, st2, am_wr h a y v) := by
  unfold am_pf at e
  split at e
  · rename_i v a st2 hst
    split at e
    · rename_i hk
      exact ⟨v, a, st2, hst, hk, (Option.some.inj e).symm⟩
    · cases e
  · cases e
theorem iv_ald {ok : Nat → Bool} {len x y pc : Nat} {ls st : List am_V} {h : am_H} {r} (e : (am_ald ok) len x y (pc, ls, st, h) = some r) : ∃ i a st2, st = vI i :: vR a :: st2 ∧ (a < h.1 ∧ ok (h.2.2 a).1 = true ∧ 0 ≤ i ∧ i < ((h.2.2 a).2.1 : Int)) ∧ r = am_nx (pc + len, ls, (h.2.2 a).2.2 i.toNat :: st2, h) := by
  unfold am_ald at e
  split at e
  · rename_i i a st2 hst
    split at e
    · rename_i hk
      exact ⟨i, a, st2, hst, hk, (Option.some.inj e).symm⟩
    · cases e
  · cases e
theorem iv_ast {k vk : Nat} {len x y pc : Nat} {ls st : List am_V} {h : am_H} {r} (e : (am_ast k vk) len x y (pc, ls, st, h) = some r) : ∃ v i a st2, st = v :: vI i :: vR a :: st2 ∧ (a < h.1 ∧ (h.2.2 a).1 = k ∧ am_fok vk v = true ∧ 0 ≤ i ∧ i < ((h.2.2 a).2.1 : Int)) ∧ r = am_nx (pc + len, ls, st2, am_wr h a i.toNat v) := by
  unfold am_ast at e
  split at e
  · rename_i v i a st2 hst
    split at e
    · rename_i hk
      exact ⟨v, i, a, st2, hst, hk, (Option.some.inj e).symm⟩
    · cases e
  · cases e
theorem iv_aast {len x y pc : Nat} {ls st : List am_V} {h : am_H} {r} (e : am_aast len x y (pc, ls, st, h) = some r) : ∃ b i a st2, st = vR b :: vI i :: vR a :: st2 ∧ (a < h.1 ∧ b < h.1 ∧ 4 ≤ (h.2.2 a).1 ∧ (h.2.2 a).1 < 7 ∧ (h.2.2 b).1 = am_comp (h.2.2 a).1 ∧ 0 ≤ i ∧ i < ((h.2.2 a).2.1 : Int)) ∧ r = am_nx (pc + len, ls, st2, am_wr h a i.toNat (vR b)) := by
  unfold am_aast at e
  split at e
  · rename_i b i a st2 hst
    split at e
    · rename_i hk
      exact ⟨b, i, a, st2, hst, hk, (Option.some.inj e).symm⟩
    · cases e
  · cases e
theorem iv_len {len x y pc : Nat} {ls st : List am_V} {h : am_H} {r} (e : am_len len x y (pc, ls, st, h) = some r) : ∃ a st2, st = vR a :: st2 ∧ (a < h.1 ∧ (h.2.2 a).1 < 7) ∧ r = am_nx (pc + len, ls, vI ((h.2.2 a).2.1 : Int) :: st2, h) := by
  unfold am_len at e
  split at e
  · rename_i a st2 hst
    split at e
    · rename_i hk
      exact ⟨a, st2, hst, hk, (Option.some.inj e).symm⟩
    · cases e
  · cases e
theorem iv_newa {lo hi : Nat} {len x y pc : Nat} {ls st : List am_V} {h : am_H} {r} (e : (am_newa lo hi) len x y (pc, ls, st, h) = some r) : ∃ n st2, st = vI n :: st2 ∧ (0 ≤ n ∧ n ≤ 1024 ∧ lo ≤ x ∧ x ≤ hi) ∧ r = am_nx (pc + len, ls, vR h.1 :: st2, am_mk h x n.toNat (fun _ => am_dv x)) := by
  unfold am_newa at e
  split at e
  · rename_i n st2 hst
    split at e
    · rename_i hk
      exact ⟨n, st2, hst, hk, (Option.some.inj e).symm⟩
    · cases e
  · cases e
theorem iv_mna {len x y pc : Nat} {ls st : List am_V} {h : am_H} {r} (e : am_mna len x y (pc, ls, st, h) = some r) : ∃ k n st2, st = vI k :: vI n :: st2 ∧ (0 ≤ n ∧ n ≤ 1024 ∧ 0 ≤ k ∧ k ≤ 1024) ∧ r = am_nx (pc + len, ls, vR h.1 :: st2, am_grid h n.toNat k.toNat) := by
  unfold am_mna at e
  split at e
  · rename_i k n st2 hst
    split at e
    · rename_i hk
      exact ⟨k, n, st2, hst, hk, (Option.some.inj e).symm⟩
    · cases e
  · cases e
theorem iv_acopy {len x y pc : Nat} {ls st : List am_V} {h : am_H} {r} (e : am_acopy len x y (pc, ls, st, h) = some r) : ∃ n dp b sp a, st = [vI n, vI dp, vR b, vI sp, vR a] ∧ (a < h.1 ∧ b < h.1 ∧ (h.2.2 a).1 = (h.2.2 b).1 ∧ ((h.2.2 a).1 = 0 ∨ (h.2.2 a).1 = 2) ∧ 0 ≤ n ∧ 0 ≤ sp ∧ 0 ≤ dp ∧ sp + n ≤ ((h.2.2 a).2.1 : Int) ∧ dp + n ≤ ((h.2.2 b).2.1 : Int)) ∧ r = am_nx (pc + len, ls, [], (h.1, h.2.1, am_up h.2.2 b ((h.2.2 b).1, (h.2.2 b).2.1, am_cpy (h.2.2 a).2.2 (h.2.2 b).2.2 sp.toNat dp.toNat n.toNat))) := by
  unfold am_acopy at e
  split at e
  · rename_i n dp b sp a hst
    split at e
    · rename_i hk
      exact ⟨n, dp, b, sp, a, hst, hk, (Option.some.inj e).symm⟩
    · cases e
  · cases e
theorem iv_sw {d lo hi : Int} {offs : Array Int} {len x y pc : Nat} {ls st : List am_V} {h : am_H} {r} (e : am_sw d lo hi offs len x y (pc, ls, st, h) = some r) : ∃ a st2, st = vI a :: st2 ∧ (((a < lo ∨ hi < a) ∧ r = am_nx (((pc : Int) + d).toNat, ls, st2, h)) ∨ (¬ (a < lo ∨ hi < a) ∧ ∃ o, offs[(a - lo).toNat]? = some o ∧ r = am_nx (((pc : Int) + o).toNat, ls, st2, h))) := by
  unfold am_sw at e
  split at e
  · rename_i a st2 hst
    refine ⟨a, st2, hst, ?_⟩
    split at e
    · rename_i hk
      exact Or.inl ⟨hk, (Option.some.inj e).symm⟩
    · rename_i hk
      split at e
      · rename_i o ho
        exact Or.inr ⟨hk, o, ho, (Option.some.inj e).symm⟩
      · cases e
  · cases e
theorem iv_ret {len x y pc : Nat} {ls st : List am_V} {h : am_H} {r} (e : am_ret len x y (pc, ls, st, h) = some r) : ∃ v, st = [v] ∧ am_fok x v = true ∧ r = .inr (.inr (some v, h)) := by
  unfold am_ret at e
  split at e
  · rename_i v hst
    split at e
    · rename_i hk
      exact ⟨v, hst, hk, (Option.some.inj e).symm⟩
    · cases e
  · cases e
theorem iv_retv {len x y pc : Nat} {ls st : List am_V} {h : am_H} {r} (e : am_retv len x y (pc, ls, st, h) = some r) : st = [] ∧ r = .inr (.inr (none, h)) := by
  unfold am_retv at e
  split at e
  · rename_i hst
    exact ⟨hst, (Option.some.inj e).symm⟩
  · cases e
theorem iv_inv {len x y pc : Nat} {ls st : List am_V} {h : am_H} {r} (e : am_inv len x y (pc, ls, st, h) = some r) : (x = 900 ∧ ∃ a, st = [vR a] ∧ r = am_nx (pc + len, ls, [], h)) ∨ (x = 901 ∧ am_acopy len x y (pc, ls, st, h) = some r) ∨ (x ≠ 900 ∧ x ≠ 901 ∧ y ≤ st.length ∧ ((st.drop y).map am_cat).sum ≤ 8 ∧ am_rcv h x (st.take y).reverse = true ∧ r = .inr (.inl (x % 1000, (st.take y).reverse, pc + len, ls, st.drop y, h))) := by
  unfold am_inv at e
  split at e
  · rename_i hx
    refine Or.inl ⟨hx, ?_⟩
    split at e
    · rename_i a hst
      exact ⟨a, hst, (Option.some.inj e).symm⟩
    · cases e
  · rename_i hx
    split at e
    · rename_i hx2
      exact Or.inr (Or.inl ⟨hx2, e⟩)
    · rename_i hx2
      split at e
      · rename_i hk
        exact Or.inr (Or.inr ⟨hx, hx2, hk.1, hk.2.1, hk.2.2, (Option.some.inj e).symm⟩)
      · cases e
