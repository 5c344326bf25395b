/-! The small machine's cells and locals beside the machine's. -/
def am_toI (v : am_V) : Int32 := match v with
  | .inl (.inl x) => Int32.ofInt x
  | _ => 0
def am_toL (v : am_V) : Int64 := match v with
  | .inl (.inr x) => Int64.ofInt x
  | _ => 0
def am_toR (ad : Nat → Nat) (v : am_V) : Option Nat := match v with
  | .inr (some (some k)) => some (ad k)
  | _ => none
def am_cv (ad : Nat → Nat) (v : am_V) : Value := match v with
  | .inl (.inl x) => .int (Int32.ofInt x)
  | .inl (.inr x) => .long (Int64.ofInt x)
  | .inr (some (some k)) => .ref (ad k)
  | .inr _ => .null
def am_ce (ad : Nat → Nat) (ca : Nat → ClassId) (K : am_K) : va_E :=
  if K.1 < 2 then .inl (ca K.1, K.2.1, .inl (fun i => am_toI (K.2.2 i)))
  else if K.1 = 2 then .inl (ca 2, K.2.1, .inr (.inl (fun i => am_toL (K.2.2 i))))
  else if K.1 < 7 then .inl (ca K.1, K.2.1, .inr (.inr (.inr (.inr (fun i => am_toR ad (K.2.2 i))))))
  else .inr (K.1 - 10, (List.range K.2.1).map (fun y => am_cv ad (K.2.2 y)))
def am_ws (ad : Nat → Nat) (ca : Nat → ClassId) (h : am_H) : va_W := (List.range h.1).map (fun k => (ad k, am_ce ad ca (h.2.2 k)))
/-- a value: its number in range, its cell there -/
def am_vk (n : Nat) (v : am_V) : Prop := match v with
  | .inl (.inl x) => am_r32 x
  | .inl (.inr x) => am_r64 x
  | .inr (some (some k)) => k < n
  | .inr (some none) => True
  | .inr none => False
/-- a value of a kind: 0 int, 1 boolean, 2 long, 3 reference -/
def am_vt (n k : Nat) (v : am_V) : Prop := am_vk n v ∧ am_fok k v = true
def am_ek (kd : Nat) : Nat := match kd with
  | 0 => 0
  | 1 => 1
  | 2 => 2
  | _ => 3
def am_ckd (ft : am_ft) (n : Nat) (K : am_K) : Prop := (K.1 < 7 ∧ K.2.1 ≤ 1024 ∧ ∀ i, am_vt n (am_ek K.1) (K.2.2 i)) ∨ (10 ≤ K.1 ∧ ∀ i, i < K.2.1 → am_vt n (ft (K.1 - 10) i) (K.2.2 i))
def am_gd (ft : am_ft) (h : am_H) : Prop := ∀ k, k < h.1 → am_ckd ft h.1 (h.2.2 k)
theorem am_vk.mono {n m : Nat} {v : am_V} (h : am_vk n v) (hm : n ≤ m) : am_vk m v := by
  rcases v with (x | x) | _ | _ | k
  · exact h
  · exact h
  · exact h
  · exact h
  · exact Nat.lt_of_lt_of_le h hm
theorem am_vt.mono {n m k : Nat} {v : am_V} (h : am_vt n k v) (hm : n ≤ m) : am_vt m k v := ⟨h.1.mono hm, h.2⟩
theorem am_ckd.mono {ft : am_ft} {n m : Nat} {K : am_K} (h : am_ckd ft n K) (hm : n ≤ m) : am_ckd ft m K := by
  rcases h with h | h
  · exact Or.inl ⟨h.1, h.2.1, fun i => (h.2.2 i).mono hm⟩
  · exact Or.inr ⟨h.1, fun i hi => (h.2 i hi).mono hm⟩
theorem am_ws_at {ad : Nat → Nat} {ca : Nat → ClassId} {h : am_H} {k : Nat} (hk : k < h.1) : (am_ws ad ca h)[k]? = some (ad k, am_ce ad ca (h.2.2 k)) := by
  unfold am_ws
  rw [List.getElem?_map, List.getElem?_range hk]
  rfl
theorem am_ws_len {ad : Nat → Nat} {ca : Nat → ClassId} {h : am_H} : (am_ws ad ca h).length = h.1 := by
  unfold am_ws
  simp
/-- one cell changed -/
theorem am_ws_set {ad : Nat → Nat} {ca : Nat → ClassId} {h : am_H} {a : Nat} {K : am_K} {e : va_E} (ha : a < h.1) (he : am_ce ad ca K = e) : am_ws ad ca (h.1, h.2.1, am_up h.2.2 a K) = (am_ws ad ca h).set a (ad a, e) := by
  apply List.ext_getElem?
  intro i
  rw [List.getElem?_set]
  by_cases hi : i < h.1
  · have h1 := am_ws_at (ad := ad) (ca := ca) (h := (h.1, h.2.1, am_up h.2.2 a K)) (k := i) hi
    rw [h1]
    by_cases e1 : a = i
    · subst e1
      rw [if_pos rfl, if_pos (by rw [am_ws_len]; exact ha)]
      simp [am_up, he]
    · rw [if_neg e1, am_ws_at hi]
      simp [am_up, Ne.symm e1]
  · have h1 : (am_ws ad ca (h.1, h.2.1, am_up h.2.2 a K))[i]? = none := List.getElem?_eq_none (by rw [am_ws_len]; exact Nat.le_of_not_lt hi)
    rw [h1]
    by_cases e1 : a = i
    · subst e1
      exact absurd ha hi
    · rw [if_neg e1]
      exact (List.getElem?_eq_none (by rw [am_ws_len]; exact Nat.le_of_not_lt hi)).symm
theorem am_toR_cg {ad ad' : Nat → Nat} {n : Nat} (h : ∀ k, k < n → ad' k = ad k) {v : am_V} (hv : am_vk n v) : am_toR ad' v = am_toR ad v := by
  rcases v with (x | x) | _ | _ | k
  · rfl
  · rfl
  · rfl
  · rfl
  · exact congrArg some (h k hv)
theorem am_cv_cg {ad ad' : Nat → Nat} {n : Nat} (h : ∀ k, k < n → ad' k = ad k) {v : am_V} (hv : am_vk n v) : am_cv ad' v = am_cv ad v := by
  rcases v with (x | x) | _ | _ | k
  · rfl
  · rfl
  · rfl
  · rfl
  · exact congrArg Value.ref (h k hv)
theorem am_ce_cg {ft : am_ft} {ad ad' : Nat → Nat} {ca : Nat → ClassId} {n : Nat} (h : ∀ k, k < n → ad' k = ad k) {K : am_K} (hK : am_ckd ft n K) : am_ce ad' ca K = am_ce ad ca K := by
  unfold am_ce
  rcases hK with hK | hK
  · have e : (fun i => am_toR ad' (K.2.2 i)) = (fun i => am_toR ad (K.2.2 i)) := funext fun i => am_toR_cg h (hK.2.2 i).1
    rw [e]
    simp only [if_pos hK.1]
  · have e : (List.range K.2.1).map (fun y => am_cv ad' (K.2.2 y)) = (List.range K.2.1).map (fun y => am_cv ad (K.2.2 y)) := List.map_congr_left fun y hy => am_cv_cg h (hK.2 y (List.mem_range.mp hy)).1
    rw [e]
    have h1 : ¬ K.1 < 2 := by omega
    have h2 : ¬ K.1 = 2 := by omega
    have h3 : ¬ K.1 < 7 := by omega
    simp only [if_neg h1, if_neg h2, if_neg h3]
theorem am_ws_cg {ft : am_ft} {ad ad' : Nat → Nat} {ca : Nat → ClassId} {h : am_H} (hg : am_gd ft h) (hh : ∀ k, k < h.1 → ad' k = ad k) : am_ws ad' ca h = am_ws ad ca h := by
  unfold am_ws
  refine List.map_congr_left fun k hk => ?_
  rw [hh k (List.mem_range.mp hk), am_ce_cg hh (hg k (List.mem_range.mp hk))]
/-- one cell more -/
theorem am_ws_push {ft : am_ft} {ad : Nat → Nat} {ca : Nat → ClassId} {h : am_H} {q : Nat} {K : am_K} {z : Nat} (hg : am_gd ft h) : am_ws (am_up ad h.1 q) ca (h.1 + 1, z, am_up h.2.2 h.1 K) = am_ws ad ca h ++ [(q, am_ce (am_up ad h.1 q) ca K)] := by
  have h1 : am_ws (am_up ad h.1 q) ca h = am_ws ad ca h := am_ws_cg hg (fun k hk => by simp [am_up, Nat.ne_of_lt hk])
  rw [← h1]
  unfold am_ws
  show (List.range (h.1 + 1)).map _ = _
  rw [List.range_succ, List.map_append]
  congr 1
  · refine List.map_congr_left fun k hk => ?_
    have := List.mem_range.mp hk
    simp [am_up, Nat.ne_of_lt this]
  · simp [am_up]
-- locals
def am_ent (ad : Nat → Nat) (ls : List am_V) (i : Nat) : Option (Nat × Value) := match ls[i]? with
  | some (.inr none) => none
  | some v => some (i, am_cv ad v)
  | none => none
def am_lvl (ad : Nat → Nat) (ls : List am_V) : List (Nat × Value) := (List.range ls.length).filterMap (am_ent ad ls)
def am_LR (ad : Nat → Nat) (ls : List am_V) (LS : Array Slot) : Prop := lv_has LS ls.length (am_lvl ad ls)
theorem am_ent_some {ad : Nat → Nat} {ls : List am_V} {i : Nat} {v : am_V} (h : ls[i]? = some v) (hv : v ≠ vU) : am_ent ad ls i = some (i, am_cv ad v) := by
  unfold am_ent
  rw [h]
  rcases v with (x | x) | _ | _ | k
  · rfl
  · rfl
  · exact absurd rfl hv
  · rfl
  · rfl
theorem am_ent_inv {ad : Nat → Nat} {ls : List am_V} {i : Nat} {q : Nat × Value} (h : am_ent ad ls i = some q) : ∃ v, ls[i]? = some v ∧ v ≠ vU ∧ q = (i, am_cv ad v) := by
  unfold am_ent at h
  rcases hv : ls[i]? with _ | ((x | x) | _ | _ | k) <;> rw [hv] at h
  · cases h
  · exact ⟨_, rfl, (fun q => by cases q), (Option.some.inj h).symm⟩
  · exact ⟨_, rfl, (fun q => by cases q), (Option.some.inj h).symm⟩
  · cases h
  · exact ⟨_, rfl, (fun q => by cases q), (Option.some.inj h).symm⟩
  · exact ⟨_, rfl, (fun q => by cases q), (Option.some.inj h).symm⟩
theorem am_lvl_mem {ad : Nat → Nat} {ls : List am_V} {q : Nat × Value} : q ∈ am_lvl ad ls ↔ ∃ v, ls[q.1]? = some v ∧ v ≠ vU ∧ q.2 = am_cv ad v := by
  unfold am_lvl
  rw [List.mem_filterMap]
  constructor
  · rintro ⟨i, -, hi⟩
    obtain ⟨v, h1, h2, rfl⟩ := am_ent_inv hi
    exact ⟨v, h1, h2, rfl⟩
  · rintro ⟨v, h1, h2, h3⟩
    refine ⟨q.1, List.mem_range.mpr (List.getElem?_eq_some_iff.mp h1).1, ?_⟩
    rw [am_ent_some h1 h2, ← h3]
theorem am_LR.get {ad : Nat → Nat} {ls : List am_V} {LS : Array Slot} (h : am_LR ad ls LS) {i : Nat} {v : am_V} (hi : ls[i]? = some v) (hv : v ≠ vU) : LS[i]? = some (.val (am_cv ad v)) := h.2.2 (i, am_cv ad v) (am_lvl_mem.mpr ⟨v, hi, hv, rfl⟩)
theorem am_cl_len (ls : List am_V) (i : Nat) : (am_cl ls i).length = ls.length := by
  unfold am_cl
  split
  · rfl
  · split
    · exact List.length_set
    · rfl
theorem am_cv_cat {ad : Nat → Nat} {v : am_V} (h : ∀ x, v ≠ vL x) : (am_cv ad v).category = 1 := by
  rcases v with (x | x) | _ | _ | k
  · rfl
  · exact absurd rfl (h x)
  · rfl
  · rfl
  · rfl
theorem am_cl_get {ls : List am_V} {i j : Nat} {v : am_V} (h : (am_cl ls i)[j]? = some v) (hv : v ≠ vU) : ls[j]? = some v ∧ ¬ (j + 1 = i ∧ ∃ x, v = vL x) := by
  unfold am_cl at h
  split at h
  · exact ⟨h, by rintro ⟨q, -⟩; omega⟩
  · rename_i k
    split at h
    · rename_i x hx
      rw [List.getElem?_set] at h
      by_cases e : k = j
      · subst e
        rw [if_pos rfl] at h
        split at h
        · exact absurd (Option.some.inj h).symm hv
        · cases h
      · rw [if_neg e] at h
        exact ⟨h, by rintro ⟨q, -⟩; omega⟩
    · rename_i hx
      refine ⟨h, ?_⟩
      rintro ⟨q, x, rfl⟩
      have : j = k := by omega
      subst this
      exact hx x h
theorem am_LR.put1 {ad : Nat → Nat} {ls : List am_V} {LS : Array Slot} {i : Nat} {v : am_V} (hi : i < ls.length) (h : lv_has LS ls.length ((i, am_cv ad v) :: (am_lvl ad ls).filter (fun q => !(q.1 == i) && !(q.1 + 1 == i && q.2.category == 2)))) : am_LR ad ((am_cl ls i).set i v) LS := by
  refine ⟨by rw [List.length_set, am_cl_len]; exact h.1, h.2.1, fun q hq => h.2.2 q ?_⟩
  obtain ⟨w, h1, h2, h3⟩ := am_lvl_mem.mp hq
  rw [List.getElem?_set] at h1
  by_cases e : i = q.1
  · rw [if_pos e, if_pos (by rw [am_cl_len]; exact hi)] at h1
    rw [← Option.some.inj h1] at h3
    exact List.mem_cons.mpr (Or.inl (Prod.ext e.symm h3))
  · rw [if_neg e] at h1
    obtain ⟨h4, h5⟩ := am_cl_get h1 h2
    refine List.mem_cons.mpr (Or.inr (List.mem_filter.mpr ⟨am_lvl_mem.mpr ⟨w, h4, h2, h3⟩, ?_⟩))
    have e1 : (q.1 == i) = false := by simpa using Ne.symm e
    rw [e1]
    by_cases e2 : q.1 + 1 = i
    · have : q.2.category = 1 := by
        rw [h3]
        exact am_cv_cat (fun x hx => h5 ⟨e2, x, hx⟩)
      simp [this]
    · have e3 : (q.1 + 1 == i) = false := by simpa using e2
      simp [e3]
theorem am_LR.put2 {ad : Nat → Nat} {ls : List am_V} {LS : Array Slot} {i : Nat} {v : am_V} (hi : i + 1 < ls.length) (h : lv_has LS ls.length ((i, am_cv ad v) :: (am_lvl ad ls).filter (fun q => !(q.1 == i) && (!(q.1 == i + 1) && !(q.1 + 1 == i && q.2.category == 2))))) : am_LR ad (((am_cl ls i).set i v).set (i + 1) vU) LS := by
  refine ⟨by rw [List.length_set, List.length_set, am_cl_len]; exact h.1, h.2.1, fun q hq => h.2.2 q ?_⟩
  obtain ⟨w, h1, h2, h3⟩ := am_lvl_mem.mp hq
  rw [List.getElem?_set] at h1
  by_cases e0 : i + 1 = q.1
  · rw [if_pos e0] at h1
    split at h1
    · exact absurd (Option.some.inj h1).symm h2
    · cases h1
  · rw [if_neg e0, List.getElem?_set] at h1
    by_cases e : i = q.1
    · rw [if_pos e, if_pos (by rw [am_cl_len]; omega)] at h1
      rw [← Option.some.inj h1] at h3
      exact List.mem_cons.mpr (Or.inl (Prod.ext e.symm h3))
    · rw [if_neg e] at h1
      obtain ⟨h4, h5⟩ := am_cl_get h1 h2
      refine List.mem_cons.mpr (Or.inr (List.mem_filter.mpr ⟨am_lvl_mem.mpr ⟨w, h4, h2, h3⟩, ?_⟩))
      have e1 : (q.1 == i) = false := by simpa using Ne.symm e
      have e4 : (q.1 == i + 1) = false := by simpa using Ne.symm e0
      rw [e1, e4]
      by_cases e2 : q.1 + 1 = i
      · have : q.2.category = 1 := by
          rw [h3]
          exact am_cv_cat (fun x hx => h5 ⟨e2, x, hx⟩)
        simp [this]
      · have e3 : (q.1 + 1 == i) = false := by simpa using e2
        simp [e3]
