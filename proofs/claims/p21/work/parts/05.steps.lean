/-! Each step of the small machine is one of the machine's (all but calls and returns). -/
/-- the types of what an array of a kind holds -/
def am_ty (k : Nat) : FieldType := match k with
  | 0 => .int
  | 1 => .boolean
  | 2 => .long
  | 3 => .array .int
  | 4 => .object "StrandBoxes$Boxes"
  | 5 => .object "StrandBoxes$Halves"
  | _ => .object "StrandBoxes$Sum"
def am_tys (ca : Nat → ClassId) : List (ClassId × FieldType) := [(ca 0, am_ty 0), (ca 1, am_ty 1), (ca 2, am_ty 2), (ca 3, am_ty 3), (ca 4, am_ty 4), (ca 5, am_ty 5), (ca 6, am_ty 6)]
theorem am_tys_at (ca : Nat → ClassId) {k : Nat} (h : k < 7) : (am_tys ca)[k]? = some (ca k, am_ty k) := by
  rcases (show k = 0 ∨ k = 1 ∨ k = 2 ∨ k = 3 ∨ k = 4 ∨ k = 5 ∨ k = 6 by omega) with rfl | rfl | rfl | rfl | rfl | rfl | rfl <;> rfl
/-- from a state of the small machine the machine comes to Q, wherever the cells lie -/
def am_G (p : Program) (l : Launch) (e : Env) (R : Room) (s : State) (m : MethodId) (args : Array Value) (below : List Frame) (meth : Method) (c : Code) (Q : State → Prop) (D : va_G) (ca : Nat → ClassId) (ft : am_ft) (A : Nat → Prop) (n0 z0 : Nat) (ad0 : Nat → Nat) (nL : Nat) (t : am_S) : Prop :=
  ∀ (ad : Nat → Nat) (H : Heap) (locs : List Loc) (LS : Array Slot), (∀ k, k < n0 → ad k = ad0 k) → n0 ≤ t.2.2.2.1 → z0 ≤ t.2.2.2.2.1 → am_gd ft t.2.2.2 → (∀ v ∈ t.2.2.1, am_vk t.2.2.2.1 v) → (∀ v ∈ t.2.1, v = vU ∨ am_vk t.2.2.2.1 v) →
    va_P D vwCl (am_ws ad ca t.2.2.2) H → va_D A (am_ws ad ca t.2.2.2) → va_S A s.heap H locs → am_LR ad t.2.1 LS → t.2.1.length = nL →
    W p l e R s m args below meth c H locs (t.2.2.2.1 - n0) (t.2.2.2.2.1 - z0) Q (F0 m t.1 LS (t.2.2.1.map (am_cv ad)))
section SM
variable {p : Program} {l : Launch} {e : Env} {R : Room} {s : State} {m : MethodId} {args : Array Value} {below : List Frame} {meth : Method} {c : Code} {Q : State → Prop} {D : va_G} {ca : Nat → ClassId} {ft : am_ft} {A : Nat → Prop} {n0 z0 : Nat} {ad0 : Nat → Nat} {nL : Nat} {cc : ByteArray}
/-- only the stack's top changes -/
theorem sm_stk {pc pc2 : Nat} {ls us us2 st : List am_V} {h : am_H} (hg : (∀ v ∈ us, am_vk h.1 v) → ∀ v ∈ us2, am_vk h.1 v)
    (hW : ∀ (ad : Nat → Nat) (H : Heap) (locs : List Loc) (LS : Array Slot) (k z : Nat) (rest : List Value), (∀ v ∈ us, am_vk h.1 v) → W p l e R s m args below meth c H locs k z Q (F0 m pc2 LS (us2.map (am_cv ad) ++ rest)) → W p l e R s m args below meth c H locs k z Q (F0 m pc LS (us.map (am_cv ad) ++ rest)))
    (k : am_G p l e R s m args below meth c Q D ca ft A n0 z0 ad0 nL (pc2, ls, us2 ++ st, h)) : am_G p l e R s m args below meth c Q D ca ft A n0 z0 ad0 nL (pc, ls, us ++ st, h) := by
  intro ad H locs LS h1 h2 h3 h4 h5 h6 h7 h8 h9 h10 h11
  have hu : ∀ v ∈ us, am_vk h.1 v := fun v hv => h5 v (List.mem_append_left _ hv)
  have := k ad H locs LS h1 h2 h3 h4 (fun v hv => (List.mem_append.mp hv).elim (hg hu v) (fun q => h5 v (List.mem_append_right _ q))) h6 h7 h8 h9 h10 h11
  rw [List.map_append] at this ⊢
  exact hW ad H locs LS _ _ _ hu this
theorem sm_push {pc pc2 : Nat} {ls st : List am_V} {h : am_H} {v : am_V} (hv : am_vk h.1 v)
    (hW : ∀ (ad : Nat → Nat) (H : Heap) (locs : List Loc) (LS : Array Slot) (k z : Nat) (rest : List Value), W p l e R s m args below meth c H locs k z Q (F0 m pc2 LS (am_cv ad v :: rest)) → W p l e R s m args below meth c H locs k z Q (F0 m pc LS rest))
    (k : am_G p l e R s m args below meth c Q D ca ft A n0 z0 ad0 nL (pc2, ls, v :: st, h)) : am_G p l e R s m args below meth c Q D ca ft A n0 z0 ad0 nL (pc, ls, st, h) :=
  sm_stk (us := []) (us2 := [v]) (fun _ w hw => by rw [List.mem_singleton.mp hw]; exact hv) (fun ad H locs LS k z rest _ q => hW ad H locs LS k z rest q) k
theorem sm_bin {pc : Nat} {ls st : List am_V} {h : am_H} {x y z : Int} {g : Int32 → Int32 → Int32} (hz : am_r32 x → am_r32 y → am_r32 z ∧ Int32.ofInt z = g (Int32.ofInt x) (Int32.ofInt y))
    (hW : ∀ (H : Heap) (locs : List Loc) (LS : Array Slot) (k z : Nat) (rest : List Value), am_r32 x → am_r32 y → W p l e R s m args below meth c H locs k z Q (F0 m (pc + 1) LS (.int (g (Int32.ofInt x) (Int32.ofInt y)) :: rest)) → W p l e R s m args below meth c H locs k z Q (F0 m pc LS (.int (Int32.ofInt y) :: .int (Int32.ofInt x) :: rest)))
    (k : am_G p l e R s m args below meth c Q D ca ft A n0 z0 ad0 nL (pc + 1, ls, vI z :: st, h)) : am_G p l e R s m args below meth c Q D ca ft A n0 z0 ad0 nL (pc, ls, vI y :: vI x :: st, h) := by
  refine sm_stk (us := [vI y, vI x]) (us2 := [vI z]) (fun q w hw => ?_) (fun ad H locs LS k z9 rest q w => ?_) k
  · rw [List.mem_singleton.mp hw]
    exact (hz (q (vI x) (by simp)) (q (vI y) (by simp))).1
  · have hx : am_r32 x := q (vI x) (by simp)
    have hy : am_r32 y := q (vI y) (by simp)
    have e := (hz hx hy).2
    refine hW H locs LS k z9 rest hx hy ?_
    rw [← e]
    exact w
theorem sm_binl {pc : Nat} {ls st : List am_V} {h : am_H} {x y z : Int} {g : Int64 → Int64 → Int64} (hz : am_r64 x → am_r64 y → am_r64 z ∧ Int64.ofInt z = g (Int64.ofInt x) (Int64.ofInt y))
    (hW : ∀ (H : Heap) (locs : List Loc) (LS : Array Slot) (k z : Nat) (rest : List Value), am_r64 x → am_r64 y → W p l e R s m args below meth c H locs k z Q (F0 m (pc + 1) LS (.long (g (Int64.ofInt x) (Int64.ofInt y)) :: rest)) → W p l e R s m args below meth c H locs k z Q (F0 m pc LS (.long (Int64.ofInt y) :: .long (Int64.ofInt x) :: rest)))
    (k : am_G p l e R s m args below meth c Q D ca ft A n0 z0 ad0 nL (pc + 1, ls, vL z :: st, h)) : am_G p l e R s m args below meth c Q D ca ft A n0 z0 ad0 nL (pc, ls, vL y :: vL x :: st, h) := by
  refine sm_stk (us := [vL y, vL x]) (us2 := [vL z]) (fun q w hw => ?_) (fun ad H locs LS k z9 rest q w => ?_) k
  · rw [List.mem_singleton.mp hw]
    exact (hz (q (vL x) (by simp)) (q (vL y) (by simp))).1
  · have hx : am_r64 x := q (vL x) (by simp)
    have hy : am_r64 y := q (vL y) (by simp)
    have e := (hz hx hy).2
    refine hW H locs LS k z9 rest hx hy ?_
    rw [← e]
    exact w
theorem sm_shl {pc : Nat} {ls st : List am_V} {h : am_H} {x y z : Int} {g : Int64 → Int32 → Int64} (hz : Int64.ofInt z = g (Int64.ofInt x) (Int32.ofInt y)) (hr : am_r64 z)
    (hW : ∀ (H : Heap) (locs : List Loc) (LS : Array Slot) (k z : Nat) (rest : List Value), W p l e R s m args below meth c H locs k z Q (F0 m (pc + 1) LS (.long (g (Int64.ofInt x) (Int32.ofInt y)) :: rest)) → W p l e R s m args below meth c H locs k z Q (F0 m pc LS (.int (Int32.ofInt y) :: .long (Int64.ofInt x) :: rest)))
    (k : am_G p l e R s m args below meth c Q D ca ft A n0 z0 ad0 nL (pc + 1, ls, vL z :: st, h)) : am_G p l e R s m args below meth c Q D ca ft A n0 z0 ad0 nL (pc, ls, vI y :: vL x :: st, h) := by
  refine sm_stk (us := [vI y, vL x]) (us2 := [vL z]) (fun q w hw => ?_) (fun ad H locs LS k z9 rest q w => ?_) k
  · rw [List.mem_singleton.mp hw]
    exact hr
  · refine hW H locs LS k z9 rest ?_
    rw [← hz]
    exact w
theorem sm_load {pc pc2 i : Nat} {ls st : List am_V} {h : am_H} {v : am_V} (hi : ls[i]? = some v) (hv : v ≠ vU)
    (hW : ∀ (ad : Nat → Nat) (H : Heap) (locs : List Loc) (LS : Array Slot) (k z : Nat) (rest : List Value), LS[i]? = some (.val (am_cv ad v)) → W p l e R s m args below meth c H locs k z Q (F0 m pc2 LS (am_cv ad v :: rest)) → W p l e R s m args below meth c H locs k z Q (F0 m pc LS rest))
    (k : am_G p l e R s m args below meth c Q D ca ft A n0 z0 ad0 nL (pc2, ls, v :: st, h)) : am_G p l e R s m args below meth c Q D ca ft A n0 z0 ad0 nL (pc, ls, st, h) := by
  intro ad H locs LS h1 h2 h3 h4 h5 h6 h7 h8 h9 h10 h11
  have hk : am_vk h.1 v := (h6 v (List.mem_of_getElem? hi)).elim (fun q => absurd q hv) (fun q => q)
  have := k ad H locs LS h1 h2 h3 h4 (fun w hw => (List.mem_cons.mp hw).elim (fun q => by rw [q]; exact hk) (h5 w)) h6 h7 h8 h9 h10 h11
  exact hW ad H locs LS _ _ _ (h10.get hi hv) this
theorem sm_stor {pc pc2 i : Nat} {ls st : List am_V} {h : am_H} {v : am_V} (hi : i < ls.length)
    (hW : ∀ (ad : Nat → Nat) (H : Heap) (locs : List Loc) (LS : Array Slot) (k z : Nat) (rest : List Value), lv_has LS ls.length (am_lvl ad ls) → (∀ LS2 : Array Slot, lv_has LS2 ls.length ((i, am_cv ad v) :: (am_lvl ad ls).filter (fun q => !(q.1 == i) && !(q.1 + 1 == i && q.2.category == 2))) → W p l e R s m args below meth c H locs k z Q (F0 m pc2 LS2 rest)) → W p l e R s m args below meth c H locs k z Q (F0 m pc LS (am_cv ad v :: rest)))
    (k : am_G p l e R s m args below meth c Q D ca ft A n0 z0 ad0 nL (pc2, (am_cl ls i).set i v, st, h)) : am_G p l e R s m args below meth c Q D ca ft A n0 z0 ad0 nL (pc, ls, v :: st, h) := by
  intro ad H locs LS h1 h2 h3 h4 h5 h6 h7 h8 h9 h10 h11
  refine hW ad H locs LS _ _ _ h10 (fun LS2 q => ?_)
  refine k ad H locs LS2 h1 h2 h3 h4 (fun w hw => h5 w (List.mem_cons_of_mem _ hw)) (fun w hw => ?_) h7 h8 h9 (am_LR.put1 hi q) (by show ((am_cl ls i).set i v).length = nL; rw [List.length_set, am_cl_len]; exact h11)
  rcases List.mem_or_eq_of_mem_set hw with q1 | q1
  · by_cases e : w = vU
    · exact Or.inl e
    · obtain ⟨j, hj⟩ := List.getElem?_of_mem q1
      exact h6 w (List.mem_of_getElem? (am_cl_get hj e).1)
  · rw [q1]
    exact Or.inr (h5 v (by simp))
theorem sm_storl {pc pc2 i : Nat} {ls st : List am_V} {h : am_H} {x : Int} (hi : i + 1 < ls.length)
    (hW : ∀ (ad : Nat → Nat) (H : Heap) (locs : List Loc) (LS : Array Slot) (k z : Nat) (rest : List Value), lv_has LS ls.length (am_lvl ad ls) → (∀ LS2 : Array Slot, lv_has LS2 ls.length ((i, .long (Int64.ofInt x)) :: (am_lvl ad ls).filter (fun q => !(q.1 == i) && (!(q.1 == i + 1) && !(q.1 + 1 == i && q.2.category == 2)))) → W p l e R s m args below meth c H locs k z Q (F0 m pc2 LS2 rest)) → W p l e R s m args below meth c H locs k z Q (F0 m pc LS (.long (Int64.ofInt x) :: rest)))
    (k : am_G p l e R s m args below meth c Q D ca ft A n0 z0 ad0 nL (pc2, ((am_cl ls i).set i (vL x)).set (i + 1) vU, st, h)) : am_G p l e R s m args below meth c Q D ca ft A n0 z0 ad0 nL (pc, ls, vL x :: st, h) := by
  intro ad H locs LS h1 h2 h3 h4 h5 h6 h7 h8 h9 h10 h11
  refine hW ad H locs LS _ _ _ h10 (fun LS2 q => ?_)
  refine k ad H locs LS2 h1 h2 h3 h4 (fun w hw => h5 w (List.mem_cons_of_mem _ hw)) (fun w hw => ?_) h7 h8 h9 (am_LR.put2 (v := vL x) hi q) (by show (((am_cl ls i).set i (vL x)).set (i + 1) vU).length = nL; rw [List.length_set, List.length_set, am_cl_len]; exact h11)
  rcases List.mem_or_eq_of_mem_set hw with q0 | q0
  · rcases List.mem_or_eq_of_mem_set q0 with q1 | q1
    · by_cases e : w = vU
      · exact Or.inl e
      · obtain ⟨j, hj⟩ := List.getElem?_of_mem q1
        exact h6 w (List.mem_of_getElem? (am_cl_get hj e).1)
    · rw [q1]
      exact Or.inr (h5 (vL x) (by simp))
  · exact Or.inl q0
theorem sm_iinc {pc i : Nat} {ls st : List am_V} {h : am_H} {x n : Int} (hx : p.tables.exec = Jvm.exec) (hb : c.code = cc) (hdg : decode cc pc = .ok (.iinc i n, 3)) (hi : ls[i]? = some (vI x))
    (k : am_G p l e R s m args below meth c Q D ca ft A n0 z0 ad0 nL (pc + 3, (am_cl ls i).set i (vI (am_w (x + n))), st, h)) : am_G p l e R s m args below meth c Q D ca ft A n0 z0 ad0 nL (pc, ls, st, h) := by
  intro ad H locs LS h1 h2 h3 h4 h5 h6 h7 h8 h9 h10 h11
  have hl : i < ls.length := (List.getElem?_eq_some_iff.mp hi).1
  have hm : (i, Value.int (Int32.ofInt x)) ∈ am_lvl ad ls := am_lvl_mem.mpr ⟨vI x, hi, (fun q => by cases q), rfl⟩
  obtain ⟨j, hj⟩ := List.getElem?_of_mem hm
  refine lv_iinc (k := j) (v := Int32.ofInt (am_w (x + n))) hx hb hdg h10 hj (by rw [am_w_o, Int32.ofInt_add]) hl rfl (fun LS2 q => ?_)
  refine k ad H locs LS2 h1 h2 h3 h4 h5 (fun w hw => ?_) h7 h8 h9 (am_LR.put1 (v := vI (am_w (x + n))) hl q) (by show ((am_cl ls i).set i _).length = nL; rw [List.length_set, am_cl_len]; exact h11)
  rcases List.mem_or_eq_of_mem_set hw with q1 | q1
  · by_cases e : w = vU
    · exact Or.inl e
    · obtain ⟨j, hj⟩ := List.getElem?_of_mem q1
      exact h6 w (List.mem_of_getElem? (am_cl_get hj e).1)
  · rw [q1]
    exact Or.inr (am_w_r _)
end SM
