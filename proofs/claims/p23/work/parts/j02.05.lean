/-! Each step of the small machine is one of the machine's (all but calls and returns). -/
/-- the types of what an array of a kind holds -/
def am_ty (k : Nat) : FieldType := match k with
  | 0 => .int
  | 1 => .boolean
  | 2 => .long
  | 3 => .array .int
  | 4 => .object "StrandBoxes$Boxes"
  | 5 => .object "StrandBoxes$Halves"
  | _ => .object "StrandBoxes$Sum"
def am_tys (ca : Nat → ClassId) : List (ClassId × FieldType) := [(ca 0, am_ty 0), (ca 1, am_ty 1), (ca 2, am_ty 2), (ca 3, am_ty 3), (ca 4, am_ty 4), (ca 5, am_ty 5), (ca 6, am_ty 6)]
theorem am_tys_at (ca : Nat → ClassId) {k : Nat} (h : k < 7) : (am_tys ca)[k]? = some (ca k, am_ty k) := by
  rcases (show k = 0 ∨ k = 1 ∨ k = 2 ∨ k = 3 ∨ k = 4 ∨ k = 5 ∨ k = 6 by omega) with rfl | rfl | rfl | rfl | rfl | rfl | rfl <;> rfl
/-- from a state of the small machine the machine comes to Q, wherever the cells lie -/
def am_G (p : Program) (l : Launch) (e : Env) (R : Room) (s : State) (m : MethodId) (args : Array Value) (below : List Frame) (meth : Method) (c : Code) (Q : State → Prop) (D : va_G) (ca : Nat → ClassId) (ft : am_ft) (A : Nat → Prop) (n0 z0 : Nat) (ad0 : Nat → Nat) (nL : Nat) (t : am_S) : Prop :=
  ∀ (ad : Nat → Nat) (H : Heap) (locs : List Loc) (LS : Array Slot), (∀ k, k < n0 → ad k = ad0 k) → n0 ≤ t.2.2.2.1 → z0 ≤ t.2.2.2.2.1 → am_gd ft t.2.2.2 → (∀ v ∈ t.2.2.1, am_vk t.2.2.2.1 v) → (∀ v ∈ t.2.1, v = vU ∨ am_vk t.2.2.2.1 v) →
    va_P D vwCl (am_ws ad ca t.2.2.2) H → va_D A (am_ws ad ca t.2.2.2) → va_S A s.heap H locs → am_LR ad t.2.1 LS → t.2.1.length = nL →
    W p l e R s m args below meth c H locs (t.2.2.2.1 - n0) (t.2.2.2.2.1 - z0) Q (F0 m t.1 LS (t.2.2.1.map (am_cv ad)))
section SM
variable {p : Program} {l : Launch} {e : Env} {R : Room} {s : State} {m : MethodId} {args : Array Value} {below : List Frame} {meth : Method} {c : Code} {Q : State → Prop} {D : va_G} {ca : Nat → ClassId} {ft : am_ft} {A : Nat → Prop} {n0 z0 : Nat} {ad0 : Nat → Nat} {nL : Nat} {cc : ByteArray}
/-- only the stack's top changes -/
theorem sm_stk {pc pc2 : Nat} {ls us us2 st : List am_V} {h : am_H} (hg : (∀ v ∈ us, am_vk h.1 v) → ∀ v ∈ us2, am_vk h.1 v)
    (hW : ∀ (ad : Nat → Nat) (H : Heap) (locs : List Loc) (LS : Array Slot) (k z : Nat) (rest : List Value), (∀ v ∈ us, am_vk h.1 v) → W p l e R s m args below meth c H locs k z Q (F0 m pc2 LS (us2.map (am_cv ad) ++ rest)) → W p l e R s m args below meth c H locs k z Q (F0 m pc LS (us.map (am_cv ad) ++ rest)))
    (k : am_G p l e R s m args below meth c Q D ca ft A n0 z0 ad0 nL (pc2, ls, us2 ++ st, h)) : am_G p l e R s m args below meth c Q D ca ft A n0 z0 ad0 nL (pc, ls, us ++ st, h) := by
  intro ad H locs LS h1 h2 h3 h4 h5 h6 h7 h8 h9 h10 h11
  have hu : ∀ v ∈ us, am_vk h.1 v := fun v hv => h5 v (List.mem_append_left _ hv)
  have := k ad H locs LS h1 h2 h3 h4 (fun v hv => (List.mem_append.mp hv).elim (hg hu v) (fun q => h5 v (List.mem_append_right _ q))) h6 h7 h8 h9 h10 h11
  rw [List.map_append] at this ⊢
  exact hW ad H locs LS _ _ _ hu this
theorem sm_push {pc pc2 : Nat} {ls st : List am_V} {h : am_H} {v : am_V} (hv : am_vk h.1 v)
    (hW : ∀ (ad : Nat → Nat) (H : Heap) (locs : List Loc) (LS : Array Slot) (k z : Nat) (rest : List Value), W p l e R s m args below meth c H locs k z Q (F0 m pc2 LS (am_cv ad v :: rest)) → W p l e R s m args below meth c H locs k z Q (F0 m pc LS rest))
    (k : am_G p l e R s m args below meth c Q D ca ft A n0 z0 ad0 nL (pc2, ls, v :: st, h)) : am_G p l e R s m args below meth c Q D ca ft A n0 z0 ad0 nL (pc, ls, st, h) :=
  sm_stk (us := []) (us2 := [v]) (fun _ w hw => by rw [List.mem_singleton.mp hw]; exact hv) (fun ad H locs LS k z rest _ q => hW ad H locs LS k z rest q) k
theorem sm_bin {pc : Nat} {ls st : List am_V} {h : am_H} {x y z : Int} {g : Int32 → Int32 → Int32} (hz : am_r32 x → am_r32 y → am_r32 z ∧ Int32.ofInt z = g (Int32.ofInt x) (Int32.ofInt y))
    (hW : ∀ (H : Heap) (locs : List Loc) (LS : Array Slot) (k z : Nat) (rest : List Value), am_r32 x → am_r32 y → W p l e R s m args below meth c H locs k z Q (F0 m (pc + 1) LS (.int (g (Int32.ofInt x) (Int32.ofInt y)) :: rest)) → W p l e R s m args below meth c H locs k z Q (F0 m pc LS (.int (Int32.ofInt y) :: .int (Int32.ofInt x) :: rest)))
    (k : am_G p l e R s m args below meth c Q D ca ft A n0 z0 ad0 nL (pc + 1, ls, vI z :: st, h)) : am_G p l e R s m args below meth c Q D ca ft A n0 z0 ad0 nL (pc, ls, vI y :: vI x :: st, h) := by
  refine sm_stk (us := [vI y, vI x]) (us2 := [vI z]) (fun q w hw => ?_) (fun ad H locs LS k z9 rest q w => ?_) k
  · rw [List.mem_singleton.mp hw]
    exact (hz (q (vI x) (by simp)) (q (vI y) (by simp))).1
  · have hx : am_r32 x := q (vI x) (by simp)
    have hy : am_r32 y := q (vI y) (by simp)
    have e := (hz hx hy).2
    refine hW H locs LS k z9 rest hx hy ?_
    rw [← e]
    exact w
theorem sm_binl {pc : Nat} {ls st : List am_V} {h : am_H} {x y z : Int} {g : Int64 → Int64 → Int64} (hz : am_r64 x → am_r64 y → am_r64 z ∧ Int64.ofInt z = g (Int64.ofInt x) (Int64.ofInt y))
    (hW : ∀ (H : Heap) (locs : List Loc) (LS : Array Slot) (k z : Nat) (rest : List Value), am_r64 x → am_r64 y → W p l e R s m args below meth c H locs k z Q (F0 m (pc + 1) LS (.long (g (Int64.ofInt x) (Int64.ofInt y)) :: rest)) → W p l e R s m args below meth c H locs k z Q (F0 m pc LS (.long (Int64.ofInt y) :: .long (Int64.ofInt x) :: rest)))
    (k : am_G p l e R s m args below meth c Q D ca ft A n0 z0 ad0 nL (pc + 1, ls, vL z :: st, h)) : am_G p l e R s m args below meth c Q D ca ft A n0 z0 ad0 nL (pc, ls, vL y :: vL x :: st, h) := by
  refine sm_stk (us := [vL y, vL x]) (us2 := [vL z]) (fun q w hw => ?_) (fun ad H locs LS k z9 rest q w => ?_) k
  · rw [List.mem_singleton.mp hw]
    exact (hz (q (vL x) (by simp)) (q (vL y) (by simp))).1
  · have hx : am_r64 x := q (vL x) (by simp)
    have hy : am_r64 y := q (vL y) (by simp)
    have e := (hz hx hy).2
    refine hW H locs LS k z9 rest hx hy ?_
    rw [← e]
    exact w
theorem sm_shl {pc : Nat} {ls st : List am_V} {h : am_H} {x y z : Int} {g : Int64 → Int32 → Int64} (hz : Int64.ofInt z = g (Int64.ofInt x) (Int32.ofInt y)) (hr : am_r64 z)
    (hW : ∀ (H : Heap) (locs : List Loc) (LS : Array Slot) (k z : Nat) (rest : List Value), W p l e R s m args below meth c H locs k z Q (F0 m (pc + 1) LS (.long (g (Int64.ofInt x) (Int32.ofInt y)) :: rest)) → W p l e R s m args below meth c H locs k z Q (F0 m pc LS (.int (Int32.ofInt y) :: .long (Int64.ofInt x) :: rest)))
    (k : am_G p l e R s m args below meth c Q D ca ft A n0 z0 ad0 nL (pc + 1, ls, vL z :: st, h)) : am_G p l e R s m args below meth c Q D ca ft A n0 z0 ad0 nL (pc, ls, vI y :: vL x :: st, h) := by
  refine sm_stk (us := [vI y, vL x]) (us2 := [vL z]) (fun q w hw => ?_) (fun ad H locs LS k z9 rest q w => ?_) k
  · rw [List.mem_singleton.mp hw]
    exact hr
  · refine hW H locs LS k z9 rest ?_
    rw [← hz]
    exact w
theorem sm_load {pc pc2 i : Nat} {ls st : List am_V} {h : am_H} {v : am_V} (hi : ls[i]? = some v) (hv : v ≠ vU)
    (hW : ∀ (ad : Nat → Nat) (H : Heap) (locs : List Loc) (LS : Array Slot) (k z : Nat) (rest : List Value), LS[i]? = some (.val (am_cv ad v)) → W p l e R s m args below meth c H locs k z Q (F0 m pc2 LS (am_cv ad v :: rest)) → W p l e R s m args below meth c H locs k z Q (F0 m pc LS rest))
    (k : am_G p l e R s m args below meth c Q D ca ft A n0 z0 ad0 nL (pc2, ls, v :: st, h)) : am_G p l e R s m args below meth c Q D ca ft A n0 z0 ad0 nL (pc, ls, st, h) := by
  intro ad H locs LS h1 h2 h3 h4 h5 h6 h7 h8 h9 h10 h11
  have hk : am_vk h.1 v := (h6 v (List.mem_of_getElem? hi)).elim (fun q => absurd q hv) (fun q => q)
  have := k ad H locs LS h1 h2 h3 h4 (fun w hw => (List.mem_cons.mp hw).elim (fun q => by rw [q]; exact hk) (h5 w)) h6 h7 h8 h9 h10 h11
  exact hW ad H locs LS _ _ _ (h10.get hi hv) this
theorem sm_stor {pc pc2 i : Nat} {ls st : List am_V} {h : am_H} {v : am_V} (hi : i < ls.length)
    (hW : ∀ (ad : Nat → Nat) (H : Heap) (locs : List Loc) (LS : Array Slot) (k z : Nat) (rest : List Value), lv_has LS ls.length (am_lvl ad ls) → (∀ LS2 : Array Slot, lv_has LS2 ls.length ((i, am_cv ad v) :: (am_lvl ad ls).filter (fun q => !(q.1 == i) && !(q.1 + 1 == i && q.2.category == 2))) → W p l e R s m args below meth c H locs k z Q (F0 m pc2 LS2 rest)) → W p l e R s m args below meth c H locs k z Q (F0 m pc LS (am_cv ad v :: rest)))
    (k : am_G p l e R s m args below meth c Q D ca ft A n0 z0 ad0 nL (pc2, (am_cl ls i).set i v, st, h)) : am_G p l e R s m args below meth c Q D ca ft A n0 z0 ad0 nL (pc, ls, v :: st, h) := by
  intro ad H locs LS h1 h2 h3 h4 h5 h6 h7 h8 h9 h10 h11
  refine hW ad H locs LS _ _ _ h10 (fun LS2 q => ?_)
  refine k ad H locs LS2 h1 h2 h3 h4 (fun w hw => h5 w (List.mem_cons_of_mem _ hw)) (fun w hw => ?_) h7 h8 h9 (am_LR.put1 hi q) (by show ((am_cl ls i).set i v).length = nL; rw [List.length_set, am_cl_len]; exact h11)
  rcases List.mem_or_eq_of_mem_set hw with q1 | q1
  · by_cases e : w = vU
    · exact Or.inl e
    · obtain ⟨j, hj⟩ := List.getElem?_of_mem q1
      exact h6 w (List.mem_of_getElem? (am_cl_get hj e).1)
  · rw [q1]
    exact Or.inr (h5 v (by simp))
theorem sm_storl {pc pc2 i : Nat} {ls st : List am_V} {h : am_H} {x : Int} (hi : i + 1 < ls.length)
    (hW : ∀ (ad : Nat → Nat) (H : Heap) (locs : List Loc) (LS : Array Slot) (k z : Nat) (rest : List Value), lv_has LS ls.length (am_lvl ad ls) → (∀ LS2 : Array Slot, lv_has LS2 ls.length ((i, .long (Int64.ofInt x)) :: (am_lvl ad ls).filter (fun q => !(q.1 == i) && (!(q.1 == i + 1) && !(q.1 + 1 == i && q.2.category == 2)))) → W p l e R s m args below meth c H locs k z Q (F0 m pc2 LS2 rest)) → W p l e R s m args below meth c H locs k z Q (F0 m pc LS (.long (Int64.ofInt x) :: rest)))
    (k : am_G p l e R s m args below meth c Q D ca ft A n0 z0 ad0 nL (pc2, ((am_cl ls i).set i (vL x)).set (i + 1) vU, st, h)) : am_G p l e R s m args below meth c Q D ca ft A n0 z0 ad0 nL (pc, ls, vL x :: st, h) := by
  intro ad H locs LS h1 h2 h3 h4 h5 h6 h7 h8 h9 h10 h11
  refine hW ad H locs LS _ _ _ h10 (fun LS2 q => ?_)
  refine k ad H locs LS2 h1 h2 h3 h4 (fun w hw => h5 w (List.mem_cons_of_mem _ hw)) (fun w hw => ?_) h7 h8 h9 (am_LR.put2 (v := vL x) hi q) (by show (((am_cl ls i).set i (vL x)).set (i + 1) vU).length = nL; rw [List.length_set, List.length_set, am_cl_len]; exact h11)
  rcases List.mem_or_eq_of_mem_set hw with q0 | q0
  · rcases List.mem_or_eq_of_mem_set q0 with q1 | q1
    · by_cases e : w = vU
      · exact Or.inl e
      · obtain ⟨j, hj⟩ := List.getElem?_of_mem q1
        exact h6 w (List.mem_of_getElem? (am_cl_get hj e).1)
    · rw [q1]
      exact Or.inr (h5 (vL x) (by simp))
  · exact Or.inl q0
theorem sm_iinc {pc i : Nat} {ls st : List am_V} {h : am_H} {x n : Int} (hx : p.tables.exec = Jvm.exec) (hb : c.code = cc) (hdg : decode cc pc = .ok (.iinc i n, 3)) (hi : ls[i]? = some (vI x))
    (k : am_G p l e R s m args below meth c Q D ca ft A n0 z0 ad0 nL (pc + 3, (am_cl ls i).set i (vI (am_w (x + n))), st, h)) : am_G p l e R s m args below meth c Q D ca ft A n0 z0 ad0 nL (pc, ls, st, h) := by
  intro ad H locs LS h1 h2 h3 h4 h5 h6 h7 h8 h9 h10 h11
  have hl : i < ls.length := (List.getElem?_eq_some_iff.mp hi).1
  have hm : (i, Value.int (Int32.ofInt x)) ∈ am_lvl ad ls := am_lvl_mem.mpr ⟨vI x, hi, (fun q => by cases q), rfl⟩
  obtain ⟨j, hj⟩ := List.getElem?_of_mem hm
  refine lv_iinc (k := j) (v := Int32.ofInt (am_w (x + n))) hx hb hdg h10 hj (by rw [am_w_o, Int32.ofInt_add]) hl rfl (fun LS2 q => ?_)
  refine k ad H locs LS2 h1 h2 h3 h4 h5 (fun w hw => ?_) h7 h8 h9 (am_LR.put1 (v := vI (am_w (x + n))) hl q) (by show ((am_cl ls i).set i _).length = nL; rw [List.length_set, am_cl_len]; exact h11)
  rcases List.mem_or_eq_of_mem_set hw with q1 | q1
  · by_cases e : w = vU
    · exact Or.inl e
    · obtain ⟨j, hj⟩ := List.getElem?_of_mem q1
      exact h6 w (List.mem_of_getElem? (am_cl_get hj e).1)
  · rw [q1]
    exact Or.inr (am_w_r _)
end SM
/-! Branches, fields, arrays. -/
section SM
variable {p : Program} {l : Launch} {e : Env} {R : Room} {s : State} {m : MethodId} {args : Array Value} {below : List Frame} {meth : Method} {c : Code} {Q : State → Prop} {D : va_G} {ca : Nat → ClassId} {ft : am_ft} {A : Nat → Prop} {n0 z0 : Nat} {ad0 : Nat → Nat} {nL : Nat} {cc : ByteArray}
theorem sm_if {cnd : Jvm.ClassFile.Cond} {pc tgt : Nat} {off : Int} {ls st : List am_V} {h : am_H} {a : Int} (hx : p.tables.exec = Jvm.exec) (hb : c.code = cc) (hdg : decode cc pc = .ok (.ifCond cnd off, 3)) (ht : (pc : Int) + off = (tgt : Int))
    (k : am_G p l e R s m args below meth c Q D ca ft A n0 z0 ad0 nL ((if am_cmp cnd a 0 then tgt else pc + 3), ls, st, h)) : am_G p l e R s m args below meth c Q D ca ft A n0 z0 ad0 nL (pc, ls, vI a :: st, h) := by
  intro ad H locs LS h1 h2 h3 h4 h5 h6 h7 h8 h9 h10 h11
  have ha : am_r32 a := h5 (vI a) (by simp)
  have hb9 : am_r32 0 := am_0r
  have e0 : (0 : Int32) = Int32.ofInt 0 := by decide
  have K := k ad H locs LS h1 h2 h3 h4 (fun w hw => h5 w (by simp [hw])) h6 h7 h8 h9 h10 h11
  cases cnd
  · refine lv_if_eq hx hb hdg ht (fun q => ?_) (fun q => ?_)
    · rw [e0] at q
      have q1 : a = 0 := (am_o_eq ha hb9).mp q
      have q2 : am_cmp .eq a 0 = true := by simp [am_cmp]; omega
      simp only [q2] at K
      exact K
    · rw [e0] at q
      have q1 : ¬ (a = 0) := fun z => q ((am_o_eq ha hb9).mpr z)
      have q2 : am_cmp .eq a 0 = false := by simp [am_cmp]; omega
      simp only [q2] at K
      exact K
  · refine lv_if_ne hx hb hdg ht (fun q => ?_) (fun q => ?_)
    · rw [e0] at q
      have q1 : ¬ a = 0 := fun z => q ((am_o_eq ha hb9).mpr z)
      have q2 : am_cmp .ne a 0 = true := by simp [am_cmp]; omega
      simp only [q2] at K
      exact K
    · rw [e0] at q
      have q1 : a = 0 := (am_o_eq ha hb9).mp q
      have q2 : am_cmp .ne a 0 = false := by simp [am_cmp]; omega
      simp only [q2] at K
      exact K
  · refine lv_if_lt hx hb hdg ht (fun q => ?_) (fun q => ?_)
    · rw [e0] at q
      have q1 : a < 0 := (am_o_lt ha hb9).mp q
      have q2 : am_cmp .lt a 0 = true := by simp [am_cmp]; omega
      simp only [q2] at K
      exact K
    · rw [e0] at q
      have q1 : ¬ (a < 0) := fun z => q ((am_o_lt ha hb9).mpr z)
      have q2 : am_cmp .lt a 0 = false := by simp [am_cmp]; omega
      simp only [q2] at K
      exact K
  · refine lv_if_ge hx hb hdg ht (fun q => ?_) (fun q => ?_)
    · rw [e0] at q
      have q1 : 0 ≤ a := (am_o_le hb9 ha).mp q
      have q2 : am_cmp .ge a 0 = true := by simp [am_cmp]; omega
      simp only [q2] at K
      exact K
    · rw [e0] at q
      have q1 : ¬ (0 ≤ a) := fun z => q ((am_o_le hb9 ha).mpr z)
      have q2 : am_cmp .ge a 0 = false := by simp [am_cmp]; omega
      simp only [q2] at K
      exact K
  · refine lv_if_gt hx hb hdg ht (fun q => ?_) (fun q => ?_)
    · rw [e0] at q
      have q1 : 0 < a := (am_o_lt hb9 ha).mp q
      have q2 : am_cmp .gt a 0 = true := by simp [am_cmp]; omega
      simp only [q2] at K
      exact K
    · rw [e0] at q
      have q1 : ¬ (0 < a) := fun z => q ((am_o_lt hb9 ha).mpr z)
      have q2 : am_cmp .gt a 0 = false := by simp [am_cmp]; omega
      simp only [q2] at K
      exact K
  · refine lv_if_le hx hb hdg ht (fun q => ?_) (fun q => ?_)
    · rw [e0] at q
      have q1 : a ≤ 0 := (am_o_le ha hb9).mp q
      have q2 : am_cmp .le a 0 = true := by simp [am_cmp]; omega
      simp only [q2] at K
      exact K
    · rw [e0] at q
      have q1 : ¬ (a ≤ 0) := fun z => q ((am_o_le ha hb9).mpr z)
      have q2 : am_cmp .le a 0 = false := by simp [am_cmp]; omega
      simp only [q2] at K
      exact K
theorem sm_icmp {cnd : Jvm.ClassFile.Cond} {pc tgt : Nat} {off : Int} {ls st : List am_V} {h : am_H} {a b : Int} (hx : p.tables.exec = Jvm.exec) (hb : c.code = cc) (hdg : decode cc pc = .ok (.if_icmp cnd off, 3)) (ht : (pc : Int) + off = (tgt : Int))
    (k : am_G p l e R s m args below meth c Q D ca ft A n0 z0 ad0 nL ((if am_cmp cnd a b then tgt else pc + 3), ls, st, h)) : am_G p l e R s m args below meth c Q D ca ft A n0 z0 ad0 nL (pc, ls, vI b :: vI a :: st, h) := by
  intro ad H locs LS h1 h2 h3 h4 h5 h6 h7 h8 h9 h10 h11
  have ha : am_r32 a := h5 (vI a) (by simp)
  have hb9 : am_r32 b := h5 (vI b) (by simp)
  have K := k ad H locs LS h1 h2 h3 h4 (fun w hw => h5 w (by simp [hw])) h6 h7 h8 h9 h10 h11
  cases cnd
  · refine lv_icmp_eq hx hb hdg ht (fun q => ?_) (fun q => ?_)
    · have q1 : a = b := (am_o_eq ha hb9).mp q
      have q2 : am_cmp .eq a b = true := by simp [am_cmp]; omega
      simp only [q2] at K
      exact K
    · have q1 : ¬ (a = b) := fun z => q ((am_o_eq ha hb9).mpr z)
      have q2 : am_cmp .eq a b = false := by simp [am_cmp]; omega
      simp only [q2] at K
      exact K
  · refine lv_icmp_ne hx hb hdg ht (fun q => ?_) (fun q => ?_)
    · have q1 : ¬ a = b := fun z => q ((am_o_eq ha hb9).mpr z)
      have q2 : am_cmp .ne a b = true := by simp [am_cmp]; omega
      simp only [q2] at K
      exact K
    · have q1 : a = b := (am_o_eq ha hb9).mp q
      have q2 : am_cmp .ne a b = false := by simp [am_cmp]; omega
      simp only [q2] at K
      exact K
  · refine lv_icmp_lt hx hb hdg ht (fun q => ?_) (fun q => ?_)
    · have q1 : a < b := (am_o_lt ha hb9).mp q
      have q2 : am_cmp .lt a b = true := by simp [am_cmp]; omega
      simp only [q2] at K
      exact K
    · have q1 : ¬ (a < b) := fun z => q ((am_o_lt ha hb9).mpr z)
      have q2 : am_cmp .lt a b = false := by simp [am_cmp]; omega
      simp only [q2] at K
      exact K
  · refine lv_icmp_ge hx hb hdg ht (fun q => ?_) (fun q => ?_)
    · have q1 : b ≤ a := (am_o_le hb9 ha).mp q
      have q2 : am_cmp .ge a b = true := by simp [am_cmp]; omega
      simp only [q2] at K
      exact K
    · have q1 : ¬ (b ≤ a) := fun z => q ((am_o_le hb9 ha).mpr z)
      have q2 : am_cmp .ge a b = false := by simp [am_cmp]; omega
      simp only [q2] at K
      exact K
  · refine lv_icmp_gt hx hb hdg ht (fun q => ?_) (fun q => ?_)
    · have q1 : b < a := (am_o_lt hb9 ha).mp q
      have q2 : am_cmp .gt a b = true := by simp [am_cmp]; omega
      simp only [q2] at K
      exact K
    · have q1 : ¬ (b < a) := fun z => q ((am_o_lt hb9 ha).mpr z)
      have q2 : am_cmp .gt a b = false := by simp [am_cmp]; omega
      simp only [q2] at K
      exact K
  · refine lv_icmp_le hx hb hdg ht (fun q => ?_) (fun q => ?_)
    · have q1 : a ≤ b := (am_o_le ha hb9).mp q
      have q2 : am_cmp .le a b = true := by simp [am_cmp]; omega
      simp only [q2] at K
      exact K
    · have q1 : ¬ (a ≤ b) := fun z => q ((am_o_le ha hb9).mpr z)
      have q2 : am_cmp .le a b = false := by simp [am_cmp]; omega
      simp only [q2] at K
      exact K
theorem sm_goto {pc tgt : Nat} {off : Int} {ls st : List am_V} {h : am_H} (hx : p.tables.exec = Jvm.exec) (hb : c.code = cc) (hdg : decode cc pc = .ok (.goto off, 3)) (ht : (pc : Int) + off = (tgt : Int)) (k : am_G p l e R s m args below meth c Q D ca ft A n0 z0 ad0 nL (tgt, ls, st, h)) : am_G p l e R s m args below meth c Q D ca ft A n0 z0 ad0 nL (pc, ls, st, h) := by
  intro ad H locs LS h1 h2 h3 h4 h5 h6 h7 h8 h9 h10 h11
  exact lv_goto hx hb hdg ht (k ad H locs LS h1 h2 h3 h4 h5 h6 h7 h8 h9 h10 h11)
theorem sm_sw1 {pc : Nat} {d lo hi : Int} {offs : Array Int} {len : Nat} {ls st : List am_V} {h : am_H} {a : Int} (hx : p.tables.exec = Jvm.exec) (hb : c.code = cc) (hdg : decode cc pc = .ok (.tableswitch d lo hi offs, len)) (ho : a < lo ∨ hi < a) (ht : 0 ≤ (pc : Int) + d) (k : am_G p l e R s m args below meth c Q D ca ft A n0 z0 ad0 nL (((pc : Int) + d).toNat, ls, st, h)) : am_G p l e R s m args below meth c Q D ca ft A n0 z0 ad0 nL (pc, ls, vI a :: st, h) := by
  intro ad H locs LS h1 h2 h3 h4 h5 h6 h7 h8 h9 h10 h11
  have ha : am_r32 a := h5 (vI a) (by simp)
  exact lv_tableOut hx hb hdg (by rw [am_tI ha]; exact ho) (by omega) (k ad H locs LS h1 h2 h3 h4 (fun w hw => h5 w (by simp [hw])) h6 h7 h8 h9 h10 h11)
theorem sm_sw2 {pc : Nat} {d lo hi o : Int} {offs : Array Int} {len : Nat} {ls st : List am_V} {h : am_H} {a : Int} (hx : p.tables.exec = Jvm.exec) (hb : c.code = cc) (hdg : decode cc pc = .ok (.tableswitch d lo hi offs, len)) (ho : ¬ (a < lo ∨ hi < a)) (hq : offs[(a - lo).toNat]? = some o) (ht : 0 ≤ (pc : Int) + o) (k : am_G p l e R s m args below meth c Q D ca ft A n0 z0 ad0 nL (((pc : Int) + o).toNat, ls, st, h)) : am_G p l e R s m args below meth c Q D ca ft A n0 z0 ad0 nL (pc, ls, vI a :: st, h) := by
  intro ad H locs LS h1 h2 h3 h4 h5 h6 h7 h8 h9 h10 h11
  have ha : am_r32 a := h5 (vI a) (by simp)
  exact lv_tableIn hx hb hdg (by rw [am_tI ha]; omega) (by rw [am_tI ha]; omega) (by rw [am_tI ha]; exact hq) (by omega) (k ad H locs LS h1 h2 h3 h4 (fun w hw => h5 w (by simp [hw])) h6 h7 h8 h9 h10 h11)
theorem am_ce_obj {ad : Nat → Nat} {ca : Nat → ClassId} {K : am_K} {x : Nat} (h : K.1 = 10 + x) : am_ce ad ca K = .inr (x, (List.range K.2.1).map (fun y => am_cv ad (K.2.2 y))) := by
  unfold am_ce
  rw [if_neg (by omega), if_neg (by omega), if_neg (by omega), h, Nat.add_sub_cancel_left]
theorem am_ce_i {ad : Nat → Nat} {ca : Nat → ClassId} {K : am_K} {k : Nat} (h : K.1 = k) (h2 : k < 2) : am_ce ad ca K = .inl (ca k, K.2.1, .inl (fun i => am_toI (K.2.2 i))) := by
  unfold am_ce
  rw [if_pos (by omega), h]
theorem am_ce_l {ad : Nat → Nat} {ca : Nat → ClassId} {K : am_K} (h : K.1 = 2) : am_ce ad ca K = .inl (ca 2, K.2.1, .inr (.inl (fun i => am_toL (K.2.2 i)))) := by
  unfold am_ce
  rw [if_neg (by omega), if_pos h]
theorem am_ce_q {ad : Nat → Nat} {ca : Nat → ClassId} {K : am_K} (h : 3 ≤ K.1) (h2 : K.1 < 7) : am_ce ad ca K = .inl (ca K.1, K.2.1, .inr (.inr (.inr (.inr (fun i => am_toR ad (K.2.2 i)))))) := by
  unfold am_ce
  rw [if_neg (by omega), if_neg (by omega), if_pos h2]
/-- a field's link and what the tables say of its class -/
def am_fl (own : String) (index x y : Nat) (Ts : List Cond) : Prop := ∃ (C : String) (T : u_T) (N : Nat), vwCl[x]? = some (C, T, N) ∧ y < N ∧ Cond.fieldLink own index (T y).1 (T y).2.1 (T y).2.2.1 ∈ Ts ∧ ∀ w ∈ u_ws C T N, w ∈ Ts
theorem am_vt_ne {n k : Nat} {v : am_V} (h : am_vt n k v) : v ≠ vU := by
  rintro rfl
  exact h.1
theorem am_gd_fld {h : am_H} {a x y : Nat} (hg : am_gd ft h) (ha : a < h.1) (hk : (h.2.2 a).1 = 10 + x) (hy : y < (h.2.2 a).2.1) : am_vt h.1 (ft x y) ((h.2.2 a).2.2 y) := by
  rcases hg a ha with q | q
  · omega
  · have := q.2 y hy
    rwa [hk, Nat.add_sub_cancel_left] at this
theorem am_gd_arr {h : am_H} {a : Nat} (hg : am_gd ft h) (ha : a < h.1) (hk : (h.2.2 a).1 < 7) (i : Nat) : am_vt h.1 (am_ek (h.2.2 a).1) ((h.2.2 a).2.2 i) := by
  rcases hg a ha with q | q
  · exact q.2.2 i
  · omega
theorem sm_gf {own : String} {Ts : List Cond} {pc index a x y : Nat} {ls st : List am_V} {h : am_H} (hx : p.tables.exec = Jvm.exec) (hb : c.code = cc) (hown : s.vm.findClass own = some m.cls) (hts : ∀ w ∈ Ts, w.before args s = true) (hK : va_K D vwCl (am_tys ca) s) (hdg : decode cc pc = .ok (.getfield index, 3)) (hf : am_fl own index x y Ts)
    (ha : a < h.1) (hk : (h.2.2 a).1 = 10 + x) (hy : y < (h.2.2 a).2.1) (k : am_G p l e R s m args below meth c Q D ca ft A n0 z0 ad0 nL (pc + 3, ls, (h.2.2 a).2.2 y :: st, h)) : am_G p l e R s m args below meth c Q D ca ft A n0 z0 ad0 nL (pc, ls, vR a :: st, h) := by
  intro ad H locs LS h1 h2 h3 h4 h5 h6 h7 h8 h9 h10 h11
  obtain ⟨C, T, N, f1, f2, f3, f4⟩ := hf
  have hv := am_gd_fld h4 ha hk hy
  refine va_get hx hb hts f4 hown hK h7 a ((am_ws_at ha).trans (by rw [am_ce_obj hk])) f1 y f2 (hts _ f3) (fun _ q => q) (v := am_cv ad ((h.2.2 a).2.2 y)) ?_ hdg (k ad H locs LS h1 h2 h3 h4 (fun w hw => (List.mem_cons.mp hw).elim (fun q => by rw [q]; exact hv.1) (fun q => h5 w (List.mem_cons_of_mem _ q))) h6 h7 h8 h9 h10 h11)
  rw [List.getElem?_map, List.getElem?_range hy]
  rfl
/-- a kind of values and a type -/
def am_tk (k : Nat) (ty : FieldType) : Bool := match k, ty with
  | 0, .int => true
  | 1, .boolean => true
  | 2, .long => true
  | 3, .array _ => true
  | 3, .object _ => true
  | _, _ => false
theorem am_fit {ad : Nat → Nat} {n k : Nat} {v : am_V} {ty : FieldType} (hv : am_vk n v) (hf : am_fok k v = true) (ht : am_tk k ty = true) : narrow ty (am_cv ad v) = am_cv ad v ∧ fits ty (am_cv ad v) = true := by
  rcases v with (x | x) | _ | _ | a
  · have : (k = 0) ∨ (k = 1 ∧ (x = 0 ∨ x = 1)) := by simpa [am_fok] using hf
    rcases this with rfl | ⟨rfl, rfl | rfl⟩
    · cases ty <;> first | (cases ht; done) | exact ⟨rfl, rfl⟩
    · cases ty <;> first | (cases ht; done) | exact ⟨(by decide : narrow .boolean (.int (Int32.ofInt 0)) = .int (Int32.ofInt 0)), (by decide : fits .boolean (.int (Int32.ofInt 0)) = true)⟩
    · cases ty <;> first | (cases ht; done) | exact ⟨(by decide : narrow .boolean (.int (Int32.ofInt 1)) = .int (Int32.ofInt 1)), (by decide : fits .boolean (.int (Int32.ofInt 1)) = true)⟩
  · have : k = 2 := by simpa [am_fok] using hf
    subst this
    cases ty <;> first | (cases ht; done) | exact ⟨rfl, rfl⟩
  · exact hv.elim
  · have : k = 3 := by simpa [am_fok] using hf
    subst this
    cases ty <;> first | (cases ht; done) | exact ⟨rfl, rfl⟩
  · have : k = 3 := by simpa [am_fok] using hf
    subst this
    cases ty <;> first | (cases ht; done) | exact ⟨rfl, rfl⟩
theorem am_gd_wr {h : am_H} {a i : Nat} {v : am_V} (hg : am_gd ft h) (hc : am_ckd ft h.1 ((h.2.2 a).1, (h.2.2 a).2.1, am_up (h.2.2 a).2.2 i v)) : am_gd ft (am_wr h a i v) := by
  intro k hk
  show am_ckd ft h.1 (am_up h.2.2 a _ k)
  unfold am_up
  by_cases e : k = a
  · rw [if_pos e]
    exact hc
  · rw [if_neg e]
    exact hg k hk
theorem am_map_set {ad : Nat → Nat} {n y : Nat} {f : Nat → am_V} {v : am_V} : (List.range n).map (fun j => am_cv ad (am_up f y v j)) = ((List.range n).map (fun j => am_cv ad (f j))).set y (am_cv ad v) := by
  apply List.ext_getElem?
  intro i
  rw [List.getElem?_set, List.getElem?_map, List.getElem?_map]
  by_cases hi : i < n
  · rw [List.getElem?_range hi]
    by_cases e : y = i
    · subst e
      simp [am_up, hi]
    · simp [am_up, e, Ne.symm e]
  · have : (List.range n)[i]? = none := List.getElem?_eq_none (by simp; omega)
    rw [this]
    by_cases e : y = i
    · subst e
      simp [hi]
    · simp [e]
/-- behind a write of a field or an element -/
theorem am_put_go {pc2 a i : Nat} {ls st us : List am_V} {h : am_H} {v : am_V} {ad : Nat → Nat} {H : Heap} {locs : List Loc} {LS : Array Slot} {e1 : va_E} (h1 : ∀ k, k < n0 → ad k = ad0 k) (h2 : n0 ≤ h.1) (h3 : z0 ≤ h.2.1) (h5 : ∀ w ∈ us ++ st, am_vk h.1 w) (h6 : ∀ w ∈ ls, w = vU ∨ am_vk h.1 w) (h10 : am_LR ad ls LS) (h11 : ls.length = nL) (ha : a < h.1) (hc : am_gd ft (am_wr h a i v))
    (he : am_ce ad ca ((h.2.2 a).1, (h.2.2 a).2.1, am_up (h.2.2 a).2.2 i v) = e1) (k : am_G p l e R s m args below meth c Q D ca ft A n0 z0 ad0 nL (pc2, ls, st, am_wr h a i v))
    (hP : va_P D vwCl ((am_ws ad ca h).set a (ad a, e1)) H) (hD : va_D A ((am_ws ad ca h).set a (ad a, e1))) (hS : va_S A s.heap H locs) : W p l e R s m args below meth c H locs (h.1 - n0) (h.2.1 - z0) Q (F0 m pc2 LS (st.map (am_cv ad))) := by
  have e : am_ws ad ca (am_wr h a i v) = (am_ws ad ca h).set a (ad a, e1) := am_ws_set ha he
  rw [← e] at hP hD
  exact k ad H locs LS h1 h2 h3 hc (fun w hw => h5 w (List.mem_append_right _ hw)) h6 hP hD hS h10 h11
theorem sm_pf {own : String} {Ts : List Cond} {pc index a x y : Nat} {ls st : List am_V} {h : am_H} {v : am_V} {C : String} {T : u_T} {N : Nat} (tyf : Nat → FieldType) (hx : p.tables.exec = Jvm.exec) (hb : c.code = cc) (hown : s.vm.findClass own = some m.cls) (hts : ∀ w ∈ Ts, w.before args s = true) (hK : va_K D vwCl (am_tys ca) s) (hdg : decode cc pc = .ok (.putfield index, 3))
    (f1 : vwCl[x]? = some (C, T, N)) (f2 : y < N) (f3 : Cond.fieldLink own index (T y).1 (T y).2.1 (T y).2.2.1 ∈ Ts) (f4 : ∀ w ∈ u_ws C T N, w ∈ Ts) (f5 : ∀ k, k < N → parseFieldDescriptor (T k).2.2.1 = some (tyf k)) (f6 : ∀ a, a < N → ∀ b, b < N → a ≠ b → (T a).2.1 ≠ (T b).2.1) (f7 : am_tk (ft x y) (tyf y) = true)
    (f8 : (T y).2.2.2 = false ∨ ((T y).2.2.2 = true ∧ meth.name = "<init>" ∧ (T y).1 = own))
    (ha : a < h.1) (hk : (h.2.2 a).1 = 10 + x) (hy : y < (h.2.2 a).2.1) (hv : am_fok (ft x y) v = true) (k : am_G p l e R s m args below meth c Q D ca ft A n0 z0 ad0 nL (pc + 3, ls, st, am_wr h a y v)) : am_G p l e R s m args below meth c Q D ca ft A n0 z0 ad0 nL (pc, ls, v :: vR a :: st, h) := by
  intro ad H locs LS h1 h2 h3 h4 h5 h6 h7 h8 h9 h10 h11
  have hvk : am_vk h.1 v := h5 v (by simp)
  obtain ⟨g1, g2⟩ := am_fit (ad := ad) hvk hv f7
  have he : am_ce ad ca ((h.2.2 a).1, (h.2.2 a).2.1, am_up (h.2.2 a).2.2 y v) = .inr (x, ((List.range (h.2.2 a).2.1).map (fun j => am_cv ad ((h.2.2 a).2.2 j))).set y (am_cv ad v)) := (am_ce_obj (K := ((h.2.2 a).1, (h.2.2 a).2.1, am_up (h.2.2 a).2.2 y v)) hk).trans (congrArg (fun z => (Sum.inr (x, z) : va_E)) am_map_set)
  have hc : am_gd ft (am_wr h a y v) := am_gd_wr h4 (Or.inr ⟨by omega, fun i hi => by
    show am_vt h.1 (ft ((h.2.2 a).1 - 10) i) (am_up (h.2.2 a).2.2 y v i)
    rw [hk, Nat.add_sub_cancel_left]
    unfold am_up
    by_cases e : i = y
    · rw [if_pos e, e]
      exact ⟨hvk, hv⟩
    · rw [if_neg e]
      exact am_gd_fld h4 ha hk hi⟩)
  have hl : y < ((List.range (h.2.2 a).2.1).map (fun j => am_cv ad ((h.2.2 a).2.2 j))).length := by simpa using hy
  rcases f8 with f8 | ⟨f8, f9, f10⟩
  · exact va_put hx hb hts f4 tyf f5 f6 hown hK h7 h8 h9 a ((am_ws_at ha).trans (by rw [am_ce_obj hk])) f1 y f2 (hts _ f3) (fun _ q => q) f8 (f5 y f2) g1 g2 hl hdg (fun H1 locs1 hP hD hS => am_put_go (us := [v, vR a]) h1 h2 h3 h5 h6 h10 h11 ha hc he k hP hD hS)
  · exact va_putF hx hb hts f4 tyf f5 f6 hown hK h7 h8 h9 a ((am_ws_at ha).trans (by rw [am_ce_obj hk])) f1 y f2 (hts _ f3) (fun _ q => q) f8 f9 f10 (f5 y f2) g1 g2 hl hdg (fun H1 locs1 hP hD hS => am_put_go (us := [v, vR a]) h1 h2 h3 h5 h6 h10 h11 ha hc he k hP hD hS)
end SM
/-! Arrays. -/
section SM
variable {p : Program} {l : Launch} {e : Env} {R : Room} {s : State} {m : MethodId} {args : Array Value} {below : List Frame} {meth : Method} {c : Code} {Q : State → Prop} {D : va_G} {ca : Nat → ClassId} {ft : am_ft} {A : Nat → Prop} {n0 z0 : Nat} {ad0 : Nat → Nat} {nL : Nat} {cc : ByteArray}
theorem am_cv_I {ad : Nat → Nat} {v : am_V} {n k : Nat} (hk : k < 2) (h : am_vt n k v) : am_cv ad v = .int (am_toI v) := by
  obtain ⟨h1, h2⟩ := h
  rcases v with (x | x) | _ | _ | a
  · rfl
  · have : k = 2 := by simpa [am_fok] using h2
    omega
  · exact h1.elim
  · have : k = 3 := by simpa [am_fok] using h2
    omega
  · have : k = 3 := by simpa [am_fok] using h2
    omega
theorem am_cv_iald {ad : Nat → Nat} {v : am_V} {n : Nat} (h : am_vt n 0 v) : am_cv ad v = .int (am_toI v) := am_cv_I (by omega) h
theorem am_cv_zald {ad : Nat → Nat} {v : am_V} {n : Nat} (h : am_vt n 1 v) : am_cv ad v = .int (am_toI v) := am_cv_I (by omega) h
theorem am_cv_lald {ad : Nat → Nat} {v : am_V} {n : Nat} (h : am_vt n 2 v) : am_cv ad v = .long (am_toL v) := by
  obtain ⟨h1, h2⟩ := h
  rcases v with (x | x) | _ | _ | a
  · simp [am_fok] at h2
  · rfl
  · exact h1.elim
  · simp [am_fok] at h2
  · simp [am_fok] at h2
theorem am_cv_aald {ad : Nat → Nat} {v : am_V} {n : Nat} (h : am_vt n 3 v) : am_cv ad v = va_rf (am_toR ad v) := by
  obtain ⟨h1, h2⟩ := h
  rcases v with (x | x) | _ | _ | a
  · simp [am_fok] at h2
  · simp [am_fok] at h2
  · exact h1.elim
  · rfl
  · rfl
theorem am_nar {v : am_V} {n : Nat} (h1 : am_vk n v) (h2 : am_fok 1 v = true) : vp_nar .boolean (am_toI v) = am_toI v := by
  rcases v with (x | x) | _ | _ | a
  · have : x = 0 ∨ x = 1 := by simpa [am_fok] using h2
    rcases this with rfl | rfl
    · exact (by decide : vp_nar .boolean (Int32.ofInt 0) = Int32.ofInt 0)
    · exact (by decide : vp_nar .boolean (Int32.ofInt 1) = Int32.ofInt 1)
  · simp [am_fok] at h2
  · exact h1.elim
  · simp [am_fok] at h2
  · simp [am_fok] at h2
theorem sm_iald {pc a : Nat} {i : Int} {ls st : List am_V} {h : am_H} (hx : p.tables.exec = Jvm.exec) (hb : c.code = cc) (hK : va_K D vwCl (am_tys ca) s) (hdg : decode cc pc = .ok (.iaload, 1)) (ha : a < h.1) (hk : (h.2.2 a).1 = 0) (h0 : 0 ≤ i) (hi : i < ((h.2.2 a).2.1 : Int)) (k : am_G p l e R s m args below meth c Q D ca ft A n0 z0 ad0 nL (pc + 1, ls, (h.2.2 a).2.2 i.toNat :: st, h)) : am_G p l e R s m args below meth c Q D ca ft A n0 z0 ad0 nL (pc, ls, vI i :: vR a :: st, h) := by
  intro ad H locs LS h1 h2 h3 h4 h5 h6 h7 h8 h9 h10 h11
  have h4 : am_gd ft h := h4
  have hv := am_gd_arr h4 ha (by omega) i.toNat
  rw [hk] at hv
  obtain ⟨q1, q2⟩ := am_o_ix h0 hi (h5 (vI i) (by simp))
  refine va_iald hx hb hK h7 a 0 ((am_ws_at ha).trans (by rw [am_ce_i hk (by omega)])) (am_tys_at ca (k := 0) (by omega)) q1 hdg ?_
  rw [q2, show (Value.int <| am_toI ((h.2.2 a).2.2 i.toNat)) = am_cv ad ((h.2.2 a).2.2 i.toNat) from (am_cv_iald hv).symm]
  exact k ad H locs LS h1 h2 h3 h4 (fun w hw => (List.mem_cons.mp hw).elim (fun q => by rw [q]; exact hv.1) (fun q => h5 w (by simp [q]))) h6 h7 h8 h9 h10 h11
theorem sm_zald {pc a : Nat} {i : Int} {ls st : List am_V} {h : am_H} (hx : p.tables.exec = Jvm.exec) (hb : c.code = cc) (hK : va_K D vwCl (am_tys ca) s) (hdg : decode cc pc = .ok (.baload, 1)) (ha : a < h.1) (hk : (h.2.2 a).1 = 1) (h0 : 0 ≤ i) (hi : i < ((h.2.2 a).2.1 : Int)) (k : am_G p l e R s m args below meth c Q D ca ft A n0 z0 ad0 nL (pc + 1, ls, (h.2.2 a).2.2 i.toNat :: st, h)) : am_G p l e R s m args below meth c Q D ca ft A n0 z0 ad0 nL (pc, ls, vI i :: vR a :: st, h) := by
  intro ad H locs LS h1 h2 h3 h4 h5 h6 h7 h8 h9 h10 h11
  have h4 : am_gd ft h := h4
  have hv := am_gd_arr h4 ha (by omega) i.toNat
  rw [hk] at hv
  obtain ⟨q1, q2⟩ := am_o_ix h0 hi (h5 (vI i) (by simp))
  refine va_zald hx hb hK h7 a 1 ((am_ws_at ha).trans (by rw [am_ce_i hk (by omega)])) (am_tys_at ca (k := 1) (by omega)) q1 hdg ?_
  rw [q2, show (Value.int <| am_toI ((h.2.2 a).2.2 i.toNat)) = am_cv ad ((h.2.2 a).2.2 i.toNat) from (am_cv_zald hv).symm]
  exact k ad H locs LS h1 h2 h3 h4 (fun w hw => (List.mem_cons.mp hw).elim (fun q => by rw [q]; exact hv.1) (fun q => h5 w (by simp [q]))) h6 h7 h8 h9 h10 h11
theorem sm_lald {pc a : Nat} {i : Int} {ls st : List am_V} {h : am_H} (hx : p.tables.exec = Jvm.exec) (hb : c.code = cc) (hK : va_K D vwCl (am_tys ca) s) (hdg : decode cc pc = .ok (.laload, 1)) (ha : a < h.1) (hk : (h.2.2 a).1 = 2) (h0 : 0 ≤ i) (hi : i < ((h.2.2 a).2.1 : Int)) (k : am_G p l e R s m args below meth c Q D ca ft A n0 z0 ad0 nL (pc + 1, ls, (h.2.2 a).2.2 i.toNat :: st, h)) : am_G p l e R s m args below meth c Q D ca ft A n0 z0 ad0 nL (pc, ls, vI i :: vR a :: st, h) := by
  intro ad H locs LS h1 h2 h3 h4 h5 h6 h7 h8 h9 h10 h11
  have h4 : am_gd ft h := h4
  have hv := am_gd_arr h4 ha (by omega) i.toNat
  rw [hk] at hv
  obtain ⟨q1, q2⟩ := am_o_ix h0 hi (h5 (vI i) (by simp))
  refine va_lald hx hb hK h7 a 2 ((am_ws_at ha).trans (by rw [am_ce_l hk])) (am_tys_at ca (k := 2) (by omega)) q1 hdg ?_
  rw [q2, show (Value.long <| am_toL ((h.2.2 a).2.2 i.toNat)) = am_cv ad ((h.2.2 a).2.2 i.toNat) from (am_cv_lald hv).symm]
  exact k ad H locs LS h1 h2 h3 h4 (fun w hw => (List.mem_cons.mp hw).elim (fun q => by rw [q]; exact hv.1) (fun q => h5 w (by simp [q]))) h6 h7 h8 h9 h10 h11
theorem sm_iast {pc a : Nat} {i : Int} {ls st : List am_V} {h : am_H} {v : am_V} (hx : p.tables.exec = Jvm.exec) (hb : c.code = cc) (hK : va_K D vwCl (am_tys ca) s) (hdg : decode cc pc = .ok (.iastore, 1)) (ha : a < h.1) (hk : (h.2.2 a).1 = 0) (hf : am_fok 0 v = true) (h0 : 0 ≤ i) (hi : i < ((h.2.2 a).2.1 : Int)) (k : am_G p l e R s m args below meth c Q D ca ft A n0 z0 ad0 nL (pc + 1, ls, st, am_wr h a i.toNat v)) : am_G p l e R s m args below meth c Q D ca ft A n0 z0 ad0 nL (pc, ls, v :: vI i :: vR a :: st, h) := by
  intro ad H locs LS h1 h2 h3 h4 h5 h6 h7 h8 h9 h10 h11
  have h4 : am_gd ft h := h4
  have hvk : am_vk h.1 v := h5 v (by simp)
  obtain ⟨q1, q2⟩ := am_o_ix h0 hi (h5 (vI i) (by simp))
  have hc : am_gd ft (am_wr h a i.toNat v) := am_gd_wr h4 (by
    rcases h4 a ha with q | q
    · refine Or.inl ⟨q.1, q.2.1, fun j => ?_⟩
      show am_vt h.1 (am_ek (h.2.2 a).1) (am_up (h.2.2 a).2.2 i.toNat v j)
      unfold am_up
      by_cases e : j = i.toNat
      · rw [if_pos e, hk]
        exact ⟨hvk, hf⟩
      · rw [if_neg e]
        exact q.2.2 j
    · omega)
  have he : am_ce ad ca ((h.2.2 a).1, (h.2.2 a).2.1, am_up (h.2.2 a).2.2 i.toNat v) = .inl (ca 0, (h.2.2 a).2.1, .inl (upd (fun j => am_toI ((h.2.2 a).2.2 j)) i.toNat (am_toI v))) := by
    rw [am_ce_i (K := ((h.2.2 a).1, (h.2.2 a).2.1, am_up (h.2.2 a).2.2 i.toNat v)) hk (by omega)]
    refine congrArg (fun z => (Sum.inl (ca 0, (h.2.2 a).2.1, .inl z) : va_E)) (funext fun j => ?_)
    show am_toI (am_up _ _ _ j) = upd _ _ _ j
    unfold am_up upd
    by_cases e : j = i.toNat
    · rw [if_pos e, if_pos e]
    · rw [if_neg e, if_neg e]
  rw [show ((v :: vI i :: vR a :: st).map (am_cv ad)) = .int (am_toI v) :: .int (Int32.ofInt i) :: .ref (ad a) :: st.map (am_cv ad) by rw [List.map_cons, am_cv_iald ⟨hvk, hf⟩]; rfl]
  refine va_iast hx hb hK h7 h8 h9 a 0 ((am_ws_at ha).trans (by rw [am_ce_i hk (by omega)])) (am_tys_at ca (k := 0) (by omega)) q1 hdg (fun H1 locs1 hP hD hS => ?_)
  rw [q2] at hP hD
  exact am_put_go (us := [v, vI i, vR a]) h1 h2 h3 h5 h6 h10 h11 ha hc he k hP hD hS
theorem sm_zast {pc a : Nat} {i : Int} {ls st : List am_V} {h : am_H} {v : am_V} (hx : p.tables.exec = Jvm.exec) (hb : c.code = cc) (hK : va_K D vwCl (am_tys ca) s) (hdg : decode cc pc = .ok (.bastore, 1)) (ha : a < h.1) (hk : (h.2.2 a).1 = 1) (hf : am_fok 1 v = true) (h0 : 0 ≤ i) (hi : i < ((h.2.2 a).2.1 : Int)) (k : am_G p l e R s m args below meth c Q D ca ft A n0 z0 ad0 nL (pc + 1, ls, st, am_wr h a i.toNat v)) : am_G p l e R s m args below meth c Q D ca ft A n0 z0 ad0 nL (pc, ls, v :: vI i :: vR a :: st, h) := by
  intro ad H locs LS h1 h2 h3 h4 h5 h6 h7 h8 h9 h10 h11
  have h4 : am_gd ft h := h4
  have hvk : am_vk h.1 v := h5 v (by simp)
  obtain ⟨q1, q2⟩ := am_o_ix h0 hi (h5 (vI i) (by simp))
  have hc : am_gd ft (am_wr h a i.toNat v) := am_gd_wr h4 (by
    rcases h4 a ha with q | q
    · refine Or.inl ⟨q.1, q.2.1, fun j => ?_⟩
      show am_vt h.1 (am_ek (h.2.2 a).1) (am_up (h.2.2 a).2.2 i.toNat v j)
      unfold am_up
      by_cases e : j = i.toNat
      · rw [if_pos e, hk]
        exact ⟨hvk, hf⟩
      · rw [if_neg e]
        exact q.2.2 j
    · omega)
  have he : am_ce ad ca ((h.2.2 a).1, (h.2.2 a).2.1, am_up (h.2.2 a).2.2 i.toNat v) = .inl (ca 1, (h.2.2 a).2.1, .inl (upd (fun j => am_toI ((h.2.2 a).2.2 j)) i.toNat (am_toI v))) := by
    rw [am_ce_i (K := ((h.2.2 a).1, (h.2.2 a).2.1, am_up (h.2.2 a).2.2 i.toNat v)) hk (by omega)]
    refine congrArg (fun z => (Sum.inl (ca 1, (h.2.2 a).2.1, .inl z) : va_E)) (funext fun j => ?_)
    show am_toI (am_up _ _ _ j) = upd _ _ _ j
    unfold am_up upd
    by_cases e : j = i.toNat
    · rw [if_pos e, if_pos e]
    · rw [if_neg e, if_neg e]
  rw [show ((v :: vI i :: vR a :: st).map (am_cv ad)) = .int (am_toI v) :: .int (Int32.ofInt i) :: .ref (ad a) :: st.map (am_cv ad) by rw [List.map_cons, am_cv_zald ⟨hvk, hf⟩]; rfl]
  refine va_zast hx hb hK h7 h8 h9 a 1 ((am_ws_at ha).trans (by rw [am_ce_i hk (by omega)])) (am_tys_at ca (k := 1) (by omega)) q1 hdg (fun H1 locs1 hP hD hS => ?_)
  rw [q2, am_nar hvk hf] at hP hD
  exact am_put_go (us := [v, vI i, vR a]) h1 h2 h3 h5 h6 h10 h11 ha hc he k hP hD hS
theorem sm_last {pc a : Nat} {i : Int} {ls st : List am_V} {h : am_H} {v : am_V} (hx : p.tables.exec = Jvm.exec) (hb : c.code = cc) (hK : va_K D vwCl (am_tys ca) s) (hdg : decode cc pc = .ok (.lastore, 1)) (ha : a < h.1) (hk : (h.2.2 a).1 = 2) (hf : am_fok 2 v = true) (h0 : 0 ≤ i) (hi : i < ((h.2.2 a).2.1 : Int)) (k : am_G p l e R s m args below meth c Q D ca ft A n0 z0 ad0 nL (pc + 1, ls, st, am_wr h a i.toNat v)) : am_G p l e R s m args below meth c Q D ca ft A n0 z0 ad0 nL (pc, ls, v :: vI i :: vR a :: st, h) := by
  intro ad H locs LS h1 h2 h3 h4 h5 h6 h7 h8 h9 h10 h11
  have h4 : am_gd ft h := h4
  have hvk : am_vk h.1 v := h5 v (by simp)
  obtain ⟨q1, q2⟩ := am_o_ix h0 hi (h5 (vI i) (by simp))
  have hc : am_gd ft (am_wr h a i.toNat v) := am_gd_wr h4 (by
    rcases h4 a ha with q | q
    · refine Or.inl ⟨q.1, q.2.1, fun j => ?_⟩
      show am_vt h.1 (am_ek (h.2.2 a).1) (am_up (h.2.2 a).2.2 i.toNat v j)
      unfold am_up
      by_cases e : j = i.toNat
      · rw [if_pos e, hk]
        exact ⟨hvk, hf⟩
      · rw [if_neg e]
        exact q.2.2 j
    · omega)
  have he : am_ce ad ca ((h.2.2 a).1, (h.2.2 a).2.1, am_up (h.2.2 a).2.2 i.toNat v) = .inl (ca 2, (h.2.2 a).2.1, .inr <| .inl (vp_updL (fun j => am_toL ((h.2.2 a).2.2 j)) i.toNat (am_toL v))) := by
    rw [am_ce_l (K := ((h.2.2 a).1, (h.2.2 a).2.1, am_up (h.2.2 a).2.2 i.toNat v)) hk]
    refine congrArg (fun z => (Sum.inl (ca 2, (h.2.2 a).2.1, .inr <| .inl z) : va_E)) (funext fun j => ?_)
    show am_toL (am_up _ _ _ j) = vp_updL _ _ _ j
    unfold am_up vp_updL
    by_cases e : j = i.toNat
    · rw [if_pos e, if_pos e]
    · rw [if_neg e, if_neg e]
  rw [show ((v :: vI i :: vR a :: st).map (am_cv ad)) = .long (am_toL v) :: .int (Int32.ofInt i) :: .ref (ad a) :: st.map (am_cv ad) by rw [List.map_cons, am_cv_lald ⟨hvk, hf⟩]; rfl]
  refine va_last hx hb hK h7 h8 h9 a 2 ((am_ws_at ha).trans (by rw [am_ce_l hk])) (am_tys_at ca (k := 2) (by omega)) q1 hdg (fun H1 locs1 hP hD hS => ?_)
  rw [q2] at hP hD
  exact am_put_go (us := [v, vI i, vR a]) h1 h2 h3 h5 h6 h10 h11 ha hc he k hP hD hS
theorem am_ek_q {k : Nat} (h : 3 ≤ k) : am_ek k = 3 := by
  unfold am_ek
  split <;> omega
theorem sm_aald {pc a : Nat} {i : Int} {ls st : List am_V} {h : am_H} (hx : p.tables.exec = Jvm.exec) (hb : c.code = cc) (hK : va_K D vwCl (am_tys ca) s) (hdg : decode cc pc = .ok (.aaload, 1)) (ha : a < h.1) (hk : 3 ≤ (h.2.2 a).1) (hk7 : (h.2.2 a).1 < 7) (h0 : 0 ≤ i) (hi : i < ((h.2.2 a).2.1 : Int)) (k : am_G p l e R s m args below meth c Q D ca ft A n0 z0 ad0 nL (pc + 1, ls, (h.2.2 a).2.2 i.toNat :: st, h)) : am_G p l e R s m args below meth c Q D ca ft A n0 z0 ad0 nL (pc, ls, vI i :: vR a :: st, h) := by
  intro ad H locs LS h1 h2 h3 h4 h5 h6 h7 h8 h9 h10 h11
  have h4 : am_gd ft h := h4
  have hv := am_gd_arr h4 ha hk7 i.toNat
  rw [am_ek_q hk] at hv
  obtain ⟨q1, q2⟩ := am_o_ix h0 hi (h5 (vI i) (by simp))
  have hlt : (Int32.ofInt i).toNatClampNeg < (h.2.2 a).2.1 := Nat.not_le.mp fun q => q1 (Or.inr q)
  have hw : (am_ws ad ca h)[a]? = some (ad a, .inl (ca (h.2.2 a).1, (h.2.2 a).2.1, .inr (.inr (.inr (.inr (fun j => am_toR ad ((h.2.2 a).2.2 j))))))) := (am_ws_at ha).trans (by rw [am_ce_q hk hk7])
  have ht := am_tys_at ca (k := (h.2.2 a).1) hk7
  refine W.aald (v := va_rf (am_toR ad ((h.2.2 a).2.2 (Int32.ofInt i).toNatClampNeg))) (ty := am_ty (h.2.2 a).1) hx hb (h7 a _ hw) ((hK.2 (h.2.2 a).1 _ ht).1 (h.2.2 a).2.1 (fun j => va_rf (am_toR ad ((h.2.2 a).2.2 j)))) (by
    unfold am_ty
    split <;> first | rfl | omega) (fun q => by cases q) (by show ¬ (Int32.ofInt i < 0 ∨ (arrV _ _ _).slots.size ≤ _); rw [arrV_size]; exact q1) (by show (arrV _ _ _).slots[_]? = _; rw [arrV_read _ _ hlt]) rfl rfl hdg ?_
  rw [q2, ← am_cv_aald hv]
  exact k ad H locs LS h1 h2 h3 h4 (fun w hw => (List.mem_cons.mp hw).elim (fun q => by rw [q]; exact hv.1) (fun q => h5 w (by simp [q]))) h6 h7 h8 h9 h10 h11
theorem sm_aast {pc a b ci : Nat} {r : vw_C} {i : Int} {ls st : List am_V} {h : am_H} (hx : p.tables.exec = Jvm.exec) (hb : c.code = cc) (hK : va_K D vwCl (am_tys ca) s) (hdg : decode cc pc = .ok (.aastore, 1)) (ha : a < h.1) (hb2 : b < h.1) (hk : 3 ≤ (h.2.2 a).1) (hk7 : (h.2.2 a).1 < 7) (hr : vwCl[ci]? = some r) (hty : am_ty (h.2.2 a).1 = .object r.1) (hkb : (h.2.2 b).1 = 10 + ci) (h0 : 0 ≤ i) (hi : i < ((h.2.2 a).2.1 : Int)) (k : am_G p l e R s m args below meth c Q D ca ft A n0 z0 ad0 nL (pc + 1, ls, st, am_wr h a i.toNat (vR b))) : am_G p l e R s m args below meth c Q D ca ft A n0 z0 ad0 nL (pc, ls, vR b :: vI i :: vR a :: st, h) := by
  intro ad H locs LS h1 h2 h3 h4 h5 h6 h7 h8 h9 h10 h11
  have h4 : am_gd ft h := h4
  obtain ⟨q1, q2⟩ := am_o_ix h0 hi (h5 (vI i) (by simp))
  have hc : am_gd ft (am_wr h a i.toNat (vR b)) := am_gd_wr h4 (by
    rcases h4 a ha with q | q
    · refine Or.inl ⟨q.1, q.2.1, fun j => ?_⟩
      show am_vt h.1 (am_ek (h.2.2 a).1) (am_up (h.2.2 a).2.2 i.toNat (vR b) j)
      unfold am_up
      by_cases e : j = i.toNat
      · rw [if_pos e, am_ek_q hk]
        exact ⟨hb2, rfl⟩
      · rw [if_neg e]
        exact q.2.2 j
    · omega)
  have he : am_ce ad ca ((h.2.2 a).1, (h.2.2 a).2.1, am_up (h.2.2 a).2.2 i.toNat (vR b)) = .inl (ca (h.2.2 a).1, (h.2.2 a).2.1, .inr (.inr (.inr (.inr (va_up (fun j => am_toR ad ((h.2.2 a).2.2 j)) i.toNat (some (ad b))))))) := by
    rw [am_ce_q (K := ((h.2.2 a).1, (h.2.2 a).2.1, am_up (h.2.2 a).2.2 i.toNat (vR b))) hk hk7]
    refine congrArg (fun z => (Sum.inl (ca (h.2.2 a).1, (h.2.2 a).2.1, .inr (.inr (.inr (.inr z)))) : va_E)) (funext fun j => ?_)
    show am_toR ad (am_up _ _ _ j) = va_up _ _ _ j
    unfold am_up va_up
    by_cases e : j = i.toNat
    · rw [if_pos e, if_pos e]
      rfl
    · rw [if_neg e, if_neg e]
  have hw : (am_ws ad ca h)[a]? = some (ad a, .inl (ca (h.2.2 a).1, (h.2.2 a).2.1, .inr (.inr (.inr (.inr (fun j => am_toR ad ((h.2.2 a).2.2 j))))))) := (am_ws_at ha).trans (by rw [am_ce_q hk hk7])
  have ht := am_tys_at ca (k := (h.2.2 a).1) hk7
  rw [hty] at ht
  refine va_astq hx hb hK h7 h8 h9 a (h.2.2 a).1 b ci hw ht ((am_ws_at hb2).trans (by rw [am_ce_obj hkb])) hr q1 hdg (fun H1 locs1 hP hD hS => ?_)
  rw [q2] at hP hD
  exact am_put_go (us := [vR b, vI i, vR a]) h1 h2 h3 h5 h6 h10 h11 ha hc he k hP hD hS
theorem sm_len {pc a : Nat} {ls st : List am_V} {h : am_H} (hx : p.tables.exec = Jvm.exec) (hb : c.code = cc) (hK : va_K D vwCl (am_tys ca) s) (hdg : decode cc pc = .ok (.arraylength, 1)) (ha : a < h.1) (hk7 : (h.2.2 a).1 < 7) (k : am_G p l e R s m args below meth c Q D ca ft A n0 z0 ad0 nL (pc + 1, ls, vI ((h.2.2 a).2.1 : Int) :: st, h)) : am_G p l e R s m args below meth c Q D ca ft A n0 z0 ad0 nL (pc, ls, vR a :: st, h) := by
  intro ad H locs LS h1 h2 h3 h4 h5 h6 h7 h8 h9 h10 h11
  have h4 : am_gd ft h := h4
  have hn : (h.2.2 a).2.1 ≤ 1024 := by
    rcases h4 a ha with q | q
    · exact q.2.1
    · omega
  have hr : am_r32 ((h.2.2 a).2.1 : Int) := by unfold am_r32; omega
  have ht := am_tys_at ca (k := (h.2.2 a).1) hk7
  have K := k ad H locs LS h1 h2 h3 h4 (fun w hw => (List.mem_cons.mp hw).elim (fun q => by rw [q]; exact hr) (fun q => h5 w (by simp [q]))) h6 h7 h8 h9 h10 h11
  have e : Int32.ofNat (h.2.2 a).2.1 = Int32.ofInt ((h.2.2 a).2.1 : Int) := Int32.toInt_inj.mp (by rw [am_tI hr]; exact nI_toInt (by omega))
  have hw := am_ws_at (ad := ad) (ca := ca) ha
  by_cases q1 : (h.2.2 a).1 < 2
  · rw [am_ce_i rfl q1] at hw
    exact va_alen hx hb hK h7 a (h.2.2 a).1 hw ht e hdg K
  · by_cases q2 : (h.2.2 a).1 = 2
    · rw [am_ce_l q2] at hw
      rw [q2] at ht
      exact va_alen hx hb hK h7 a 2 hw ht e hdg K
    · rw [am_ce_q (by omega) hk7] at hw
      exact va_alen hx hb hK h7 a (h.2.2 a).1 hw ht e hdg K
end SM
/-! New cells; copies. -/
section SM
variable {p : Program} {l : Launch} {e : Env} {R : Room} {s : State} {m : MethodId} {args : Array Value} {below : List Frame} {meth : Method} {c : Code} {Q : State → Prop} {D : va_G} {ca : Nat → ClassId} {ft : am_ft} {A : Nat → Prop} {n0 z0 : Nat} {ad0 : Nat → Nat} {nL : Nat} {cc : ByteArray}
theorem am_LR.cg {ad ad2 : Nat → Nat} {n : Nat} {ls : List am_V} {LS : Array Slot} (h : am_LR ad ls LS) (hh : ∀ k, k < n → ad2 k = ad k) (hl : ∀ v ∈ ls, v = vU ∨ am_vk n v) : am_LR ad2 ls LS := by
  refine ⟨h.1, h.2.1, fun q hq => ?_⟩
  obtain ⟨v, h1, h2, h3⟩ := am_lvl_mem.mp hq
  have hv : am_vk n v := (hl v (List.mem_of_getElem? h1)).elim (fun z => absurd z h2) (fun z => z)
  exact h.2.2 q (am_lvl_mem.mpr ⟨v, h1, h2, by rw [h3, am_cv_cg hh hv]⟩)
theorem am_st_cg {ad ad2 : Nat → Nat} {n : Nat} {st : List am_V} (hh : ∀ k, k < n → ad2 k = ad k) (hl : ∀ v ∈ st, am_vk n v) : st.map (am_cv ad2) = st.map (am_cv ad) := List.map_congr_left fun v hv => am_cv_cg hh (hl v hv)
theorem am_up_lt {ad : Nat → Nat} {n q : Nat} : ∀ k, k < n → am_up ad n q k = ad k := fun k hk => by simp [am_up, Nat.ne_of_lt hk]
/-- behind a new cell -/
theorem am_new_go {pc2 q kd n : Nat} {ls st us : List am_V} {h : am_H} {f : Nat → am_V} {ad : Nat → Nat} {H : Heap} {locs : List Loc} {LS : Array Slot} {e1 : va_E} (h1 : ∀ k, k < n0 → ad k = ad0 k) (h2 : n0 ≤ h.1) (h3 : z0 ≤ h.2.1) (h4 : am_gd ft h) (h5 : ∀ w ∈ us ++ st, am_vk h.1 w) (h6 : ∀ w ∈ ls, w = vU ∨ am_vk h.1 w) (h10 : am_LR ad ls LS) (h11 : ls.length = nL) (hc : am_ckd ft (h.1 + 1) (kd, n, f))
    (he : am_ce (am_up ad h.1 q) ca (kd, n, f) = e1) (k : am_G p l e R s m args below meth c Q D ca ft A n0 z0 ad0 nL (pc2, ls, vR h.1 :: st, am_mk h kd n f))
    (hP : va_P D vwCl (am_ws ad ca h ++ [(q, e1)]) H) (hD : va_D A (am_ws ad ca h ++ [(q, e1)])) (hS : va_S A s.heap H locs) : W p l e R s m args below meth c H locs (h.1 - n0 + 1) (h.2.1 - z0 + n) Q (F0 m pc2 LS (.ref q :: st.map (am_cv ad))) := by
  have e : am_ws (am_up ad h.1 q) ca (am_mk h kd n f) = am_ws ad ca h ++ [(q, e1)] := by
    rw [← he]
    exact am_ws_push h4
  rw [← e] at hP hD
  have hlt : ∀ k, k < h.1 → am_up ad h.1 q k = ad k := am_up_lt
  have hs5 : ∀ w ∈ st, am_vk h.1 w := fun w hw => h5 w (List.mem_append_right _ hw)
  have K := k (am_up ad h.1 q) H locs LS (fun j hj => (hlt j (by omega)).trans (h1 j hj)) (show n0 ≤ h.1 + 1 by omega) (show z0 ≤ h.2.1 + n by omega) (fun j hj => by
      show am_ckd ft (h.1 + 1) (am_up h.2.2 h.1 (kd, n, f) j)
      have hj : j < h.1 + 1 := hj
      unfold am_up
      by_cases e9 : j = h.1
      · rw [if_pos e9]
        exact hc
      · rw [if_neg e9]
        exact (h4 j (by omega)).mono (Nat.le_succ _))
    (fun w hw => (List.mem_cons.mp hw).elim (fun z => by rw [z]; exact Nat.lt_succ_self _) (fun z => (hs5 w z).mono (Nat.le_succ _)))
    (fun w hw => (h6 w hw).elim Or.inl (fun z => Or.inr (z.mono (Nat.le_succ _)))) hP hD hS (h10.cg hlt h6) h11
  have e2 : (vR h.1 :: st).map (am_cv (am_up ad h.1 q)) = .ref q :: st.map (am_cv ad) := by
    rw [List.map_cons, am_st_cg hlt hs5]
    show Value.ref (am_up ad h.1 q h.1) :: _ = _
    simp [am_up]
  exact W.cs (show h.1 - n0 + 1 = h.1 + 1 - n0 by omega) (show h.2.1 - z0 + n = h.2.1 + n - z0 by omega) (by rw [← e2]; exact K)
theorem am_dv_ok {n k : Nat} {ty : FieldType} (h : am_tk k ty = true) : am_vt n k (am_dv k) ∧ ∀ ad, defaultValue ty = am_cv ad (am_dv k) := by
  unfold am_tk at h
  split at h
  · exact ⟨⟨am_0r, rfl⟩, fun _ => rfl⟩
  · exact ⟨⟨am_0r, rfl⟩, fun _ => rfl⟩
  · exact ⟨⟨am_0l, rfl⟩, fun _ => rfl⟩
  · exact ⟨⟨trivial, rfl⟩, fun _ => rfl⟩
  · exact ⟨⟨trivial, rfl⟩, fun _ => rfl⟩
  · cases h
theorem sm_new {own : String} {Ts : List Cond} {pc index x : Nat} {ls st : List am_V} {h : am_H} {C : String} {T : u_T} {N : Nat} (tyf : Nat → FieldType) (hx : p.tables.exec = Jvm.exec) (hb : c.code = cc) (hown : s.vm.findClass own = some m.cls) (hts : ∀ w ∈ Ts, w.before args s = true) (hK : va_K D vwCl (am_tys ca) s) (hA : ∀ q, s.heap.size ≤ q → A q) (hdg : decode cc pc = .ok (.new index, 3))
    (f1 : vwCl[x]? = some (C, T, N)) (f4 : ∀ w ∈ u_ws C T N, w ∈ Ts) (f5 : ∀ k, k < N → parseFieldDescriptor (T k).2.2.1 = some (tyf k)) (f7 : ∀ k, k < N → am_tk (ft x k) (tyf k) = true) (f8 : Cond.classLink own index C ∈ Ts) (f9 : Cond.instantiable C N ∈ Ts) (f10 : Cond.initialized C ∈ Ts)
    (hrc : h.1 + 1 - n0 ≤ R.cells) (hrs : h.2.1 + N - z0 ≤ R.slots) (k : am_G p l e R s m args below meth c Q D ca ft A n0 z0 ad0 nL (pc + 3, ls, vR h.1 :: st, am_mk h (10 + x) N (fun j => am_dv (ft x j)))) : am_G p l e R s m args below meth c Q D ca ft A n0 z0 ad0 nL (pc, ls, st, h) := by
  intro ad H locs LS h1 h2 h3 h4 h5 h6 h7 h8 h9 h10 h11
  have h4 : am_gd ft h := h4
  have h2 : n0 ≤ h.1 := h2
  have h3 : z0 ≤ h.2.1 := h3
  refine va_new (fs := (List.range N).map (fun j => am_cv ad (am_dv (ft x j)))) hx hb hts f4 tyf f5 hown (hts _ f8) (hts _ f9) (hts _ f10) hK h7 h8 h9 hA f1 (fun j hj => ?_) (show h.1 - n0 + 1 ≤ R.cells by omega) (show h.2.1 - z0 + N ≤ R.slots by omega) hdg (fun q H1 hP hD hS => ?_)
  · rw [(am_dv_ok (n := 0) (f7 j hj)).2 ad]
    unfold vp_V
    simp [hj]
  · refine am_new_go (us := []) (kd := 10 + x) (n := N) (f := fun j => am_dv (ft x j)) h1 h2 h3 h4 h5 h6 h10 h11 (Or.inr ⟨Nat.le_add_right _ _, fun i hi => ?_⟩) ?_ k hP hD hS
    · show am_vt _ (ft (10 + x - 10) i) (am_dv (ft x i))
      rw [Nat.add_sub_cancel_left]
      exact (am_dv_ok (f7 i hi)).1
    · rw [am_ce_obj (K := (10 + x, N, fun j => am_dv (ft x j))) rfl]
      refine congrArg (fun z => (Sum.inr (x, z) : va_E)) (List.map_congr_left fun j hj => ?_)
      have hj := List.mem_range.mp hj
      rw [← (am_dv_ok (n := 0) (f7 j hj)).2 ad, ← (am_dv_ok (n := 0) (f7 j hj)).2 (am_up ad h.1 q)]
theorem am_ca_eq {ty : FieldType} {k : Nat} {cA : ClassId} (hk : k < 3) (hty : am_ty k = ty) (hK : va_K D vwCl (am_tys ca) s) (h : va_RA s cA ty) : cA = ca k := by
  have h2 := (hK.2 k _ (am_tys_at ca (k := k) (by omega))).2
  rw [hty] at h2
  subst hty
  rcases (show k = 0 ∨ k = 1 ∨ k = 2 by omega) with rfl | rfl | rfl <;> exact Option.some.inj (Eq.trans (Eq.symm h) h2)
theorem sm_newa {Ts : List Cond} {pc kd : Nat} {n : Int} {at9 : ArrayType} {ls st : List am_V} {h : am_H} (hx : p.tables.exec = Jvm.exec) (hb : c.code = cc) (hts : ∀ w ∈ Ts, w.before args s = true) (hK : va_K D vwCl (am_tys ca) s) (hA : ∀ q, s.heap.size ≤ q → A q) (hdg : decode cc pc = .ok (.newarray at9, 2))
    (hkd : kd < 3) (hty : newarray.typeOf at9 = am_ty kd) (f8 : Cond.arrayClass (newarray.typeOf at9) ∈ Ts) (hn0 : 0 ≤ n) (hn : n ≤ 1024)
    (hrc : h.1 + 1 - n0 ≤ R.cells) (hrs : h.2.1 + n.toNat - z0 ≤ R.slots) (k : am_G p l e R s m args below meth c Q D ca ft A n0 z0 ad0 nL (pc + 2, ls, vR h.1 :: st, am_mk h kd n.toNat (fun _ => am_dv kd))) : am_G p l e R s m args below meth c Q D ca ft A n0 z0 ad0 nL (pc, ls, vI n :: st, h) := by
  intro ad H locs LS h1 h2 h3 h4 h5 h6 h7 h8 h9 h10 h11
  have h4 : am_gd ft h := h4
  have h2 : n0 ≤ h.1 := h2
  have h3 : z0 ≤ h.2.1 := h3
  have hr : am_r32 n := h5 (vI n) (by simp)
  have hneg : ¬ Int32.ofInt n < 0 := fun q => by
    have := (am_o_lt hr am_0r).mp q
    omega
  have hN : (Int32.ofInt n).toNatClampNeg = n.toNat := by
    show (Int32.ofInt n).toInt.toNat = n.toNat
    rw [am_tI hr]
  have hck : am_ckd ft (h.1 + 1) (kd, n.toNat, fun _ => am_dv kd) := Or.inl ⟨show kd < 7 by omega, show n.toNat ≤ 1024 by omega, fun i => by
    rcases (show kd = 0 ∨ kd = 1 ∨ kd = 2 by omega) with rfl | rfl | rfl
    · exact ⟨am_0r, rfl⟩
    · exact ⟨am_0r, rfl⟩
    · exact ⟨am_0l, rfl⟩⟩
  rcases (show kd = 0 ∨ kd = 1 ∨ kd = 2 by omega) with rfl | rfl | rfl
  · refine va_newa (a0 := (n.toNat, .inl (fun _ => 0))) hx hb (hts _ f8) hty hK h7 h8 h9 hA (fun _ => rfl) hneg hN (by show n.toNat * 4 ≤ 536870912; omega) (show h.1 - n0 + 1 ≤ R.cells by omega) (show h.2.1 - z0 + n.toNat ≤ R.slots by omega) hdg (fun q cA H1 hK1 hP hD hS => ?_)
    have e := am_ca_eq (k := 0) (cA := cA) (by omega) rfl hK (hK1.2 7 _ rfl).2
    subst e
    exact am_new_go (us := [vI n]) h1 h2 h3 h4 h5 h6 h10 h11 hck (am_ce_i (K := (0, n.toNat, fun _ => vI 0)) rfl (by omega)) k hP hD hS
  · refine va_newa (a0 := (n.toNat, .inl (fun _ => 0))) hx hb (hts _ f8) hty hK h7 h8 h9 hA (fun _ => rfl) hneg hN (by show n.toNat * 1 ≤ 536870912; omega) (show h.1 - n0 + 1 ≤ R.cells by omega) (show h.2.1 - z0 + n.toNat ≤ R.slots by omega) hdg (fun q cA H1 hK1 hP hD hS => ?_)
    have e := am_ca_eq (k := 1) (cA := cA) (by omega) rfl hK (hK1.2 7 _ rfl).2
    subst e
    exact am_new_go (us := [vI n]) h1 h2 h3 h4 h5 h6 h10 h11 hck (am_ce_i (K := (1, n.toNat, fun _ => vI 0)) rfl (by omega)) k hP hD hS
  · refine va_newa (a0 := (n.toNat, .inr (.inl (fun _ => 0)))) hx hb (hts _ f8) hty hK h7 h8 h9 hA (fun _ => rfl) hneg hN (by show n.toNat * 8 ≤ 536870912; omega) (show h.1 - n0 + 1 ≤ R.cells by omega) (show h.2.1 - z0 + n.toNat ≤ R.slots by omega) hdg (fun q cA H1 hK1 hP hD hS => ?_)
    have e := am_ca_eq (k := 2) (cA := cA) (by omega) rfl hK (hK1.2 7 _ rfl).2
    subst e
    exact am_new_go (us := [vI n]) h1 h2 h3 h4 h5 h6 h10 h11 hck (am_ce_l (K := (2, n.toNat, fun _ => vL 0)) rfl) k hP hD hS
theorem sm_newq {own C : String} {Ts : List Cond} {pc index kd : Nat} {n : Int} {ls st : List am_V} {h : am_H} (hx : p.tables.exec = Jvm.exec) (hb : c.code = cc) (hown : s.vm.findClass own = some m.cls) (hts : ∀ w ∈ Ts, w.before args s = true) (hK : va_K D vwCl (am_tys ca) s) (hA : ∀ q, s.heap.size ≤ q → A q) (hdg : decode cc pc = .ok (.anewarray index, 3))
    (hkd : 4 ≤ kd) (hk7 : kd < 7) (hty : am_ty kd = .object C) (f8 : Cond.classLink own index C ∈ Ts) (f9 : va_AO C s) (hn0 : 0 ≤ n) (hn : n ≤ 1024)
    (hrc : h.1 + 1 - n0 ≤ R.cells) (hrs : h.2.1 + n.toNat - z0 ≤ R.slots) (k : am_G p l e R s m args below meth c Q D ca ft A n0 z0 ad0 nL (pc + 3, ls, vR h.1 :: st, am_mk h kd n.toNat (fun _ => am_dv kd))) : am_G p l e R s m args below meth c Q D ca ft A n0 z0 ad0 nL (pc, ls, vI n :: st, h) := by
  intro ad H locs LS h1 h2 h3 h4 h5 h6 h7 h8 h9 h10 h11
  have h4 : am_gd ft h := h4
  have h2 : n0 ≤ h.1 := h2
  have h3 : z0 ≤ h.2.1 := h3
  have hr : am_r32 n := h5 (vI n) (by simp)
  have hneg : ¬ Int32.ofInt n < 0 := fun q => by
    have := (am_o_lt hr am_0r).mp q
    omega
  have hN : (Int32.ofInt n).toNatClampNeg = n.toNat := by
    show (Int32.ofInt n).toInt.toNat = n.toNat
    rw [am_tI hr]
  have hdv : am_dv kd = vN := by
    rcases (show kd = 4 ∨ kd = 5 ∨ kd = 6 by omega) with rfl | rfl | rfl <;> rfl
  refine va_newq hx hb hown (hts _ f8) f9 hK h7 h8 h9 hA hneg hN (by omega) (show h.1 - n0 + 1 ≤ R.cells by omega) (show h.2.1 - z0 + n.toNat ≤ R.slots by omega) hdg (fun q cA H1 hK1 hP hD hS => ?_)
  have e : cA = ca kd := by
    have g1 := (hK1.2 7 (cA, .object C) rfl).2
    have g2 := (hK.2 kd _ (am_tys_at ca hk7)).2
    rw [hty] at g2
    obtain ⟨_, _, _, _, _, g3⟩ := g1
    obtain ⟨_, _, _, _, _, g4⟩ := g2
    exact Option.some.inj (g3.symm.trans g4)
  subst e
  refine am_new_go (us := [vI n]) h1 h2 h3 h4 h5 h6 h10 h11 (Or.inl ⟨hk7, show n.toNat ≤ 1024 by omega, fun i => ?_⟩) ?_ k hP hD hS
  · show am_vt _ (am_ek kd) (am_dv kd)
    rw [am_ek_q (by omega), hdv]
    exact ⟨trivial, rfl⟩
  · rw [am_ce_q (K := (kd, n.toNat, fun _ => am_dv kd)) (by show 3 ≤ kd; omega) hk7, hdv]
    rfl
theorem am_cpy_i {f g : Nat → am_V} {sp dp n : Nat} : (fun j => am_toI (am_cpy f g sp dp n j)) = va_cpy (fun j => am_toI (f j)) (fun j => am_toI (g j)) sp dp n := by
  funext j
  unfold am_cpy va_cpy
  split <;> rfl
theorem am_cpy_l {f g : Nat → am_V} {sp dp n : Nat} : (fun j => am_toL (am_cpy f g sp dp n j)) = va_cpy (fun j => am_toL (f j)) (fun j => am_toL (g j)) sp dp n := by
  funext j
  unfold am_cpy va_cpy
  split <;> rfl
theorem sm_copy {own : String} {Ts : List Cond} {pc index a b : Nat} {n sp dp : Int} {ls : List am_V} {h : am_H} (hx : p.tables.exec = Jvm.exec) (hb : c.code = cc) (hml : c.maxLocals = nL) (hown : s.vm.findClass own = some m.cls) (hts : ∀ w ∈ Ts, w.before args s = true) (hK : va_K D vwCl (am_tys ca) s) (hdg : decode cc pc = .ok (.invokestatic index, 3))
    (f1 : Cond.methodLink own index arraycopyName ∈ Ts) (f2 : Cond.native arraycopyName ∈ Ts) (f3 : Cond.static arraycopyName ∈ Ts) (f4 : Cond.initialized "java/lang/System" ∈ Ts) (hfr : 1 ≤ R.frames) (hlo : nativeFrameWords "java/lang/System" "arraycopy" 5 + 11 ≤ R.locals)
    (ha : a < h.1) (hb2 : b < h.1) (hab : (h.2.2 a).1 = (h.2.2 b).1) (hk : (h.2.2 a).1 = 0 ∨ (h.2.2 a).1 = 2) (hn : 0 ≤ n) (hs0 : 0 ≤ sp) (hd0 : 0 ≤ dp) (h1a : sp + n ≤ ((h.2.2 a).2.1 : Int)) (h1b : dp + n ≤ ((h.2.2 b).2.1 : Int))
    (k : am_G p l e R s m args below meth c Q D ca ft A n0 z0 ad0 nL (pc + 3, ls, [], (h.1, h.2.1, am_up h.2.2 b ((h.2.2 b).1, (h.2.2 b).2.1, am_cpy (h.2.2 a).2.2 (h.2.2 b).2.2 sp.toNat dp.toNat n.toNat)))) : am_G p l e R s m args below meth c Q D ca ft A n0 z0 ad0 nL (pc, ls, [vI n, vI dp, vR b, vI sp, vR a], h) := by
  intro ad H locs LS h1 h2 h3 h4 h5 h6 h7 h8 h9 h10 h11
  have h4 : am_gd ft h := h4
  have hrn : am_r32 n := h5 (vI n) (by simp)
  have hrd : am_r32 dp := h5 (vI dp) (by simp)
  have hrs : am_r32 sp := h5 (vI sp) (by simp)
  have neg : ∀ z : Int, am_r32 z → 0 ≤ z → ¬ Int32.ofInt z < 0 := fun z hz h0 q => by
    have := (am_o_lt hz am_0r).mp q
    omega
  have cl : ∀ z : Int, am_r32 z → (Int32.ofInt z).toNatClampNeg = z.toNat := fun z hz => by
    show (Int32.ofInt z).toInt.toNat = z.toNat
    rw [am_tI hz]
  have hc : am_gd ft (h.1, h.2.1, am_up h.2.2 b ((h.2.2 b).1, (h.2.2 b).2.1, am_cpy (h.2.2 a).2.2 (h.2.2 b).2.2 sp.toNat dp.toNat n.toNat)) := by
    intro j hj
    show am_ckd ft h.1 (am_up h.2.2 b _ j)
    unfold am_up
    by_cases e : j = b
    · rw [if_pos e]
      have ga := am_gd_arr h4 ha (by omega)
      rcases h4 b hb2 with q | q
      · refine Or.inl ⟨q.1, q.2.1, fun i => ?_⟩
        show am_vt h.1 (am_ek (h.2.2 b).1) (am_cpy _ _ _ _ _ i)
        unfold am_cpy
        split
        · rw [← hab]
          exact ga _
        · exact q.2.2 i
      · omega
    · rw [if_neg e]
      exact h4 j hj
  have fin : ∀ (H1 : Heap) (locs1 : List Loc) (e1 : va_E), am_ce ad ca ((h.2.2 b).1, (h.2.2 b).2.1, am_cpy (h.2.2 a).2.2 (h.2.2 b).2.2 sp.toNat dp.toNat n.toNat) = e1 → va_P D vwCl ((am_ws ad ca h).set b (ad b, e1)) H1 → va_D A ((am_ws ad ca h).set b (ad b, e1)) → va_S A s.heap H1 locs1 → W p l e R s m args below meth c H1 locs1 (h.1 - n0) (h.2.1 - z0) Q (F0 m (pc + 3) LS []) := fun H1 locs1 e1 he hP hD hS => by
    rw [← am_ws_set hb2 he] at hP hD
    exact k ad H1 locs1 LS h1 h2 h3 hc (fun w hw => by simp at hw) h6 hP hD hS h10 h11
  have hml2 : c.maxLocals = LS.size := hml.trans (h11.symm.trans h10.1.symm)
  rcases hk with hk | hk
  · have hkb : (h.2.2 b).1 = 0 := by omega
    have fi : ∀ i, i < (Int32.ofInt n).toNatClampNeg → fits .int (.int ((fun j => am_toI ((h.2.2 a).2.2 j)) ((Int32.ofInt sp).toNatClampNeg + i))) = true := fun i _ => rfl
    refine va_copyi (ty := .int) (rest := []) hx hb hml2 hown (hts _ f1) (hts _ f2) (hts _ f3) (hts _ f4) hK h7 h8 h9 a b 0 0 ((am_ws_at ha).trans (by rw [am_ce_i hk (by omega)])) ((am_ws_at hb2).trans (by rw [am_ce_i hkb (by omega)])) rfl rfl rfl (neg sp hrs hs0) (neg dp hrd hd0) (neg n hrn hn) (by rw [cl _ hrs, cl _ hrn]; omega) (by rw [cl _ hrd, cl _ hrn]; omega) fi hfr (by simpa using hlo) hdg (fun H1 locs1 hP hD hS => ?_)
    rw [cl _ hrs, cl _ hrd, cl _ hrn] at hP hD
    exact fin H1 locs1 _ (by rw [am_ce_i (K := ((h.2.2 b).1, (h.2.2 b).2.1, am_cpy (h.2.2 a).2.2 (h.2.2 b).2.2 sp.toNat dp.toNat n.toNat)) hkb (by omega)]; exact congrArg (fun z => (Sum.inl (ca 0, (h.2.2 b).2.1, .inl z) : va_E)) am_cpy_i) hP hD hS
  · have hkb : (h.2.2 b).1 = 2 := by omega
    have fi : ∀ i, i < (Int32.ofInt n).toNatClampNeg → fits .long (.long ((fun j => am_toL ((h.2.2 a).2.2 j)) ((Int32.ofInt sp).toNatClampNeg + i))) = true := fun i _ => rfl
    refine va_copyl (ty := .long) (rest := []) hx hb hml2 hown (hts _ f1) (hts _ f2) (hts _ f3) (hts _ f4) hK h7 h8 h9 a b 2 2 ((am_ws_at ha).trans (by rw [am_ce_l hk])) ((am_ws_at hb2).trans (by rw [am_ce_l hkb])) rfl rfl rfl (neg sp hrs hs0) (neg dp hrd hd0) (neg n hrn hn) (by rw [cl _ hrs, cl _ hrn]; omega) (by rw [cl _ hrd, cl _ hrn]; omega) fi hfr (by simpa using hlo) hdg (fun H1 locs1 hP hD hS => ?_)
    rw [cl _ hrs, cl _ hrd, cl _ hrn] at hP hD
    exact fin H1 locs1 _ (by rw [am_ce_l (K := ((h.2.2 b).1, (h.2.2 b).2.1, am_cpy (h.2.2 a).2.2 (h.2.2 b).2.2 sp.toNat dp.toNat n.toNat)) hkb]; exact congrArg (fun z => (Sum.inl (ca 2, (h.2.2 b).2.1, .inr (.inl z)) : va_E)) am_cpy_l) hP hD hS
theorem sm_obj {own : String} {Ts : List Cond} {pc index a : Nat} {ls : List am_V} {h : am_H} (hx : p.tables.exec = Jvm.exec) (hb : c.code = cc) (hml : c.maxLocals = nL) (hown : s.vm.findClass own = some m.cls) (hts : ∀ w ∈ Ts, w.before args s = true) (hdg : decode cc pc = .ok (.invokespecial index, 3)) (f1 : Cond.methodLink own index Lib.objectInit ∈ Ts) (f2 : Cond.instanceMethod Lib.objectInit ∈ Ts) (f3 : Cond.code Lib.objectInit ⟨#[0xb1]⟩ 1 none ∈ Ts) (hfr : 1 ≤ R.frames) (hlo : 12 ≤ R.locals)
    (k : am_G p l e R s m args below meth c Q D ca ft A n0 z0 ad0 nL (pc + 3, ls, [], h)) : am_G p l e R s m args below meth c Q D ca ft A n0 z0 ad0 nL (pc, ls, [vR a], h) := by
  intro ad H locs LS h1 h2 h3 h4 h5 h6 h7 h8 h9 h10 h11
  have h4 : am_gd ft h := h4
  exact W.objInit hx hb hown (hts _ f1) (hts _ f2) (hts _ f3) rfl (h10.1.trans (h11.trans hml.symm)) rfl hdg hfr (by show 2 * 0 + 0 + 12 ≤ R.locals; omega) (k ad H locs LS h1 h2 h3 h4 (fun w hw => by simp at hw) h6 h7 h8 h9 h10 h11)
end SM
/-! new int[n][k]. -/
section SM
variable {p : Program} {l : Launch} {e : Env} {R : Room} {s : State} {m : MethodId} {args : Array Value} {below : List Frame} {meth : Method} {c : Code} {Q : State → Prop} {D : va_G} {ca : Nat → ClassId} {ft : am_ft} {A : Nat → Prop} {n0 z0 : Nat} {ad0 : Nat → Nat} {nL : Nat} {cc : ByteArray}
def am_ga (ad : Nat → Nat) (b n q : Nat) (r : Nat → Nat) : Nat → Nat := fun j => if j = b then q else if b < j ∧ j < b + 1 + n then r (j - b - 1) else ad j
theorem am_ga_lt {ad : Nat → Nat} {b n q : Nat} {r : Nat → Nat} : ∀ k, k < b → am_ga ad b n q r k = ad k := fun k hk => by
  unfold am_ga
  rw [if_neg (by omega), if_neg (by omega)]
theorem am_ga_b {ad : Nat → Nat} {b n q : Nat} {r : Nat → Nat} : am_ga ad b n q r b = q := by
  unfold am_ga
  rw [if_pos rfl]
theorem am_ga_r {ad : Nat → Nat} {b n q i : Nat} {r : Nat → Nat} (hi : i < n) : am_ga ad b n q r (b + 1 + i) = r i := by
  unfold am_ga
  rw [if_neg (by omega), if_pos (by omega)]
  congr 1
  omega
theorem am_ws_grid {ad : Nat → Nat} {h : am_H} {n k q : Nat} {r : Nat → Nat} {f : Nat → va_E} (hg : am_gd ft h) : am_ws (am_ga ad h.1 n q r) ca (am_grid h n k) = (am_ws ad ca h ++ [(q, .inl (ca 3, n, .inr (.inr (.inr (.inr (fun i => if i < n then some (r i) else none))))))]) ++ va_pl ([] ++ (List.range n).map r) (vr_up f ((List.range n).map r) (.inl (ca 0, k, .inl (fun _ => 0)))) := by
  have h1 : am_ws (am_ga ad h.1 n q r) ca h = am_ws ad ca h := am_ws_cg hg am_ga_lt
  rw [← h1]
  unfold am_ws va_pl
  show (List.range (h.1 + 1 + n)).map _ = _
  rw [List.range_add, List.range_succ, List.map_append, List.map_append, List.nil_append]
  congr 1
  · congr 1
    · refine List.map_congr_left fun j hj => ?_
      have hj := List.mem_range.mp hj
      unfold am_grid
      simp only []
      rw [if_neg (by omega), if_neg (by omega)]
    · rw [List.map_singleton, am_ga_b]
      congr 2
      unfold am_grid
      simp only [if_pos]
      rw [am_ce_q (by show 3 ≤ 3; omega) (by show 3 < 7; omega)]
      refine congrArg (fun z => (Sum.inl (ca 3, n, .inr (.inr (.inr (.inr z)))) : va_E)) (funext fun i => ?_)
      show am_toR _ (if i < n then vR (h.1 + 1 + i) else vN) = _
      by_cases hi : i < n
      · rw [if_pos hi, if_pos hi]
        exact congrArg some (am_ga_r hi)
      · rw [if_neg hi, if_neg hi]
        rfl
  · rw [List.map_map, List.map_map]
    refine List.map_congr_left fun i hi => ?_
    have hi := List.mem_range.mp hi
    show (am_ga ad h.1 n q r (h.1 + 1 + i), am_ce _ ca ((am_grid h n k).2.2 (h.1 + 1 + i))) = (r i, vr_up f _ _ (r i))
    rw [am_ga_r hi, vr_up_in (List.mem_map.mpr ⟨i, List.mem_range.mpr hi, rfl⟩)]
    congr 1
    unfold am_grid
    simp only []
    rw [if_neg (by omega), if_pos (by omega)]
    exact am_ce_i (K := (0, k, fun _ => vI 0)) rfl (by omega)
theorem sm_mna {own : String} {Ts : List Cond} {pc index : Nat} {n k : Int} {ls st : List am_V} {h : am_H} (hx : p.tables.exec = Jvm.exec) (hb : c.code = cc) (hown : s.vm.findClass own = some m.cls) (hts : ∀ w ∈ Ts, w.before args s = true) (hK : va_K D vwCl (am_tys ca) s) (hA : ∀ q, s.heap.size ≤ q → A q) (hdg : decode cc pc = .ok (.multianewarray index 2, 4))
    (f8 : Cond.classLink own index ("[" ++ (FieldType.array .int).toString) ∈ Ts) (f9 : va_AOA .int s) (f10 : Cond.arrayClass .int ∈ Ts) (hn0 : 0 ≤ n) (hn : n ≤ 1024) (hk0 : 0 ≤ k) (hk : k ≤ 1024)
    (hrc : h.1 + 1 + n.toNat - n0 ≤ R.cells) (hrs : h.2.1 + n.toNat + n.toNat * k.toNat - z0 ≤ R.slots) (kk : am_G p l e R s m args below meth c Q D ca ft A n0 z0 ad0 nL (pc + 4, ls, vR h.1 :: st, am_grid h n.toNat k.toNat)) : am_G p l e R s m args below meth c Q D ca ft A n0 z0 ad0 nL (pc, ls, vI k :: vI n :: st, h) := by
  intro ad H locs LS h1 h2 h3 h4 h5 h6 h7 h8 h9 h10 h11
  have h4 : am_gd ft h := h4
  have h2 : n0 ≤ h.1 := h2
  have h3 : z0 ≤ h.2.1 := h3
  have hrn : am_r32 n := h5 (vI n) (by simp)
  have hrk : am_r32 k := h5 (vI k) (by simp)
  have neg : ∀ z : Int, am_r32 z → 0 ≤ z → ¬ Int32.ofInt z < 0 := fun z hz h0 q => by
    have := (am_o_lt hz am_0r).mp q
    omega
  have cl : ∀ z : Int, am_r32 z → (Int32.ofInt z).toNatClampNeg = z.toNat := fun z hz => by
    show (Int32.ofInt z).toInt.toNat = z.toNat
    rw [am_tI hz]
  have hcy : s.vm.findClass (FieldType.array .int).toString = some (ca 0) := (hK.2 0 _ (am_tys_at ca (k := 0) (by omega))).2
  have e0 : ∀ f : Nat → va_E, am_ws ad ca h ++ va_pl [] f = am_ws ad ca h := fun f => by simp [va_pl]
  have hs5 : ∀ w ∈ st, am_vk h.1 w := fun w hw => h5 w (by simp [hw])
  refine va_mna (X := am_ws ad ca h) (L := []) (f := fun _ => .inl (ca 0, 0, .inl (fun _ => 0))) (ty := .int) (cy := ca 0) (z := (k.toNat, .inl (fun _ => 0))) hx hb hown (hts _ f8) f9 (hts _ f10) hcy hK (by rw [e0]; exact h7) (by rw [e0]; exact h8) h9 hA (neg n hrn hn0) (neg k hrk hk0) (cl n hrn) (cl k hrk) (by omega) (by show k.toNat * 4 ≤ 536870912; omega) (by omega) rfl rfl (show h.1 - n0 + (1 + n.toNat) ≤ R.cells by omega) (show h.2.1 - z0 + (n.toNat + n.toNat * k.toNat) ≤ R.slots by omega) (fun c9 => ?_) hdg (fun q r cA H1 hr1 hr2 hK1 hP hD hS => ?_)
  · rw [vp_cell_i, ← arrV_new]
    rfl
  · have e : cA = ca 3 := by
      have g1 := (hK1.2 7 (cA, .array .int) rfl).2
      have g2 := (hK.2 3 _ (am_tys_at ca (k := 3) (by omega))).2
      exact Option.some.inj (Eq.trans (Eq.symm g1) g2)
    subst e
    rw [← am_ws_grid (ft := ft) (ad := ad) h4] at hP hD
    have K := kk (am_ga ad h.1 n.toNat q r) H1 locs LS (fun j hj => (am_ga_lt j (by omega)).trans (h1 j hj)) (show n0 ≤ h.1 + 1 + n.toNat by omega) (show z0 ≤ h.2.1 + n.toNat + n.toNat * k.toNat by omega) (fun j hj => by
        have hj : j < h.1 + 1 + n.toNat := hj
        show am_ckd ft (h.1 + 1 + n.toNat) ((am_grid h n.toNat k.toNat).2.2 j)
        unfold am_grid
        simp only []
        by_cases e9 : j = h.1
        · rw [if_pos e9]
          refine Or.inl ⟨show 3 < 7 by omega, show n.toNat ≤ 1024 by omega, fun i => ?_⟩
          show am_vt _ 3 (if i < n.toNat then vR (h.1 + 1 + i) else vN)
          by_cases hi : i < n.toNat
          · rw [if_pos hi]
            exact ⟨show h.1 + 1 + i < _ by omega, rfl⟩
          · rw [if_neg hi]
            exact ⟨trivial, rfl⟩
        · rw [if_neg e9]
          by_cases e8 : h.1 < j ∧ j < h.1 + 1 + n.toNat
          · rw [if_pos e8]
            exact Or.inl ⟨show 0 < 7 by omega, show k.toNat ≤ 1024 by omega, fun i => ⟨am_0r, rfl⟩⟩
          · rw [if_neg e8]
            exact (h4 j (by omega)).mono (by omega))
      (fun w hw => (List.mem_cons.mp hw).elim (fun z => by rw [z]; show h.1 < h.1 + 1 + n.toNat; omega) (fun z => (hs5 w z).mono (show h.1 ≤ h.1 + 1 + n.toNat by omega)))
      (fun w hw => (h6 w hw).elim Or.inl (fun z => Or.inr (z.mono (show h.1 ≤ h.1 + 1 + n.toNat by omega)))) hP hD hS (h10.cg am_ga_lt h6) h11
    have e2 : (vR h.1 :: st).map (am_cv (am_ga ad h.1 n.toNat q r)) = .ref q :: st.map (am_cv ad) := by
      rw [List.map_cons, am_st_cg am_ga_lt hs5]
      show Value.ref (am_ga ad h.1 n.toNat q r h.1) :: _ = _
      rw [am_ga_b]
    exact W.cs (show h.1 - n0 + 1 + n.toNat = h.1 + 1 + n.toNat - n0 by omega) (show h.2.1 - z0 + n.toNat + n.toNat * k.toNat = h.2.1 + n.toNat + n.toNat * k.toNat - z0 by omega) (by rw [← e2]; exact K)
end SM
abbrev am_nx (t : am_S) : (am_S ⊕ ((Nat × List am_V × am_S) ⊕ (Option am_V × am_H))) := .inl t
theorem iv_load {k i len x y pc : Nat} {ls st : List am_V} {h : am_H} {r} (e : am_load k i len x y (pc, ls, st, h) = some r) : ∃ v, ls[i]? = some v ∧ am_is k v = true ∧ r = am_nx (pc + len, ls, v :: st, h) := by
  unfold am_load at e
  split at e
  · rename_i v hv
    split at e
    · rename_i hk
      exact ⟨v, hv, hk, (Option.some.inj e).symm⟩
    · cases e
  · cases e
theorem iv_stor {k i len x y pc : Nat} {ls st : List am_V} {h : am_H} {r} (e : am_stor k i len x y (pc, ls, st, h) = some r) : ∃ v st2, st = v :: st2 ∧ am_is k v = true ∧ i < ls.length ∧ r = am_nx (pc + len, (am_cl ls i).set i v, st2, h) := by
  unfold am_stor at e
  split at e
  · rename_i v st2 hst
    split at e
    · rename_i hk
      simp only [Bool.and_eq_true, decide_eq_true_eq] at hk
      exact ⟨v, st2, hst, hk.1, hk.2, (Option.some.inj e).symm⟩
    · cases e
  · cases e
theorem iv_storl {i len x y pc : Nat} {ls st : List am_V} {h : am_H} {r} (e : am_storl i len x y (pc, ls, st, h) = some r) : ∃ z st2, st = vL z :: st2 ∧ i + 1 < ls.length ∧ r = am_nx (pc + len, ((am_cl ls i).set i (vL z)).set (i + 1) vU, st2, h) := by
  unfold am_storl at e
  split at e
  · rename_i z st2 hst
    split at e
    · rename_i hk
      exact ⟨z, st2, hst, hk, (Option.some.inj e).symm⟩
    · cases e
  · cases e
theorem iv_iinc {i len x y pc : Nat} {n : Int} {ls st : List am_V} {h : am_H} {r} (e : am_iinc i n len x y (pc, ls, st, h) = some r) : ∃ z, ls[i]? = some (vI z) ∧ r = am_nx (pc + len, (am_cl ls i).set i (vI (am_w (z + n))), st, h) := by
  unfold am_iinc at e
  split at e
  · rename_i z hz
    exact ⟨z, hz, (Option.some.inj e).symm⟩
  · cases e
theorem iv_bin {f : Int → Int → Option Int} {len x y pc : Nat} {ls st : List am_V} {h : am_H} {r} (e : am_bin f len x y (pc, ls, st, h) = some r) : ∃ a b z st2, st = vI b :: vI a :: st2 ∧ f a b = some z ∧ r = am_nx (pc + len, ls, vI z :: st2, h) := by
  unfold am_bin at e
  split at e
  · rename_i b a st2 hst
    obtain ⟨z, hz, e2⟩ := Option.map_eq_some_iff.mp e
    exact ⟨a, b, z, st2, hst, hz, e2.symm⟩
  · cases e
theorem iv_binl {f : Int → Int → Option Int} {len x y pc : Nat} {ls st : List am_V} {h : am_H} {r} (e : am_binl f len x y (pc, ls, st, h) = some r) : ∃ a b z st2, st = vL b :: vL a :: st2 ∧ f a b = some z ∧ r = am_nx (pc + len, ls, vL z :: st2, h) := by
  unfold am_binl at e
  split at e
  · rename_i b a st2 hst
    obtain ⟨z, hz, e2⟩ := Option.map_eq_some_iff.mp e
    exact ⟨a, b, z, st2, hst, hz, e2.symm⟩
  · cases e
theorem iv_shl {f : Int → Int → Option Int} {len x y pc : Nat} {ls st : List am_V} {h : am_H} {r} (e : am_shl f len x y (pc, ls, st, h) = some r) : ∃ a b z st2, st = vI b :: vL a :: st2 ∧ f a b = some z ∧ r = am_nx (pc + len, ls, vL z :: st2, h) := by
  unfold am_shl at e
  split at e
  · rename_i b a st2 hst
    obtain ⟨z, hz, e2⟩ := Option.map_eq_some_iff.mp e
    exact ⟨a, b, z, st2, hst, hz, e2.symm⟩
  · cases e
theorem iv_un {f : Int → Int} {len x y pc : Nat} {ls st : List am_V} {h : am_H} {r} (e : (am_un f) len x y (pc, ls, st, h) = some r) : ∃ a st2, st = vI a :: st2 ∧ r = am_nx (pc + len, ls, vI (f a) :: st2, h) := by
  unfold am_un at e
  split at e
  · rename_i a st2 hst
    exact ⟨a, st2, hst, (Option.some.inj e).symm⟩
  · cases e
theorem iv_unl {f : Int → Int} {len x y pc : Nat} {ls st : List am_V} {h : am_H} {r} (e : (am_unl f) len x y (pc, ls, st, h) = some r) : ∃ a st2, st = vL a :: st2 ∧ r = am_nx (pc + len, ls, vL (f a) :: st2, h) := by
  unfold am_unl at e
  split at e
  · rename_i a st2 hst
    exact ⟨a, st2, hst, (Option.some.inj e).symm⟩
  · cases e
theorem iv_i2l {len x y pc : Nat} {ls st : List am_V} {h : am_H} {r} (e : am_i2l len x y (pc, ls, st, h) = some r) : ∃ a st2, st = vI a :: st2 ∧ r = am_nx (pc + len, ls, vL a :: st2, h) := by
  unfold am_i2l at e
  split at e
  · rename_i a st2 hst
    exact ⟨a, st2, hst, (Option.some.inj e).symm⟩
  · cases e
theorem iv_l2i {len x y pc : Nat} {ls st : List am_V} {h : am_H} {r} (e : am_l2i len x y (pc, ls, st, h) = some r) : ∃ a st2, st = vL a :: st2 ∧ r = am_nx (pc + len, ls, vI (am_w a) :: st2, h) := by
  unfold am_l2i at e
  split at e
  · rename_i a st2 hst
    exact ⟨a, st2, hst, (Option.some.inj e).symm⟩
  · cases e
theorem iv_lcmp {len x y pc : Nat} {ls st : List am_V} {h : am_H} {r} (e : am_lcmp len x y (pc, ls, st, h) = some r) : ∃ b a st2, st = vL b :: vL a :: st2 ∧ r = am_nx (pc + len, ls, vI (if a < b then -1 else if a = b then 0 else 1) :: st2, h) := by
  unfold am_lcmp at e
  split at e
  · rename_i b a st2 hst
    exact ⟨b, a, st2, hst, (Option.some.inj e).symm⟩
  · cases e
theorem iv_if {cnd : Jvm.ClassFile.Cond} {len x y pc : Nat} {ls st : List am_V} {h : am_H} {r} (e : (am_if cnd) len x y (pc, ls, st, h) = some r) : ∃ a st2, st = vI a :: st2 ∧ r = am_nx ((if am_cmp cnd a 0 then x else pc + len), ls, st2, h) := by
  unfold am_if at e
  split at e
  · rename_i a st2 hst
    exact ⟨a, st2, hst, (Option.some.inj e).symm⟩
  · cases e
theorem iv_icmp {cnd : Jvm.ClassFile.Cond} {len x y pc : Nat} {ls st : List am_V} {h : am_H} {r} (e : (am_icmp cnd) len x y (pc, ls, st, h) = some r) : ∃ b a st2, st = vI b :: vI a :: st2 ∧ r = am_nx ((if am_cmp cnd a b then x else pc + len), ls, st2, h) := by
  unfold am_icmp at e
  split at e
  · rename_i b a st2 hst
    exact ⟨b, a, st2, hst, (Option.some.inj e).symm⟩
  · cases e
theorem iv_dup {len x y pc : Nat} {ls st : List am_V} {h : am_H} {r} (e : am_dup len x y (pc, ls, st, h) = some r) : ∃ v st2, st = v :: st2 ∧ ((am_is 0 v || am_is 2 v) = true) ∧ r = am_nx (pc + len, ls, v :: v :: st2, h) := by
  unfold am_dup at e
  split at e
  · rename_i v st2 hst
    split at e
    · rename_i hk
      exact ⟨v, st2, hst, hk, (Option.some.inj e).symm⟩
    · cases e
  · cases e
theorem iv_dup2 {len x y pc : Nat} {ls st : List am_V} {h : am_H} {r} (e : am_dup2 len x y (pc, ls, st, h) = some r) : ∃ v w st2, st = v :: w :: st2 ∧ (((am_is 0 v || am_is 2 v) && (am_is 0 w || am_is 2 w)) = true) ∧ r = am_nx (pc + len, ls, v :: w :: v :: w :: st2, h) := by
  unfold am_dup2 at e
  split at e
  · rename_i v w st2 hst
    split at e
    · rename_i hk
      exact ⟨v, w, st2, hst, hk, (Option.some.inj e).symm⟩
    · cases e
  · cases e
theorem iv_pop {k : Nat} {len x y pc : Nat} {ls st : List am_V} {h : am_H} {r} (e : (am_pop k) len x y (pc, ls, st, h) = some r) : ∃ v st2, st = v :: st2 ∧ (am_is k v = true) ∧ r = am_nx (pc + len, ls, st2, h) := by
  unfold am_pop at e
  split at e
  · rename_i v st2 hst
    split at e
    · rename_i hk
      exact ⟨v, st2, hst, hk, (Option.some.inj e).symm⟩
    · cases e
  · cases e
theorem iv_gf {len x y pc : Nat} {ls st : List am_V} {h : am_H} {r} (e : am_gf len x y (pc, ls, st, h) = some r) : ∃ a st2, st = vR a :: st2 ∧ (a < h.1 ∧ (h.2.2 a).1 = 10 + x ∧ y < (h.2.2 a).2.1) ∧ r = am_nx (pc + len, ls, (h.2.2 a).2.2 y :: st2, h) := by
  unfold am_gf at e
  split at e
  · rename_i a st2 hst
    split at e
    · rename_i hk
      exact ⟨a, st2, hst, hk, (Option.some.inj e).symm⟩
    · cases e
  · cases e
theorem iv_pf {ft : am_ft} {len x y pc : Nat} {ls st : List am_V} {h : am_H} {r} (e : (am_pf ft) len x y (pc, ls, st, h) = some r) : ∃ v a st2, st = v :: vR a :: st2 ∧ (a < h.1 ∧ (h.2.2 a).1 = 10 + x ∧ y < (h.2.2 a).2.1 ∧ am_fok (ft x y) v = true) ∧ r = am_nx (pc + len, ls, st2, am_wr h a y v) := by
  unfold am_pf at e
  split at e
  · rename_i v a st2 hst
    split at e
    · rename_i hk
      exact ⟨v, a, st2, hst, hk, (Option.some.inj e).symm⟩
    · cases e
  · cases e
theorem iv_ald {ok : Nat → Bool} {len x y pc : Nat} {ls st : List am_V} {h : am_H} {r} (e : (am_ald ok) len x y (pc, ls, st, h) = some r) : ∃ i a st2, st = vI i :: vR a :: st2 ∧ (a < h.1 ∧ ok (h.2.2 a).1 = true ∧ 0 ≤ i ∧ i < ((h.2.2 a).2.1 : Int)) ∧ r = am_nx (pc + len, ls, (h.2.2 a).2.2 i.toNat :: st2, h) := by
  unfold am_ald at e
  split at e
  · rename_i i a st2 hst
    split at e
    · rename_i hk
      exact ⟨i, a, st2, hst, hk, (Option.some.inj e).symm⟩
    · cases e
  · cases e
theorem iv_ast {k vk : Nat} {len x y pc : Nat} {ls st : List am_V} {h : am_H} {r} (e : (am_ast k vk) len x y (pc, ls, st, h) = some r) : ∃ v i a st2, st = v :: vI i :: vR a :: st2 ∧ (a < h.1 ∧ (h.2.2 a).1 = k ∧ am_fok vk v = true ∧ 0 ≤ i ∧ i < ((h.2.2 a).2.1 : Int)) ∧ r = am_nx (pc + len, ls, st2, am_wr h a i.toNat v) := by
  unfold am_ast at e
  split at e
  · rename_i v i a st2 hst
    split at e
    · rename_i hk
      exact ⟨v, i, a, st2, hst, hk, (Option.some.inj e).symm⟩
    · cases e
  · cases e
theorem iv_aast {len x y pc : Nat} {ls st : List am_V} {h : am_H} {r} (e : am_aast len x y (pc, ls, st, h) = some r) : ∃ b i a st2, st = vR b :: vI i :: vR a :: st2 ∧ (a < h.1 ∧ b < h.1 ∧ 4 ≤ (h.2.2 a).1 ∧ (h.2.2 a).1 < 7 ∧ (h.2.2 b).1 = am_comp (h.2.2 a).1 ∧ 0 ≤ i ∧ i < ((h.2.2 a).2.1 : Int)) ∧ r = am_nx (pc + len, ls, st2, am_wr h a i.toNat (vR b)) := by
  unfold am_aast at e
  split at e
  · rename_i b i a st2 hst
    split at e
    · rename_i hk
      exact ⟨b, i, a, st2, hst, hk, (Option.some.inj e).symm⟩
    · cases e
  · cases e
theorem iv_len {len x y pc : Nat} {ls st : List am_V} {h : am_H} {r} (e : am_len len x y (pc, ls, st, h) = some r) : ∃ a st2, st = vR a :: st2 ∧ (a < h.1 ∧ (h.2.2 a).1 < 7) ∧ r = am_nx (pc + len, ls, vI ((h.2.2 a).2.1 : Int) :: st2, h) := by
  unfold am_len at e
  split at e
  · rename_i a st2 hst
    split at e
    · rename_i hk
      exact ⟨a, st2, hst, hk, (Option.some.inj e).symm⟩
    · cases e
  · cases e
theorem iv_newa {lo hi : Nat} {len x y pc : Nat} {ls st : List am_V} {h : am_H} {r} (e : (am_newa lo hi) len x y (pc, ls, st, h) = some r) : ∃ n st2, st = vI n :: st2 ∧ (0 ≤ n ∧ n ≤ 1024 ∧ lo ≤ x ∧ x ≤ hi) ∧ r = am_nx (pc + len, ls, vR h.1 :: st2, am_mk h x n.toNat (fun _ => am_dv x)) := by
  unfold am_newa at e
  split at e
  · rename_i n st2 hst
    split at e
    · rename_i hk
      exact ⟨n, st2, hst, hk, (Option.some.inj e).symm⟩
    · cases e
  · cases e
theorem iv_mna {len x y pc : Nat} {ls st : List am_V} {h : am_H} {r} (e : am_mna len x y (pc, ls, st, h) = some r) : ∃ k n st2, st = vI k :: vI n :: st2 ∧ (0 ≤ n ∧ n ≤ 1024 ∧ 0 ≤ k ∧ k ≤ 1024) ∧ r = am_nx (pc + len, ls, vR h.1 :: st2, am_grid h n.toNat k.toNat) := by
  unfold am_mna at e
  split at e
  · rename_i k n st2 hst
    split at e
    · rename_i hk
      exact ⟨k, n, st2, hst, hk, (Option.some.inj e).symm⟩
    · cases e
  · cases e
theorem iv_acopy {len x y pc : Nat} {ls st : List am_V} {h : am_H} {r} (e : am_acopy len x y (pc, ls, st, h) = some r) : ∃ n dp b sp a, st = [vI n, vI dp, vR b, vI sp, vR a] ∧ (a < h.1 ∧ b < h.1 ∧ (h.2.2 a).1 = (h.2.2 b).1 ∧ ((h.2.2 a).1 = 0 ∨ (h.2.2 a).1 = 2) ∧ 0 ≤ n ∧ 0 ≤ sp ∧ 0 ≤ dp ∧ sp + n ≤ ((h.2.2 a).2.1 : Int) ∧ dp + n ≤ ((h.2.2 b).2.1 : Int)) ∧ r = am_nx (pc + len, ls, [], (h.1, h.2.1, am_up h.2.2 b ((h.2.2 b).1, (h.2.2 b).2.1, am_cpy (h.2.2 a).2.2 (h.2.2 b).2.2 sp.toNat dp.toNat n.toNat))) := by
  unfold am_acopy at e
  split at e
  · rename_i n dp b sp a hst
    split at e
    · rename_i hk
      exact ⟨n, dp, b, sp, a, hst, hk, (Option.some.inj e).symm⟩
    · cases e
  · cases e
theorem iv_sw {d lo hi : Int} {offs : Array Int} {len x y pc : Nat} {ls st : List am_V} {h : am_H} {r} (e : am_sw d lo hi offs len x y (pc, ls, st, h) = some r) : ∃ a st2, st = vI a :: st2 ∧ (((a < lo ∨ hi < a) ∧ r = am_nx (((pc : Int) + d).toNat, ls, st2, h)) ∨ (¬ (a < lo ∨ hi < a) ∧ ∃ o, offs[(a - lo).toNat]? = some o ∧ r = am_nx (((pc : Int) + o).toNat, ls, st2, h))) := by
  unfold am_sw at e
  split at e
  · rename_i a st2 hst
    refine ⟨a, st2, hst, ?_⟩
    split at e
    · rename_i hk
      exact Or.inl ⟨hk, (Option.some.inj e).symm⟩
    · rename_i hk
      split at e
      · rename_i o ho
        exact Or.inr ⟨hk, o, ho, (Option.some.inj e).symm⟩
      · cases e
  · cases e
theorem iv_ret {len x y pc : Nat} {ls st : List am_V} {h : am_H} {r} (e : am_ret len x y (pc, ls, st, h) = some r) : ∃ v, st = [v] ∧ am_fok x v = true ∧ r = .inr (.inr (some v, h)) := by
  unfold am_ret at e
  split at e
  · rename_i v hst
    split at e
    · rename_i hk
      exact ⟨v, hst, hk, (Option.some.inj e).symm⟩
    · cases e
  · cases e
theorem iv_retv {len x y pc : Nat} {ls st : List am_V} {h : am_H} {r} (e : am_retv len x y (pc, ls, st, h) = some r) : st = [] ∧ r = .inr (.inr (none, h)) := by
  unfold am_retv at e
  split at e
  · rename_i hst
    exact ⟨hst, (Option.some.inj e).symm⟩
  · cases e
theorem iv_inv {len x y pc : Nat} {ls st : List am_V} {h : am_H} {r} (e : am_inv len x y (pc, ls, st, h) = some r) : (x = 900 ∧ ∃ a, st = [vR a] ∧ r = am_nx (pc + len, ls, [], h)) ∨ (x = 901 ∧ am_acopy len x y (pc, ls, st, h) = some r) ∨ (x ≠ 900 ∧ x ≠ 901 ∧ y ≤ st.length ∧ ((st.drop y).map am_cat).sum ≤ 8 ∧ am_rcv h x (st.take y).reverse = true ∧ r = .inr (.inl (x % 1000, (st.take y).reverse, pc + len, ls, st.drop y, h))) := by
  unfold am_inv at e
  split at e
  · rename_i hx
    refine Or.inl ⟨hx, ?_⟩
    split at e
    · rename_i a hst
      exact ⟨a, hst, (Option.some.inj e).symm⟩
    · cases e
  · rename_i hx
    split at e
    · rename_i hx2
      exact Or.inr (Or.inl ⟨hx2, e⟩)
    · rename_i hx2
      split at e
      · rename_i hk
        exact Or.inr (Or.inr ⟨hx, hx2, hk.1, hk.2.1, hk.2.2, (Option.some.inj e).symm⟩)
      · cases e
/-! Every step, by its instruction. -/
/-- the array classes over the claim's classes and over int[] -/
def am_AO (U : State) : Prop := va_AO "StrandBoxes$Boxes" U ∧ va_AO "StrandBoxes$Halves" U ∧ va_AO "StrandBoxes$Sum" U ∧ va_AOA .int U
theorem am_AO.at {U : State} {x : Nat} {C : String} (h : am_AO U) (h4 : 4 ≤ x) (h7 : x < 7) (hC : am_ty x = .object C) : va_AO C U := by
  rcases (show x = 4 ∨ x = 5 ∨ x = 6 by omega) with rfl | rfl | rfl
  · cases hC
    exact h.1
  · cases hC
    exact h.2.1
  · cases hC
    exact h.2.2.1
theorem am_ao_vm {ty : FieldType} {u U : State} (e : u.vm = U.vm) (h : (Cond.arrayOver ty).before #[] u = true) : (Cond.arrayOver ty).before #[] U = true := by
  unfold Cond.before Cond.holds at h ⊢
  simp only [Cond.value] at h ⊢
  rw [← e]
  exact h
theorem am_ao_warm {ty : FieldType} {s U : State} (hW : s.WarmedH U.vm) (h : (Cond.arrayOver ty).before #[] s = true) : (Cond.arrayOver ty).before #[] U = true := am_ao_vm (u := s.setVm U.vm) rfl (by rw [Cond.arrayOver_setVmC hW.alike]; exact h)
theorem am_AO.warm {s U : State} (hW : s.WarmedH U.vm) (h : am_AO s) : am_AO U := ⟨am_ao_warm hW h.1, am_ao_warm hW h.2.1, am_ao_warm hW h.2.2.1, am_ao_warm hW h.2.2.2⟩
theorem am_AO.same {u U : State} (e : u.vm = U.vm) (h : am_AO u) : am_AO U := ⟨am_ao_vm e h.1, am_ao_vm e h.2.1, am_ao_vm e h.2.2.1, am_ao_vm e h.2.2.2⟩
theorem am_is0 {v : am_V} (h : am_is 0 v = true) : ∃ x, v = vI x := by
  rcases v with (x | x) | _ | _ | a
  · exact ⟨x, rfl⟩
  · cases h
  · cases h
  · cases h
  · cases h
theorem am_is1 {v : am_V} (h : am_is 1 v = true) : ∃ x, v = vL x := by
  rcases v with (x | x) | _ | _ | a
  · cases h
  · exact ⟨x, rfl⟩
  · cases h
  · cases h
  · cases h
theorem am_is2 {v : am_V} (h : am_is 2 v = true) : ∃ a, v = vR a := by
  rcases v with (x | x) | _ | _ | a
  · cases h
  · cases h
  · cases h
  · cases h
  · exact ⟨a, rfl⟩
theorem am_is02 {ad : Nat → Nat} {v : am_V} (h : (am_is 0 v || am_is 2 v) = true) : (am_cv ad v).category = 1 := by
  rcases v with (x | x) | _ | _ | a
  · rfl
  · cases h
  · cases h
  · cases h
  · rfl
theorem am_div_inv {a b z : Int} (h : am_div a b = some z) : b ≠ 0 ∧ z = am_w (a.tdiv b) := by
  unfold am_div at h
  split at h
  · cases h
  · rename_i q
    exact ⟨q, (Option.some.inj h).symm⟩
theorem am_rem_inv {a b z : Int} (h : am_rem a b = some z) : b ≠ 0 ∧ z = a.tmod b := by
  unfold am_rem at h
  split at h
  · cases h
  · rename_i q
    exact ⟨q, (Option.some.inj h).symm⟩
theorem am_divl_inv {a b z : Int} (h : am_divl a b = some z) : b ≠ 0 ∧ z = am_wl (a.tdiv b) := by
  unfold am_divl at h
  split at h
  · cases h
  · rename_i q
    exact ⟨q, (Option.some.inj h).symm⟩
/-- what a row of code says beside its instruction, and what it needs of the tables -/
def am_rk (ft : am_ft) (own : String) (ini : Prop) (Ts : List Cond) (R : Room) (pc : Nat) (row : am_I) : Prop := match row with
  | (.iconst n, len, _, _) => len = 1 ∧ am_r32 n
  | (.bipush n, len, _, _) => len = 2 ∧ am_r32 n ∧ (Int8.ofInt n).toInt32 = Int32.ofInt n
  | (.sipush n, len, _, _) => len = 3 ∧ am_r32 n ∧ (Int16.ofInt n).toInt32 = Int32.ofInt n
  | (.lconst _, len, _, _) => len = 1
  | (.ldc i, len, x, y) => len = 2 ∧ am_r32 (am_cst x y) ∧ Cond.constant own i (Int32.ofInt (am_cst x y)) ∈ Ts
  | (.ldc2_w i, len, x, y) => len = 3 ∧ am_r64 (am_cst x y) ∧ Cond.constantLong own i (Int64.ofInt (am_cst x y)) ∈ Ts
  | (.iload_n _, len, _, _) => len = 1
  | (.iload _, len, _, _) => len = 2
  | (.lload_n _, len, _, _) => len = 1
  | (.lload _, len, _, _) => len = 2
  | (.aload_n _, len, _, _) => len = 1
  | (.aload _, len, _, _) => len = 2
  | (.istore_n _, len, _, _) => len = 1
  | (.istore _, len, _, _) => len = 2
  | (.lstore_n _, len, _, _) => len = 1
  | (.lstore _, len, _, _) => len = 2
  | (.astore_n _, len, _, _) => len = 1
  | (.astore _, len, _, _) => len = 2
  | (.iinc _ _, len, _, _) => len = 3
  | (.ifCond _ off, len, x, _) => len = 3 ∧ (pc : Int) + off = (x : Int)
  | (.if_icmp _ off, len, x, _) => len = 3 ∧ (pc : Int) + off = (x : Int)
  | (.goto off, len, x, _) => len = 3 ∧ (pc : Int) + off = (x : Int)
  | (.tableswitch d _ _ offs, _, _, _) => 0 ≤ (pc : Int) + d ∧ ∀ o ∈ offs.toList, 0 ≤ (pc : Int) + o
  | (.getfield i, len, x, y) => len = 3 ∧ am_fl own i x y Ts
  | (.putfield i, len, x, y) => len = 3 ∧ ∃ (C : String) (T : u_T) (N : Nat) (tyf : Nat → FieldType), vwCl[x]? = some (C, T, N) ∧ y < N ∧ Cond.fieldLink own i (T y).1 (T y).2.1 (T y).2.2.1 ∈ Ts ∧ (∀ w ∈ u_ws C T N, w ∈ Ts) ∧ (∀ k, k < N → parseFieldDescriptor (T k).2.2.1 = some (tyf k)) ∧ (∀ a, a < N → ∀ b, b < N → a ≠ b → (T a).2.1 ≠ (T b).2.1) ∧ am_tk (ft x y) (tyf y) = true ∧ ((T y).2.2.2 = false ∨ ((T y).2.2.2 = true ∧ ini ∧ (T y).1 = own))
  | (.new i, len, x, y) => len = 3 ∧ ∃ (C : String) (T : u_T) (tyf : Nat → FieldType), vwCl[x]? = some (C, T, y) ∧ (∀ w ∈ u_ws C T y, w ∈ Ts) ∧ (∀ k, k < y → parseFieldDescriptor (T k).2.2.1 = some (tyf k)) ∧ (∀ k, k < y → am_tk (ft x k) (tyf k) = true) ∧ Cond.classLink own i C ∈ Ts ∧ Cond.instantiable C y ∈ Ts ∧ Cond.initialized C ∈ Ts
  | (.newarray at9, len, x, _) => len = 2 ∧ newarray.typeOf at9 = am_ty x ∧ Cond.arrayClass (newarray.typeOf at9) ∈ Ts
  | (.anewarray i, len, x, _) => len = 3 ∧ ∃ C, am_ty x = .object C ∧ Cond.classLink own i C ∈ Ts
  | (.multianewarray i d, len, _, _) => len = 4 ∧ d = 2 ∧ Cond.classLink own i ("[" ++ (FieldType.array .int).toString) ∈ Ts ∧ Cond.arrayClass .int ∈ Ts
  | (.invokevirtual _, len, x, _) => len = 3 ∧ x ≠ 900 ∧ x ≠ 901
  | (.invokestatic i, len, x, _) => len = 3 ∧ x ≠ 900 ∧ (x = 901 → Cond.methodLink own i arraycopyName ∈ Ts ∧ Cond.native arraycopyName ∈ Ts ∧ Cond.static arraycopyName ∈ Ts ∧ Cond.initialized "java/lang/System" ∈ Ts ∧ 1 ≤ R.frames ∧ nativeFrameWords "java/lang/System" "arraycopy" 5 + 11 ≤ R.locals)
  | (.invokespecial i, len, x, _) => len = 3 ∧ x ≠ 901 ∧ (x = 900 → Cond.methodLink own i Lib.objectInit ∈ Ts ∧ Cond.instanceMethod Lib.objectInit ∈ Ts ∧ Cond.code Lib.objectInit ⟨#[0xb1]⟩ 1 none ∈ Ts ∧ 1 ≤ R.frames ∧ 12 ≤ R.locals)
  | (.iadd, len, _, _) => len = 1
  | (.isub, len, _, _) => len = 1
  | (.imul, len, _, _) => len = 1
  | (.idiv, len, _, _) => len = 1
  | (.irem, len, _, _) => len = 1
  | (.ineg, len, _, _) => len = 1
  | (.iand, len, _, _) => len = 1
  | (.ixor, len, _, _) => len = 1
  | (.ishl, len, _, _) => len = 1
  | (.ishr, len, _, _) => len = 1
  | (.ladd, len, _, _) => len = 1
  | (.lmul, len, _, _) => len = 1
  | (.ldiv, len, _, _) => len = 1
  | (.lneg, len, _, _) => len = 1
  | (.land, len, _, _) => len = 1
  | (.lor, len, _, _) => len = 1
  | (.lshl, len, _, _) => len = 1
  | (.lshr, len, _, _) => len = 1
  | (.lushr, len, _, _) => len = 1
  | (.lcmp, len, _, _) => len = 1
  | (.i2l, len, _, _) => len = 1
  | (.l2i, len, _, _) => len = 1
  | (.iaload, len, _, _) => len = 1
  | (.baload, len, _, _) => len = 1
  | (.laload, len, _, _) => len = 1
  | (.aaload, len, _, _) => len = 1
  | (.iastore, len, _, _) => len = 1
  | (.bastore, len, _, _) => len = 1
  | (.lastore, len, _, _) => len = 1
  | (.aastore, len, _, _) => len = 1
  | (.arraylength, len, _, _) => len = 1
  | (.dup, len, _, _) => len = 1
  | (.dup2, len, _, _) => len = 1
  | (.pop, len, _, _) => len = 1
  | (.pop2, len, _, _) => len = 1
  | (.ireturn, len, _, _) => len = 1
  | (.lreturn, len, _, _) => len = 1
  | (.return_, len, _, _) => len = 1
  | _ => False
section SM
variable {p : Program} {l : Launch} {e : Env} {R : Room} {s : State} {m : MethodId} {args : Array Value} {below : List Frame} {meth : Method} {c : Code} {Q : State → Prop} {D : va_G} {ca : Nat → ClassId} {ft : am_ft} {A : Nat → Prop} {n0 z0 : Nat} {ad0 : Nat → Nat} {nL : Nat} {cc : ByteArray}
set_option maxHeartbeats 4000000 in
theorem am_sim {own : String} {Ts : List Cond} {ins : Instr} {len x y pc : Nat} {ls st : List am_V} {h : am_H} {t : am_S} (hx : p.tables.exec = Jvm.exec) (hb : c.code = cc) (hml : c.maxLocals = nL) (hown : s.vm.findClass own = some m.cls) (hts : ∀ w ∈ Ts, w.before args s = true) (hK : va_K D vwCl (am_tys ca) s) (hO : am_AO s) (hA : ∀ q, s.heap.size ≤ q → A q) (hdg : decode cc pc = .ok (ins, len)) (hr : am_rk ft own (meth.name = "<init>") Ts R pc (ins, len, x, y))
    (he : am_sem ft ins len x y (pc, ls, st, h) = some (.inl t)) (hrc : t.2.2.2.1 - n0 ≤ R.cells) (hrs : t.2.2.2.2.1 - z0 ≤ R.slots) (k : am_G p l e R s m args below meth c Q D ca ft A n0 z0 ad0 nL t) : am_G p l e R s m args below meth c Q D ca ft A n0 z0 ad0 nL (pc, ls, st, h) := by
  cases ins
  case iconst n =>
    obtain ⟨rfl, hn⟩ := hr
    cases he
    exact sm_push (v := vI n) hn (fun ad H locs LS k z rest w => lv_iconst hx hb hdg rfl w) k
  case bipush n =>
    obtain ⟨rfl, hn, h8⟩ := hr
    cases he
    exact sm_push (v := vI n) hn (fun ad H locs LS k z rest w => lv_bipush hx hb hdg h8 w) k
  case sipush n =>
    obtain ⟨rfl, hn, h8⟩ := hr
    cases he
    exact sm_push (v := vI n) hn (fun ad H locs LS k z rest w => lv_sipush hx hb hdg h8 w) k
  case lconst n =>
    subst hr
    cases he
    refine sm_push (v := vL (n.val : Int)) (show am_r64 (n.val : Int) by unfold am_r64; have := n.isLt; omega) (fun ad H locs LS k z rest w => lv_lconst hx hb hdg (v := Int64.ofInt (n.val : Int)) ?_ w) k
    rcases n with ⟨n, hn⟩
    rcases (show n = 0 ∨ n = 1 by omega) with rfl | rfl
    · exact (by decide : Int64.ofNat 0 = Int64.ofInt 0)
    · exact (by decide : Int64.ofNat 1 = Int64.ofInt 1)
  case ldc i =>
    obtain ⟨rfl, hn, h8⟩ := hr
    cases he
    exact sm_push (v := vI (am_cst x y)) hn (fun ad H locs LS k z rest w => lv_ldc hx hb hown (hts _ h8) hdg w) k
  case ldc2_w i =>
    obtain ⟨rfl, hn, h8⟩ := hr
    cases he
    exact sm_push (v := vL (am_cst x y)) hn (fun ad H locs LS k z rest w => lv_ldc2 hx hb hown (hts _ h8) hdg w) k
  case iload_n i =>
    subst hr
    obtain ⟨v, h1, h2, e2⟩ := iv_load (len := 1) (x := x) (y := y) he
    obtain ⟨z, rfl⟩ := am_is0 h2
    cases e2
    exact sm_load h1 (fun q => by cases q) (fun ad H locs LS k z rest q w => lv_iload_n hx hb hdg rfl q w) k
  case iload i =>
    subst hr
    obtain ⟨v, h1, h2, e2⟩ := iv_load (len := 2) (x := x) (y := y) he
    obtain ⟨z, rfl⟩ := am_is0 h2
    cases e2
    exact sm_load h1 (fun q => by cases q) (fun ad H locs LS k z rest q w => lv_iload hx hb hdg q w) k
  case lload_n i =>
    subst hr
    obtain ⟨v, h1, h2, e2⟩ := iv_load (len := 1) (x := x) (y := y) he
    obtain ⟨z, rfl⟩ := am_is1 h2
    cases e2
    exact sm_load h1 (fun q => by cases q) (fun ad H locs LS k z rest q w => lv_lload_n hx hb hdg rfl q w) k
  case lload i =>
    subst hr
    obtain ⟨v, h1, h2, e2⟩ := iv_load (len := 2) (x := x) (y := y) he
    obtain ⟨z, rfl⟩ := am_is1 h2
    cases e2
    exact sm_load h1 (fun q => by cases q) (fun ad H locs LS k z rest q w => lv_lload hx hb hdg q w) k
  case aload_n i =>
    subst hr
    obtain ⟨v, h1, h2, e2⟩ := iv_load (len := 1) (x := x) (y := y) he
    obtain ⟨z, rfl⟩ := am_is2 h2
    cases e2
    exact sm_load h1 (fun q => by cases q) (fun ad H locs LS k z rest q w => lv_aload_n hx hb hdg rfl q w) k
  case aload i =>
    subst hr
    obtain ⟨v, h1, h2, e2⟩ := iv_load (len := 2) (x := x) (y := y) he
    obtain ⟨z, rfl⟩ := am_is2 h2
    cases e2
    exact sm_load h1 (fun q => by cases q) (fun ad H locs LS k z rest q w => lv_aload hx hb hdg q w) k
  case istore_n i =>
    subst hr
    obtain ⟨v, st2, rfl, h2, h3, e2⟩ := iv_stor (len := 1) (x := x) (y := y) he
    obtain ⟨z, rfl⟩ := am_is0 h2
    cases e2
    exact sm_stor h3 (fun ad H locs LS k z rest q w => lv_istore_n hx hb hdg rfl q h3 rfl w) k
  case istore i =>
    subst hr
    obtain ⟨v, st2, rfl, h2, h3, e2⟩ := iv_stor (len := 2) (x := x) (y := y) he
    obtain ⟨z, rfl⟩ := am_is0 h2
    cases e2
    exact sm_stor h3 (fun ad H locs LS k z rest q w => lv_istore hx hb hdg q h3 rfl w) k
  case astore_n i =>
    subst hr
    obtain ⟨v, st2, rfl, h2, h3, e2⟩ := iv_stor (len := 1) (x := x) (y := y) he
    obtain ⟨z, rfl⟩ := am_is2 h2
    cases e2
    exact sm_stor h3 (fun ad H locs LS k z rest q w => lv_astore_n hx hb hdg rfl q h3 rfl w) k
  case astore i =>
    subst hr
    obtain ⟨v, st2, rfl, h2, h3, e2⟩ := iv_stor (len := 2) (x := x) (y := y) he
    obtain ⟨z, rfl⟩ := am_is2 h2
    cases e2
    exact sm_stor h3 (fun ad H locs LS k z rest q w => lv_astore hx hb hdg q h3 rfl w) k
  case lstore_n i =>
    subst hr
    obtain ⟨z, st2, rfl, h3, e2⟩ := iv_storl (len := 1) (x := x) (y := y) he
    cases e2
    exact sm_storl h3 (fun ad H locs LS k z rest q w => lv_lstore_n hx hb hdg rfl q h3 rfl w) k
  case lstore i =>
    subst hr
    obtain ⟨z, st2, rfl, h3, e2⟩ := iv_storl (len := 2) (x := x) (y := y) he
    cases e2
    exact sm_storl h3 (fun ad H locs LS k z rest q w => lv_lstore hx hb hdg q h3 rfl w) k
  case iinc i n =>
    subst hr
    obtain ⟨z, h1, e2⟩ := iv_iinc (len := 3) (x := x) (y := y) he
    cases e2
    exact sm_iinc hx hb hdg h1 k
  case iadd =>
    subst hr
    obtain ⟨a, b, z, st2, rfl, hf, e2⟩ := iv_bin (len := 1) (x := x) (y := y) he
    cases hf
    cases e2
    exact sm_bin (g := fun x y => x + y) (fun _ _ => ⟨am_w_r _, am_o_add _ _⟩) (fun H locs LS k z rest _ _ w => lv_iadd hx hb hdg w) k
  case isub =>
    subst hr
    obtain ⟨a, b, z, st2, rfl, hf, e2⟩ := iv_bin (len := 1) (x := x) (y := y) he
    cases hf
    cases e2
    exact sm_bin (g := fun x y => x - y) (fun _ _ => ⟨am_w_r _, am_o_sub _ _⟩) (fun H locs LS k z rest _ _ w => lv_isub hx hb hdg w) k
  case imul =>
    subst hr
    obtain ⟨a, b, z, st2, rfl, hf, e2⟩ := iv_bin (len := 1) (x := x) (y := y) he
    cases hf
    cases e2
    exact sm_bin (g := fun x y => x * y) (fun _ _ => ⟨am_w_r _, am_o_mul _ _⟩) (fun H locs LS k z rest _ _ w => lv_imul hx hb hdg w) k
  case iand =>
    subst hr
    obtain ⟨a, b, z, st2, rfl, hf, e2⟩ := iv_bin (len := 1) (x := x) (y := y) he
    cases hf
    cases e2
    exact sm_bin (g := fun x y => x &&& y) (fun _ _ => ⟨am_rI _, Int32.ofInt_toInt _⟩) (fun H locs LS k z rest _ _ w => lv_iand hx hb hdg w) k
  case ixor =>
    subst hr
    obtain ⟨a, b, z, st2, rfl, hf, e2⟩ := iv_bin (len := 1) (x := x) (y := y) he
    cases hf
    cases e2
    exact sm_bin (g := fun x y => x ^^^ y) (fun _ _ => ⟨am_rI _, Int32.ofInt_toInt _⟩) (fun H locs LS k z rest _ _ w => lv_ixor hx hb hdg w) k
  case ishl =>
    subst hr
    obtain ⟨a, b, z, st2, rfl, hf, e2⟩ := iv_bin (len := 1) (x := x) (y := y) he
    cases hf
    cases e2
    exact sm_bin (g := fun x y => x <<< (y &&& 31)) (fun _ _ => ⟨am_rI _, Int32.ofInt_toInt _⟩) (fun H locs LS k z rest _ _ w => lv_ishl hx hb hdg w) k
  case ishr =>
    subst hr
    obtain ⟨a, b, z, st2, rfl, hf, e2⟩ := iv_bin (len := 1) (x := x) (y := y) he
    cases hf
    cases e2
    exact sm_bin (g := fun x y => x >>> (y &&& 31)) (fun _ _ => ⟨am_rI _, Int32.ofInt_toInt _⟩) (fun H locs LS k z rest _ _ w => lv_ishr hx hb hdg w) k
  case idiv =>
    subst hr
    obtain ⟨a, b, z, st2, rfl, hf, e2⟩ := iv_bin (len := 1) (x := x) (y := y) he
    obtain ⟨hne, rfl⟩ := am_div_inv hf
    cases e2
    exact sm_bin (g := fun x y => x / y) (fun q1 q2 => ⟨am_w_r _, am_o_div q1 q2⟩) (fun H locs LS k z rest q1 q2 w => lv_idiv hx hb hdg (fun q => hne ((am_o_eq q2 am_0r).mp q)) w) k
  case irem =>
    subst hr
    obtain ⟨a, b, z, st2, rfl, hf, e2⟩ := iv_bin (len := 1) (x := x) (y := y) he
    obtain ⟨hne, rfl⟩ := am_rem_inv hf
    cases e2
    exact sm_bin (g := fun x y => x - x / y * y) (fun q1 q2 => ⟨am_tmod_r q1, am_o_rem q1 q2⟩) (fun H locs LS k z rest q1 q2 w => lv_irem hx hb hdg (fun q => hne ((am_o_eq q2 am_0r).mp q)) w) k
  case ineg =>
    subst hr
    obtain ⟨a, st2, rfl, e2⟩ := iv_un (len := 1) (x := x) (y := y) he
    cases e2
    exact sm_stk (us := [vI a]) (us2 := [vI (am_w (-a))]) (fun _ w hw => by rw [List.mem_singleton.mp hw]; exact am_w_r _) (fun ad H locs LS k z rest q w => lv_ineg hx hb hdg (by rw [← am_o_neg]; exact w)) k
  case ladd =>
    subst hr
    obtain ⟨a, b, z, st2, rfl, hf, e2⟩ := iv_binl (len := 1) (x := x) (y := y) he
    cases hf
    cases e2
    exact sm_binl (g := fun x y => x + y) (fun _ _ => ⟨am_wl_r _, am_l_add _ _⟩) (fun H locs LS k z rest _ _ w => lv_ladd hx hb hdg w) k
  case lmul =>
    subst hr
    obtain ⟨a, b, z, st2, rfl, hf, e2⟩ := iv_binl (len := 1) (x := x) (y := y) he
    cases hf
    cases e2
    exact sm_binl (g := fun x y => x * y) (fun _ _ => ⟨am_wl_r _, am_l_mul _ _⟩) (fun H locs LS k z rest _ _ w => lv_lmul hx hb hdg w) k
  case land =>
    subst hr
    obtain ⟨a, b, z, st2, rfl, hf, e2⟩ := iv_binl (len := 1) (x := x) (y := y) he
    cases hf
    cases e2
    exact sm_binl (g := fun x y => x &&& y) (fun _ _ => ⟨am_rL _, Int64.ofInt_toInt _⟩) (fun H locs LS k z rest _ _ w => lv_land hx hb hdg w) k
  case lor =>
    subst hr
    obtain ⟨a, b, z, st2, rfl, hf, e2⟩ := iv_binl (len := 1) (x := x) (y := y) he
    cases hf
    cases e2
    exact sm_binl (g := fun x y => x ||| y) (fun _ _ => ⟨am_rL _, Int64.ofInt_toInt _⟩) (fun H locs LS k z rest _ _ w => lv_lor hx hb hdg w) k
  case ldiv =>
    subst hr
    obtain ⟨a, b, z, st2, rfl, hf, e2⟩ := iv_binl (len := 1) (x := x) (y := y) he
    obtain ⟨hne, rfl⟩ := am_divl_inv hf
    cases e2
    exact sm_binl (g := fun x y => x / y) (fun q1 q2 => ⟨am_wl_r _, am_l_div q1 q2⟩) (fun H locs LS k z rest q1 q2 w => lv_ldiv hx hb hdg (fun q => hne ((am_l_eq q2 am_0l).mp q)) w) k
  case lneg =>
    subst hr
    obtain ⟨a, st2, rfl, e2⟩ := iv_unl (len := 1) (x := x) (y := y) he
    cases e2
    exact sm_stk (us := [vL a]) (us2 := [vL (am_wl (-a))]) (fun _ w hw => by rw [List.mem_singleton.mp hw]; exact am_wl_r _) (fun ad H locs LS k z rest q w => lv_lneg hx hb hdg (by rw [← am_l_neg]; exact w)) k
  case lshl =>
    subst hr
    obtain ⟨a, b, z, st2, rfl, hf, e2⟩ := iv_shl (len := 1) (x := x) (y := y) he
    cases hf
    cases e2
    exact sm_shl (g := fun x y => x <<< (y.toInt64 &&& 63)) (Int64.ofInt_toInt _) (am_rL _) (fun H locs LS k z rest w => lv_lshl hx hb hdg rfl w) k
  case lshr =>
    subst hr
    obtain ⟨a, b, z, st2, rfl, hf, e2⟩ := iv_shl (len := 1) (x := x) (y := y) he
    cases hf
    cases e2
    exact sm_shl (g := fun x y => x >>> (y.toInt64 &&& 63)) (Int64.ofInt_toInt _) (am_rL _) (fun H locs LS k z rest w => lv_lshr hx hb hdg rfl w) k
  case lushr =>
    subst hr
    obtain ⟨a, b, z, st2, rfl, hf, e2⟩ := iv_shl (len := 1) (x := x) (y := y) he
    cases hf
    cases e2
    exact sm_shl (g := fun x y => (x.toUInt64 >>> (y.toInt64.toUInt64 &&& Int64.toUInt64 63)).toInt64) (Int64.ofInt_toInt _) (am_rL _) (fun H locs LS k z rest w => lv_lushr hx hb hdg rfl w) k
  case lcmp =>
    subst hr
    obtain ⟨b, a, st2, rfl, e2⟩ := iv_lcmp (len := 1) (x := x) (y := y) he
    cases e2
    exact sm_stk (us := [vL b, vL a]) (us2 := [vI (if a < b then -1 else if a = b then 0 else 1)]) (fun _ w hw => by rw [List.mem_singleton.mp hw]; show am_r32 _; unfold am_r32; split <;> (try split) <;> omega) (fun ad H locs LS k z rest q w => W.lcmp hx hb hdg (by rw [← am_o_cmp (q (vL a) (by simp)) (q (vL b) (by simp))]; exact w)) k
  case i2l =>
    subst hr
    obtain ⟨a, st2, rfl, e2⟩ := iv_i2l (len := 1) (x := x) (y := y) he
    cases e2
    exact sm_stk (us := [vI a]) (us2 := [vL a]) (fun q w hw => by rw [List.mem_singleton.mp hw]; exact am_32_64 (q (vI a) (by simp))) (fun ad H locs LS k z rest q w => lv_i2l hx hb hdg (am_o_i2l (q (vI a) (by simp))) w) k
  case l2i =>
    subst hr
    obtain ⟨a, st2, rfl, e2⟩ := iv_l2i (len := 1) (x := x) (y := y) he
    cases e2
    exact sm_stk (us := [vL a]) (us2 := [vI (am_w a)]) (fun q w hw => by rw [List.mem_singleton.mp hw]; exact am_w_r _) (fun ad H locs LS k z rest q w => lv_l2i hx hb hdg (am_o_l2i a) w) k
  case ifCond cnd off =>
    obtain ⟨rfl, ht⟩ := hr
    obtain ⟨a, st2, rfl, e2⟩ := iv_if (len := 3) (x := x) (y := y) he
    cases e2
    exact sm_if hx hb hdg ht k
  case if_icmp cnd off =>
    obtain ⟨rfl, ht⟩ := hr
    obtain ⟨b, a, st2, rfl, e2⟩ := iv_icmp (len := 3) (x := x) (y := y) he
    cases e2
    exact sm_icmp hx hb hdg ht k
  case goto off =>
    obtain ⟨rfl, ht⟩ := hr
    cases he
    exact sm_goto hx hb hdg ht k
  case tableswitch d lo hi offs =>
    obtain ⟨h0, h8⟩ := hr
    obtain ⟨a, st2, rfl, e2⟩ := iv_sw (len := len) (x := x) (y := y) he
    rcases e2 with ⟨q, e2⟩ | ⟨q, o, ho, e2⟩
    · cases e2
      exact sm_sw1 hx hb hdg q h0 k
    · cases e2
      exact sm_sw2 hx hb hdg q ho (h8 o (by rw [← Array.getElem?_toList] at ho; exact List.mem_of_getElem? ho)) k
  case getfield i =>
    obtain ⟨rfl, hf⟩ := hr
    obtain ⟨a, st2, rfl, ⟨q1, q2, q3⟩, e2⟩ := iv_gf (len := 3) (x := x) (y := y) he
    cases e2
    exact sm_gf hx hb hown hts hK hdg hf q1 q2 q3 k
  case putfield i =>
    obtain ⟨rfl, C, T, N, tyf, f1, f2, f3, f4, f5, f6, f7, f8⟩ := hr
    obtain ⟨v, a, st2, rfl, ⟨q1, q2, q3, q4⟩, e2⟩ := iv_pf (len := 3) (x := x) (y := y) he
    cases e2
    exact sm_pf tyf hx hb hown hts hK hdg f1 f2 f3 f4 f5 f6 f7 f8 q1 q2 q3 q4 k
  case iaload =>
    subst hr
    obtain ⟨i, a, st2, rfl, ⟨q1, q2, q3, q4⟩, e2⟩ := iv_ald (len := 1) (x := x) (y := y) (ok := fun k => k == 0) he
    cases e2
    exact sm_iald hx hb hK hdg q1 (by simpa using q2) q3 q4 k
  case baload =>
    subst hr
    obtain ⟨i, a, st2, rfl, ⟨q1, q2, q3, q4⟩, e2⟩ := iv_ald (len := 1) (x := x) (y := y) (ok := fun k => k == 1) he
    cases e2
    exact sm_zald hx hb hK hdg q1 (by simpa using q2) q3 q4 k
  case laload =>
    subst hr
    obtain ⟨i, a, st2, rfl, ⟨q1, q2, q3, q4⟩, e2⟩ := iv_ald (len := 1) (x := x) (y := y) (ok := fun k => k == 2) he
    cases e2
    exact sm_lald hx hb hK hdg q1 (by simpa using q2) q3 q4 k
  case aaload =>
    subst hr
    obtain ⟨i, a, st2, rfl, ⟨q1, q2, q3, q4⟩, e2⟩ := iv_ald (len := 1) (x := x) (y := y) (ok := fun k => decide (3 ≤ k) && decide (k < 7)) he
    cases e2
    simp only [Bool.and_eq_true, decide_eq_true_eq] at q2
    exact sm_aald hx hb hK hdg q1 q2.1 q2.2 q3 q4 k
  case iastore =>
    subst hr
    obtain ⟨v, i, a, st2, rfl, ⟨q1, q2, q3, q4, q5⟩, e2⟩ := iv_ast (len := 1) (x := x) (y := y) he
    cases e2
    exact sm_iast hx hb hK hdg q1 q2 q3 q4 q5 k
  case bastore =>
    subst hr
    obtain ⟨v, i, a, st2, rfl, ⟨q1, q2, q3, q4, q5⟩, e2⟩ := iv_ast (len := 1) (x := x) (y := y) he
    cases e2
    exact sm_zast hx hb hK hdg q1 q2 q3 q4 q5 k
  case lastore =>
    subst hr
    obtain ⟨v, i, a, st2, rfl, ⟨q1, q2, q3, q4, q5⟩, e2⟩ := iv_ast (len := 1) (x := x) (y := y) he
    cases e2
    exact sm_last hx hb hK hdg q1 q2 q3 q4 q5 k
  case aastore =>
    subst hr
    obtain ⟨b, i, a, st2, rfl, ⟨q1, q2, q3, q4, q5, q6, q7⟩, e2⟩ := iv_aast (len := 1) (x := x) (y := y) he
    cases e2
    rcases (show (h.2.2 a).1 = 4 ∨ (h.2.2 a).1 = 5 ∨ (h.2.2 a).1 = 6 by omega) with g | g | g
    · exact sm_aast (ci := 0) (r := (RX0, TX0, 11)) hx hb hK hdg q1 q2 (by omega) q4 rfl (by rw [g]; rfl) (by rw [q5, g]; rfl) q6 q7 k
    · exact sm_aast (ci := 2) (r := (RX2, TX2, 7)) hx hb hK hdg q1 q2 (by omega) q4 rfl (by rw [g]; rfl) (by rw [q5, g]; rfl) q6 q7 k
    · exact sm_aast (ci := 3) (r := (RX3, TX3, 5)) hx hb hK hdg q1 q2 (by omega) q4 rfl (by rw [g]; rfl) (by rw [q5, g]; rfl) q6 q7 k
  case arraylength =>
    subst hr
    obtain ⟨a, st2, rfl, ⟨q1, q2⟩, e2⟩ := iv_len (len := 1) (x := x) (y := y) he
    cases e2
    exact sm_len hx hb hK hdg q1 q2 k
  case new i =>
    obtain ⟨rfl, C, T, tyf, f1, f4, f5, f7, f8, f9, f10⟩ := hr
    cases he
    exact sm_new tyf hx hb hown hts hK hA hdg f1 f4 f5 f7 f8 f9 f10 hrc hrs k
  case newarray at9 =>
    obtain ⟨rfl, f1, f2⟩ := hr
    obtain ⟨n, st2, rfl, ⟨q1, q2, q3, q4⟩, e2⟩ := iv_newa (len := 2) (x := x) (y := y) he
    cases e2
    exact sm_newa hx hb hts hK hA hdg (by omega) f1 f2 q1 q2 hrc hrs k
  case anewarray i =>
    obtain ⟨rfl, C, f1, f2⟩ := hr
    obtain ⟨n, st2, rfl, ⟨q1, q2, q3, q4⟩, e2⟩ := iv_newa (len := 3) (x := x) (y := y) he
    cases e2
    exact sm_newq hx hb hown hts hK hA hdg q3 (by omega) f1 f2 (am_AO.at hO q3 (by omega) f1) q1 q2 hrc hrs k
  case multianewarray i d =>
    obtain ⟨rfl, rfl, f1, f3⟩ := hr
    obtain ⟨k9, n, st2, rfl, ⟨q1, q2, q3, q4⟩, e2⟩ := iv_mna (len := 4) (x := x) (y := y) he
    cases e2
    exact sm_mna hx hb hown hts hK hA hdg f1 hO.2.2.2 f3 q1 q2 q3 q4 hrc hrs k
  case dup =>
    subst hr
    obtain ⟨v, st2, rfl, q, e2⟩ := iv_dup (len := 1) (x := x) (y := y) he
    cases e2
    exact sm_stk (us := [v]) (us2 := [v, v]) (fun q w hw => q w (by simpa using hw)) (fun ad H locs LS k z rest _ w => lv_dup hx hb hdg (am_is02 q) w) k
  case dup2 =>
    subst hr
    obtain ⟨v, w9, st2, rfl, q, e2⟩ := iv_dup2 (len := 1) (x := x) (y := y) he
    cases e2
    rw [Bool.and_eq_true] at q
    exact sm_stk (us := [v, w9]) (us2 := [v, w9, v, w9]) (fun q w hw => q w (by simp at hw ⊢; rcases hw with h | h | h | h <;> simp [h])) (fun ad H locs LS k z rest _ w => lv_dup2_11 hx hb hdg (am_is02 q.1) (am_is02 q.2) w) k
  case pop =>
    subst hr
    obtain ⟨v, st2, rfl, q, e2⟩ := iv_pop (len := 1) (x := x) (y := y) he
    obtain ⟨z, rfl⟩ := am_is0 q
    cases e2
    exact sm_stk (us := [vI z]) (us2 := []) (fun _ w hw => by simp at hw) (fun ad H locs LS k z rest _ w => lv_pop hx hb hdg rfl w) k
  case pop2 =>
    subst hr
    obtain ⟨v, st2, rfl, q, e2⟩ := iv_pop (len := 1) (x := x) (y := y) he
    obtain ⟨z, rfl⟩ := am_is1 q
    cases e2
    exact sm_stk (us := [vL z]) (us2 := []) (fun _ w hw => by simp at hw) (fun ad H locs LS k z rest _ w => lv_pop2_2 hx hb hdg rfl w) k
  case invokevirtual i =>
    obtain ⟨rfl, g1, g2⟩ := hr
    rcases iv_inv (len := 3) (x := x) (y := y) he with ⟨q, -⟩ | ⟨q, -⟩ | ⟨-, -, -, -, -, e2⟩
    · exact absurd q g1
    · exact absurd q g2
    · cases e2
  case invokestatic i =>
    obtain ⟨rfl, g1, g2⟩ := hr
    rcases iv_inv (len := 3) (x := x) (y := y) he with ⟨q, -⟩ | ⟨q, e2⟩ | ⟨-, -, -, -, -, e2⟩
    · exact absurd q g1
    · obtain ⟨f1, f2, f3, f4, f5, f6⟩ := g2 q
      obtain ⟨n, dp, b, sp, a, rfl, ⟨q1, q2, q3, q4, q5, q6, q7, q8, q9⟩, e3⟩ := iv_acopy (len := 3) (x := x) (y := y) e2
      cases e3
      exact sm_copy hx hb hml hown hts hK hdg f1 f2 f3 f4 f5 f6 q1 q2 q3 q4 q5 q6 q7 q8 q9 k
    · cases e2
  case invokespecial i =>
    obtain ⟨rfl, g1, g2⟩ := hr
    rcases iv_inv (len := 3) (x := x) (y := y) he with ⟨q, a, rfl, e2⟩ | ⟨q, -⟩ | ⟨-, -, -, -, -, e2⟩
    · obtain ⟨f1, f2, f3, f4, f5⟩ := g2 q
      cases e2
      exact sm_obj hx hb hml hown hts hdg f1 f2 f3 f4 f5 k
    · exact absurd q g1
    · cases e2
  case ireturn =>
    obtain ⟨v, -, -, e2⟩ := iv_ret (len := len) (x := x) (y := y) he
    cases e2
  case lreturn =>
    obtain ⟨v, -, -, e2⟩ := iv_ret (len := len) (x := x) (y := y) he
    cases e2
  case return_ =>
    obtain ⟨-, e2⟩ := iv_retv (len := len) (x := x) (y := y) he
    cases e2
  all_goals exact absurd hr id
end SM
/-- a step makes cells, takes none away -/
def am_mr (h : am_H) (r : am_S ⊕ ((Nat × List am_V × am_S) ⊕ (Option am_V × am_H))) : Prop := match r with
  | .inl t => h.1 ≤ t.2.2.2.1 ∧ h.2.1 ≤ t.2.2.2.2.1
  | .inr (.inl q) => q.2.2.2.2.2 = h
  | .inr (.inr q) => q.2 = h
theorem mn_load {k i : Nat} {len x y pc : Nat} {ls st : List am_V} {h : am_H} {r} (e : am_load k i len x y (pc, ls, st, h) = some r) : am_mr h r := by
  obtain ⟨_, _, _, e2⟩ := iv_load e
  rw [e2]
  exact ⟨Nat.le_refl _, Nat.le_refl _⟩
theorem mn_stor {k i : Nat} {len x y pc : Nat} {ls st : List am_V} {h : am_H} {r} (e : am_stor k i len x y (pc, ls, st, h) = some r) : am_mr h r := by
  obtain ⟨_, _, _, _, _, e2⟩ := iv_stor e
  rw [e2]
  exact ⟨Nat.le_refl _, Nat.le_refl _⟩
theorem mn_storl {i : Nat} {len x y pc : Nat} {ls st : List am_V} {h : am_H} {r} (e : am_storl i len x y (pc, ls, st, h) = some r) : am_mr h r := by
  obtain ⟨_, _, _, _, e2⟩ := iv_storl e
  rw [e2]
  exact ⟨Nat.le_refl _, Nat.le_refl _⟩
theorem mn_iinc {i : Nat} {n : Int} {len x y pc : Nat} {ls st : List am_V} {h : am_H} {r} (e : am_iinc i n len x y (pc, ls, st, h) = some r) : am_mr h r := by
  obtain ⟨_, _, e2⟩ := iv_iinc e
  rw [e2]
  exact ⟨Nat.le_refl _, Nat.le_refl _⟩
theorem mn_bin {f : Int → Int → Option Int} {len x y pc : Nat} {ls st : List am_V} {h : am_H} {r} (e : am_bin f len x y (pc, ls, st, h) = some r) : am_mr h r := by
  obtain ⟨_, _, _, _, _, _, e2⟩ := iv_bin e
  rw [e2]
  exact ⟨Nat.le_refl _, Nat.le_refl _⟩
theorem mn_binl {f : Int → Int → Option Int} {len x y pc : Nat} {ls st : List am_V} {h : am_H} {r} (e : am_binl f len x y (pc, ls, st, h) = some r) : am_mr h r := by
  obtain ⟨_, _, _, _, _, _, e2⟩ := iv_binl e
  rw [e2]
  exact ⟨Nat.le_refl _, Nat.le_refl _⟩
theorem mn_shl {f : Int → Int → Option Int} {len x y pc : Nat} {ls st : List am_V} {h : am_H} {r} (e : am_shl f len x y (pc, ls, st, h) = some r) : am_mr h r := by
  obtain ⟨_, _, _, _, _, _, e2⟩ := iv_shl e
  rw [e2]
  exact ⟨Nat.le_refl _, Nat.le_refl _⟩
theorem mn_un {f : Int → Int} {len x y pc : Nat} {ls st : List am_V} {h : am_H} {r} (e : am_un f len x y (pc, ls, st, h) = some r) : am_mr h r := by
  obtain ⟨_, _, _, e2⟩ := iv_un e
  rw [e2]
  exact ⟨Nat.le_refl _, Nat.le_refl _⟩
theorem mn_unl {f : Int → Int} {len x y pc : Nat} {ls st : List am_V} {h : am_H} {r} (e : am_unl f len x y (pc, ls, st, h) = some r) : am_mr h r := by
  obtain ⟨_, _, _, e2⟩ := iv_unl e
  rw [e2]
  exact ⟨Nat.le_refl _, Nat.le_refl _⟩
theorem mn_lcmp {len x y pc : Nat} {ls st : List am_V} {h : am_H} {r} (e : am_lcmp len x y (pc, ls, st, h) = some r) : am_mr h r := by
  obtain ⟨_, _, _, _, e2⟩ := iv_lcmp e
  rw [e2]
  exact ⟨Nat.le_refl _, Nat.le_refl _⟩
theorem mn_i2l {len x y pc : Nat} {ls st : List am_V} {h : am_H} {r} (e : am_i2l len x y (pc, ls, st, h) = some r) : am_mr h r := by
  obtain ⟨_, _, _, e2⟩ := iv_i2l e
  rw [e2]
  exact ⟨Nat.le_refl _, Nat.le_refl _⟩
theorem mn_l2i {len x y pc : Nat} {ls st : List am_V} {h : am_H} {r} (e : am_l2i len x y (pc, ls, st, h) = some r) : am_mr h r := by
  obtain ⟨_, _, _, e2⟩ := iv_l2i e
  rw [e2]
  exact ⟨Nat.le_refl _, Nat.le_refl _⟩
theorem mn_if {cnd : Jvm.ClassFile.Cond} {len x y pc : Nat} {ls st : List am_V} {h : am_H} {r} (e : am_if cnd len x y (pc, ls, st, h) = some r) : am_mr h r := by
  obtain ⟨_, _, _, e2⟩ := iv_if e
  rw [e2]
  exact ⟨Nat.le_refl _, Nat.le_refl _⟩
theorem mn_icmp {cnd : Jvm.ClassFile.Cond} {len x y pc : Nat} {ls st : List am_V} {h : am_H} {r} (e : am_icmp cnd len x y (pc, ls, st, h) = some r) : am_mr h r := by
  obtain ⟨_, _, _, _, e2⟩ := iv_icmp e
  rw [e2]
  exact ⟨Nat.le_refl _, Nat.le_refl _⟩
theorem mn_gf {len x y pc : Nat} {ls st : List am_V} {h : am_H} {r} (e : am_gf len x y (pc, ls, st, h) = some r) : am_mr h r := by
  obtain ⟨_, _, _, _, e2⟩ := iv_gf e
  rw [e2]
  exact ⟨Nat.le_refl _, Nat.le_refl _⟩
theorem mn_pf {ft : am_ft} {len x y pc : Nat} {ls st : List am_V} {h : am_H} {r} (e : am_pf ft len x y (pc, ls, st, h) = some r) : am_mr h r := by
  obtain ⟨_, _, _, _, _, e2⟩ := iv_pf e
  rw [e2]
  exact ⟨Nat.le_refl _, Nat.le_refl _⟩
theorem mn_ald {ok : Nat → Bool} {len x y pc : Nat} {ls st : List am_V} {h : am_H} {r} (e : am_ald ok len x y (pc, ls, st, h) = some r) : am_mr h r := by
  obtain ⟨_, _, _, _, _, e2⟩ := iv_ald e
  rw [e2]
  exact ⟨Nat.le_refl _, Nat.le_refl _⟩
theorem mn_ast {k vk : Nat} {len x y pc : Nat} {ls st : List am_V} {h : am_H} {r} (e : am_ast k vk len x y (pc, ls, st, h) = some r) : am_mr h r := by
  obtain ⟨_, _, _, _, _, _, e2⟩ := iv_ast e
  rw [e2]
  exact ⟨Nat.le_refl _, Nat.le_refl _⟩
theorem mn_aast {len x y pc : Nat} {ls st : List am_V} {h : am_H} {r} (e : am_aast len x y (pc, ls, st, h) = some r) : am_mr h r := by
  obtain ⟨_, _, _, _, _, _, e2⟩ := iv_aast e
  rw [e2]
  exact ⟨Nat.le_refl _, Nat.le_refl _⟩
theorem mn_len {len x y pc : Nat} {ls st : List am_V} {h : am_H} {r} (e : am_len len x y (pc, ls, st, h) = some r) : am_mr h r := by
  obtain ⟨_, _, _, _, e2⟩ := iv_len e
  rw [e2]
  exact ⟨Nat.le_refl _, Nat.le_refl _⟩
theorem mn_dup {len x y pc : Nat} {ls st : List am_V} {h : am_H} {r} (e : am_dup len x y (pc, ls, st, h) = some r) : am_mr h r := by
  obtain ⟨_, _, _, _, e2⟩ := iv_dup e
  rw [e2]
  exact ⟨Nat.le_refl _, Nat.le_refl _⟩
theorem mn_dup2 {len x y pc : Nat} {ls st : List am_V} {h : am_H} {r} (e : am_dup2 len x y (pc, ls, st, h) = some r) : am_mr h r := by
  obtain ⟨_, _, _, _, _, e2⟩ := iv_dup2 e
  rw [e2]
  exact ⟨Nat.le_refl _, Nat.le_refl _⟩
theorem mn_pop {k : Nat} {len x y pc : Nat} {ls st : List am_V} {h : am_H} {r} (e : am_pop k len x y (pc, ls, st, h) = some r) : am_mr h r := by
  obtain ⟨_, _, _, _, e2⟩ := iv_pop e
  rw [e2]
  exact ⟨Nat.le_refl _, Nat.le_refl _⟩
theorem mn_newa {lo hi : Nat} {len x y pc : Nat} {ls st : List am_V} {h : am_H} {r} (e : am_newa lo hi len x y (pc, ls, st, h) = some r) : am_mr h r := by
  obtain ⟨_, _, _, _, e2⟩ := iv_newa e
  rw [e2]
  exact ⟨Nat.le_succ _, Nat.le_add_right _ _⟩
theorem mn_mna {len x y pc : Nat} {ls st : List am_V} {h : am_H} {r} (e : am_mna len x y (pc, ls, st, h) = some r) : am_mr h r := by
  obtain ⟨_, _, _, _, _, e2⟩ := iv_mna e
  rw [e2]
  exact ⟨by show h.1 ≤ h.1 + 1 + _; omega, by show h.2.1 ≤ h.2.1 + _ + _; omega⟩
theorem mn_sem {ft : am_ft} {ins : Instr} {len x y pc : Nat} {ls st : List am_V} {h : am_H} {r} (he : am_sem ft ins len x y (pc, ls, st, h) = some r) : am_mr h r := by
  cases ins
  case iload_n _ => exact mn_load (len := len) (x := x) (y := y) he
  case iload _ => exact mn_load (len := len) (x := x) (y := y) he
  case lload_n _ => exact mn_load (len := len) (x := x) (y := y) he
  case lload _ => exact mn_load (len := len) (x := x) (y := y) he
  case aload_n _ => exact mn_load (len := len) (x := x) (y := y) he
  case aload _ => exact mn_load (len := len) (x := x) (y := y) he
  case istore_n _ => exact mn_stor (len := len) (x := x) (y := y) he
  case istore _ => exact mn_stor (len := len) (x := x) (y := y) he
  case astore_n _ => exact mn_stor (len := len) (x := x) (y := y) he
  case astore _ => exact mn_stor (len := len) (x := x) (y := y) he
  case lstore_n _ => exact mn_storl (len := len) (x := x) (y := y) he
  case lstore _ => exact mn_storl (len := len) (x := x) (y := y) he
  case iinc _ _ => exact mn_iinc (len := len) (x := x) (y := y) he
  case iadd => exact mn_bin (len := len) (x := x) (y := y) he
  case isub => exact mn_bin (len := len) (x := x) (y := y) he
  case imul => exact mn_bin (len := len) (x := x) (y := y) he
  case idiv => exact mn_bin (len := len) (x := x) (y := y) he
  case irem => exact mn_bin (len := len) (x := x) (y := y) he
  case iand => exact mn_bin (len := len) (x := x) (y := y) he
  case ixor => exact mn_bin (len := len) (x := x) (y := y) he
  case ishl => exact mn_bin (len := len) (x := x) (y := y) he
  case ishr => exact mn_bin (len := len) (x := x) (y := y) he
  case ladd => exact mn_binl (len := len) (x := x) (y := y) he
  case lmul => exact mn_binl (len := len) (x := x) (y := y) he
  case ldiv => exact mn_binl (len := len) (x := x) (y := y) he
  case land => exact mn_binl (len := len) (x := x) (y := y) he
  case lor => exact mn_binl (len := len) (x := x) (y := y) he
  case lshl => exact mn_shl (len := len) (x := x) (y := y) he
  case lshr => exact mn_shl (len := len) (x := x) (y := y) he
  case lushr => exact mn_shl (len := len) (x := x) (y := y) he
  case ineg => exact mn_un (len := len) (x := x) (y := y) he
  case lneg => exact mn_unl (len := len) (x := x) (y := y) he
  case lcmp => exact mn_lcmp (len := len) (x := x) (y := y) he
  case i2l => exact mn_i2l (len := len) (x := x) (y := y) he
  case l2i => exact mn_l2i (len := len) (x := x) (y := y) he
  case ifCond _ _ => exact mn_if (len := len) (x := x) (y := y) he
  case if_icmp _ _ => exact mn_icmp (len := len) (x := x) (y := y) he
  case getfield _ => exact mn_gf (len := len) (x := x) (y := y) he
  case putfield _ => exact mn_pf (len := len) (x := x) (y := y) he
  case iaload => exact mn_ald (len := len) (x := x) (y := y) (ok := fun k => k == 0) he
  case baload => exact mn_ald (len := len) (x := x) (y := y) (ok := fun k => k == 1) he
  case laload => exact mn_ald (len := len) (x := x) (y := y) (ok := fun k => k == 2) he
  case aaload => exact mn_ald (len := len) (x := x) (y := y) (ok := fun k => decide (3 ≤ k) && decide (k < 7)) he
  case iastore => exact mn_ast (len := len) (x := x) (y := y) he
  case bastore => exact mn_ast (len := len) (x := x) (y := y) he
  case lastore => exact mn_ast (len := len) (x := x) (y := y) he
  case aastore => exact mn_aast (len := len) (x := x) (y := y) he
  case arraylength => exact mn_len (len := len) (x := x) (y := y) he
  case dup => exact mn_dup (len := len) (x := x) (y := y) he
  case dup2 => exact mn_dup2 (len := len) (x := x) (y := y) he
  case pop => exact mn_pop (len := len) (x := x) (y := y) he
  case pop2 => exact mn_pop (len := len) (x := x) (y := y) he
  case newarray _ => exact mn_newa (len := len) (x := x) (y := y) he
  case anewarray _ => exact mn_newa (len := len) (x := x) (y := y) he
  case multianewarray _ _ => exact mn_mna (len := len) (x := x) (y := y) he
  case iconst _ => cases he; exact ⟨Nat.le_refl _, Nat.le_refl _⟩
  case bipush _ => cases he; exact ⟨Nat.le_refl _, Nat.le_refl _⟩
  case sipush _ => cases he; exact ⟨Nat.le_refl _, Nat.le_refl _⟩
  case lconst _ => cases he; exact ⟨Nat.le_refl _, Nat.le_refl _⟩
  case ldc _ => cases he; exact ⟨Nat.le_refl _, Nat.le_refl _⟩
  case ldc2_w _ => cases he; exact ⟨Nat.le_refl _, Nat.le_refl _⟩
  case goto _ => cases he; exact ⟨Nat.le_refl _, Nat.le_refl _⟩
  case new _ => cases he; exact ⟨Nat.le_succ _, Nat.le_add_right _ _⟩
  case tableswitch d lo hi offs =>
    obtain ⟨a, st2, -, q | ⟨-, o, -, q⟩⟩ := iv_sw (len := len) (x := x) (y := y) he
    · rw [q.2]; exact ⟨Nat.le_refl _, Nat.le_refl _⟩
    · rw [q]; exact ⟨Nat.le_refl _, Nat.le_refl _⟩
  case ireturn => obtain ⟨v, -, -, e2⟩ := iv_ret (len := len) (x := x) (y := y) he; rw [e2]; rfl
  case lreturn => obtain ⟨v, -, -, e2⟩ := iv_ret (len := len) (x := x) (y := y) he; rw [e2]; rfl
  case return_ => obtain ⟨-, e2⟩ := iv_retv (len := len) (x := x) (y := y) he; rw [e2]; rfl
  case invokevirtual _ =>
    rcases iv_inv (len := len) (x := x) (y := y) he with ⟨-, a, -, e2⟩ | ⟨-, e2⟩ | ⟨-, -, -, -, -, e2⟩
    · rw [e2]; exact ⟨Nat.le_refl _, Nat.le_refl _⟩
    · obtain ⟨_, _, _, _, _, -, -, e3⟩ := iv_acopy (len := len) (x := x) (y := y) e2
      rw [e3]; exact ⟨Nat.le_refl _, Nat.le_refl _⟩
    · rw [e2]; rfl
  case invokestatic _ =>
    rcases iv_inv (len := len) (x := x) (y := y) he with ⟨-, a, -, e2⟩ | ⟨-, e2⟩ | ⟨-, -, -, -, -, e2⟩
    · rw [e2]; exact ⟨Nat.le_refl _, Nat.le_refl _⟩
    · obtain ⟨_, _, _, _, _, -, -, e3⟩ := iv_acopy (len := len) (x := x) (y := y) e2
      rw [e3]; exact ⟨Nat.le_refl _, Nat.le_refl _⟩
    · rw [e2]; rfl
  case invokespecial _ =>
    rcases iv_inv (len := len) (x := x) (y := y) he with ⟨-, a, -, e2⟩ | ⟨-, e2⟩ | ⟨-, -, -, -, -, e2⟩
    · rw [e2]; exact ⟨Nat.le_refl _, Nat.le_refl _⟩
    · obtain ⟨_, _, _, _, _, -, -, e3⟩ := iv_acopy (len := len) (x := x) (y := y) e2
      rw [e3]; exact ⟨Nat.le_refl _, Nat.le_refl _⟩
    · rw [e2]; rfl
  all_goals cases he
theorem mn_1 {ft : am_ft} {C : am_C} {t : am_S} {r} (h : am_1 ft C t = some r) : ∃ row, am_row C t.1 = some row ∧ am_sem ft row.1 row.2.1 row.2.2.1 row.2.2.2 t = some r := by
  unfold am_1 at h
  split at h
  · rename_i row hrow
    exact ⟨row, hrow, h⟩
  · cases h
theorem mn_x {P : am_P} : ∀ (n : Nat) {C : am_C} {t : am_S} {r : Option am_V} {h2 : am_H}, am_x P n C t = some (r, h2) → t.2.2.2.1 ≤ h2.1 ∧ t.2.2.2.2.1 ≤ h2.2.1
  | 0, C, t, r, h2, h => by cases h
  | n + 1, C, t, r, h2, h => by
    obtain ⟨pc, ls, st, hp⟩ := t
    unfold am_x at h
    split at h
    · cases h
    · rename_i t2 e1
      obtain ⟨row, -, e2⟩ := mn_1 e1
      have m1 := mn_sem e2
      have m2 := mn_x n h
      exact ⟨Nat.le_trans m1.1 m2.1, Nat.le_trans m1.2 m2.2⟩
    · rename_i q e1
      obtain ⟨row, -, e2⟩ := mn_1 e1
      have m1 : q.2.2.2.2.2 = hp := mn_sem e2
      split at h
      · cases h
      · rename_i M hM
        split at h
        · split at h
          · cases h
          · rename_i r2 h3
            obtain ⟨r2, h4⟩ := r2
            have m2 := mn_x n h3
            have m3 := mn_x n h
            rw [m1] at m2
            exact ⟨Nat.le_trans m2.1 m3.1, Nat.le_trans m2.2 m3.2⟩
        · cases h
    · rename_i q e1
      obtain ⟨row, -, e2⟩ := mn_1 e1
      have m1 : q.2 = hp := mn_sem e2
      have := Option.some.inj h
      subst this
      have m1 : h2 = hp := m1
      subst m1
      exact ⟨Nat.le_refl _, Nat.le_refl _⟩
theorem kd_load {k i : Nat} {len x y pc : Nat} {ls st : List am_V} {h : am_H} {r} (e : am_load k i len x y (pc, ls, st, h) = some r) : ∃ t : am_S, r = .inl t := by
  obtain ⟨_, _, _, e2⟩ := iv_load e
  exact ⟨_, e2⟩
theorem kd_stor {k i : Nat} {len x y pc : Nat} {ls st : List am_V} {h : am_H} {r} (e : am_stor k i len x y (pc, ls, st, h) = some r) : ∃ t : am_S, r = .inl t := by
  obtain ⟨_, _, _, _, _, e2⟩ := iv_stor e
  exact ⟨_, e2⟩
theorem kd_storl {i : Nat} {len x y pc : Nat} {ls st : List am_V} {h : am_H} {r} (e : am_storl i len x y (pc, ls, st, h) = some r) : ∃ t : am_S, r = .inl t := by
  obtain ⟨_, _, _, _, e2⟩ := iv_storl e
  exact ⟨_, e2⟩
theorem kd_iinc {i : Nat} {n : Int} {len x y pc : Nat} {ls st : List am_V} {h : am_H} {r} (e : am_iinc i n len x y (pc, ls, st, h) = some r) : ∃ t : am_S, r = .inl t := by
  obtain ⟨_, _, e2⟩ := iv_iinc e
  exact ⟨_, e2⟩
theorem kd_bin {f : Int → Int → Option Int} {len x y pc : Nat} {ls st : List am_V} {h : am_H} {r} (e : am_bin f len x y (pc, ls, st, h) = some r) : ∃ t : am_S, r = .inl t := by
  obtain ⟨_, _, _, _, _, _, e2⟩ := iv_bin e
  exact ⟨_, e2⟩
theorem kd_binl {f : Int → Int → Option Int} {len x y pc : Nat} {ls st : List am_V} {h : am_H} {r} (e : am_binl f len x y (pc, ls, st, h) = some r) : ∃ t : am_S, r = .inl t := by
  obtain ⟨_, _, _, _, _, _, e2⟩ := iv_binl e
  exact ⟨_, e2⟩
theorem kd_shl {f : Int → Int → Option Int} {len x y pc : Nat} {ls st : List am_V} {h : am_H} {r} (e : am_shl f len x y (pc, ls, st, h) = some r) : ∃ t : am_S, r = .inl t := by
  obtain ⟨_, _, _, _, _, _, e2⟩ := iv_shl e
  exact ⟨_, e2⟩
theorem kd_un {f : Int → Int} {len x y pc : Nat} {ls st : List am_V} {h : am_H} {r} (e : am_un f len x y (pc, ls, st, h) = some r) : ∃ t : am_S, r = .inl t := by
  obtain ⟨_, _, _, e2⟩ := iv_un e
  exact ⟨_, e2⟩
theorem kd_unl {f : Int → Int} {len x y pc : Nat} {ls st : List am_V} {h : am_H} {r} (e : am_unl f len x y (pc, ls, st, h) = some r) : ∃ t : am_S, r = .inl t := by
  obtain ⟨_, _, _, e2⟩ := iv_unl e
  exact ⟨_, e2⟩
theorem kd_lcmp {len x y pc : Nat} {ls st : List am_V} {h : am_H} {r} (e : am_lcmp len x y (pc, ls, st, h) = some r) : ∃ t : am_S, r = .inl t := by
  obtain ⟨_, _, _, _, e2⟩ := iv_lcmp e
  exact ⟨_, e2⟩
theorem kd_i2l {len x y pc : Nat} {ls st : List am_V} {h : am_H} {r} (e : am_i2l len x y (pc, ls, st, h) = some r) : ∃ t : am_S, r = .inl t := by
  obtain ⟨_, _, _, e2⟩ := iv_i2l e
  exact ⟨_, e2⟩
theorem kd_l2i {len x y pc : Nat} {ls st : List am_V} {h : am_H} {r} (e : am_l2i len x y (pc, ls, st, h) = some r) : ∃ t : am_S, r = .inl t := by
  obtain ⟨_, _, _, e2⟩ := iv_l2i e
  exact ⟨_, e2⟩
theorem kd_if {cnd : Jvm.ClassFile.Cond} {len x y pc : Nat} {ls st : List am_V} {h : am_H} {r} (e : am_if cnd len x y (pc, ls, st, h) = some r) : ∃ t : am_S, r = .inl t := by
  obtain ⟨_, _, _, e2⟩ := iv_if e
  exact ⟨_, e2⟩
theorem kd_icmp {cnd : Jvm.ClassFile.Cond} {len x y pc : Nat} {ls st : List am_V} {h : am_H} {r} (e : am_icmp cnd len x y (pc, ls, st, h) = some r) : ∃ t : am_S, r = .inl t := by
  obtain ⟨_, _, _, _, e2⟩ := iv_icmp e
  exact ⟨_, e2⟩
theorem kd_gf {len x y pc : Nat} {ls st : List am_V} {h : am_H} {r} (e : am_gf len x y (pc, ls, st, h) = some r) : ∃ t : am_S, r = .inl t := by
  obtain ⟨_, _, _, _, e2⟩ := iv_gf e
  exact ⟨_, e2⟩
theorem kd_pf {ft : am_ft} {len x y pc : Nat} {ls st : List am_V} {h : am_H} {r} (e : am_pf ft len x y (pc, ls, st, h) = some r) : ∃ t : am_S, r = .inl t := by
  obtain ⟨_, _, _, _, _, e2⟩ := iv_pf e
  exact ⟨_, e2⟩
theorem kd_ald {ok : Nat → Bool} {len x y pc : Nat} {ls st : List am_V} {h : am_H} {r} (e : am_ald ok len x y (pc, ls, st, h) = some r) : ∃ t : am_S, r = .inl t := by
  obtain ⟨_, _, _, _, _, e2⟩ := iv_ald e
  exact ⟨_, e2⟩
theorem kd_ast {k vk : Nat} {len x y pc : Nat} {ls st : List am_V} {h : am_H} {r} (e : am_ast k vk len x y (pc, ls, st, h) = some r) : ∃ t : am_S, r = .inl t := by
  obtain ⟨_, _, _, _, _, _, e2⟩ := iv_ast e
  exact ⟨_, e2⟩
theorem kd_aast {len x y pc : Nat} {ls st : List am_V} {h : am_H} {r} (e : am_aast len x y (pc, ls, st, h) = some r) : ∃ t : am_S, r = .inl t := by
  obtain ⟨_, _, _, _, _, _, e2⟩ := iv_aast e
  exact ⟨_, e2⟩
theorem kd_len {len x y pc : Nat} {ls st : List am_V} {h : am_H} {r} (e : am_len len x y (pc, ls, st, h) = some r) : ∃ t : am_S, r = .inl t := by
  obtain ⟨_, _, _, _, e2⟩ := iv_len e
  exact ⟨_, e2⟩
theorem kd_dup {len x y pc : Nat} {ls st : List am_V} {h : am_H} {r} (e : am_dup len x y (pc, ls, st, h) = some r) : ∃ t : am_S, r = .inl t := by
  obtain ⟨_, _, _, _, e2⟩ := iv_dup e
  exact ⟨_, e2⟩
theorem kd_dup2 {len x y pc : Nat} {ls st : List am_V} {h : am_H} {r} (e : am_dup2 len x y (pc, ls, st, h) = some r) : ∃ t : am_S, r = .inl t := by
  obtain ⟨_, _, _, _, _, e2⟩ := iv_dup2 e
  exact ⟨_, e2⟩
theorem kd_pop {k : Nat} {len x y pc : Nat} {ls st : List am_V} {h : am_H} {r} (e : am_pop k len x y (pc, ls, st, h) = some r) : ∃ t : am_S, r = .inl t := by
  obtain ⟨_, _, _, _, e2⟩ := iv_pop e
  exact ⟨_, e2⟩
theorem kd_newa {lo hi : Nat} {len x y pc : Nat} {ls st : List am_V} {h : am_H} {r} (e : am_newa lo hi len x y (pc, ls, st, h) = some r) : ∃ t : am_S, r = .inl t := by
  obtain ⟨_, _, _, _, e2⟩ := iv_newa e
  exact ⟨_, e2⟩
theorem kd_mna {len x y pc : Nat} {ls st : List am_V} {h : am_H} {r} (e : am_mna len x y (pc, ls, st, h) = some r) : ∃ t : am_S, r = .inl t := by
  obtain ⟨_, _, _, _, _, e2⟩ := iv_mna e
  exact ⟨_, e2⟩
/-- a step goes on, calls or ends -/
theorem am_kind {ft : am_ft} {ins : Instr} {len x y pc : Nat} {ls st : List am_V} {h : am_H} {r} (he : am_sem ft ins len x y (pc, ls, st, h) = some r) : (∃ t : am_S, r = .inl t) ∨ (∃ i, (ins = .invokevirtual i ∨ ins = .invokestatic i ∨ ins = .invokespecial i) ∧ am_inv len x y (pc, ls, st, h) = some r) ∨ ((ins = .ireturn ∨ ins = .lreturn) ∧ am_ret len x y (pc, ls, st, h) = some r) ∨ (ins = .return_ ∧ am_retv len x y (pc, ls, st, h) = some r) := by
  cases ins
  case iload_n _ => exact Or.inl (kd_load (len := len) (x := x) (y := y) he)
  case iload _ => exact Or.inl (kd_load (len := len) (x := x) (y := y) he)
  case lload_n _ => exact Or.inl (kd_load (len := len) (x := x) (y := y) he)
  case lload _ => exact Or.inl (kd_load (len := len) (x := x) (y := y) he)
  case aload_n _ => exact Or.inl (kd_load (len := len) (x := x) (y := y) he)
  case aload _ => exact Or.inl (kd_load (len := len) (x := x) (y := y) he)
  case istore_n _ => exact Or.inl (kd_stor (len := len) (x := x) (y := y) he)
  case istore _ => exact Or.inl (kd_stor (len := len) (x := x) (y := y) he)
  case astore_n _ => exact Or.inl (kd_stor (len := len) (x := x) (y := y) he)
  case astore _ => exact Or.inl (kd_stor (len := len) (x := x) (y := y) he)
  case lstore_n _ => exact Or.inl (kd_storl (len := len) (x := x) (y := y) he)
  case lstore _ => exact Or.inl (kd_storl (len := len) (x := x) (y := y) he)
  case iinc _ _ => exact Or.inl (kd_iinc (len := len) (x := x) (y := y) he)
  case iadd => exact Or.inl (kd_bin (len := len) (x := x) (y := y) he)
  case isub => exact Or.inl (kd_bin (len := len) (x := x) (y := y) he)
  case imul => exact Or.inl (kd_bin (len := len) (x := x) (y := y) he)
  case idiv => exact Or.inl (kd_bin (len := len) (x := x) (y := y) he)
  case irem => exact Or.inl (kd_bin (len := len) (x := x) (y := y) he)
  case iand => exact Or.inl (kd_bin (len := len) (x := x) (y := y) he)
  case ixor => exact Or.inl (kd_bin (len := len) (x := x) (y := y) he)
  case ishl => exact Or.inl (kd_bin (len := len) (x := x) (y := y) he)
  case ishr => exact Or.inl (kd_bin (len := len) (x := x) (y := y) he)
  case ladd => exact Or.inl (kd_binl (len := len) (x := x) (y := y) he)
  case lmul => exact Or.inl (kd_binl (len := len) (x := x) (y := y) he)
  case ldiv => exact Or.inl (kd_binl (len := len) (x := x) (y := y) he)
  case land => exact Or.inl (kd_binl (len := len) (x := x) (y := y) he)
  case lor => exact Or.inl (kd_binl (len := len) (x := x) (y := y) he)
  case lshl => exact Or.inl (kd_shl (len := len) (x := x) (y := y) he)
  case lshr => exact Or.inl (kd_shl (len := len) (x := x) (y := y) he)
  case lushr => exact Or.inl (kd_shl (len := len) (x := x) (y := y) he)
  case ineg => exact Or.inl (kd_un (len := len) (x := x) (y := y) he)
  case lneg => exact Or.inl (kd_unl (len := len) (x := x) (y := y) he)
  case lcmp => exact Or.inl (kd_lcmp (len := len) (x := x) (y := y) he)
  case i2l => exact Or.inl (kd_i2l (len := len) (x := x) (y := y) he)
  case l2i => exact Or.inl (kd_l2i (len := len) (x := x) (y := y) he)
  case ifCond _ _ => exact Or.inl (kd_if (len := len) (x := x) (y := y) he)
  case if_icmp _ _ => exact Or.inl (kd_icmp (len := len) (x := x) (y := y) he)
  case getfield _ => exact Or.inl (kd_gf (len := len) (x := x) (y := y) he)
  case putfield _ => exact Or.inl (kd_pf (len := len) (x := x) (y := y) he)
  case iaload => exact Or.inl (kd_ald (len := len) (x := x) (y := y) (ok := fun k => k == 0) he)
  case baload => exact Or.inl (kd_ald (len := len) (x := x) (y := y) (ok := fun k => k == 1) he)
  case laload => exact Or.inl (kd_ald (len := len) (x := x) (y := y) (ok := fun k => k == 2) he)
  case aaload => exact Or.inl (kd_ald (len := len) (x := x) (y := y) (ok := fun k => decide (3 ≤ k) && decide (k < 7)) he)
  case iastore => exact Or.inl (kd_ast (len := len) (x := x) (y := y) he)
  case bastore => exact Or.inl (kd_ast (len := len) (x := x) (y := y) he)
  case lastore => exact Or.inl (kd_ast (len := len) (x := x) (y := y) he)
  case aastore => exact Or.inl (kd_aast (len := len) (x := x) (y := y) he)
  case arraylength => exact Or.inl (kd_len (len := len) (x := x) (y := y) he)
  case dup => exact Or.inl (kd_dup (len := len) (x := x) (y := y) he)
  case dup2 => exact Or.inl (kd_dup2 (len := len) (x := x) (y := y) he)
  case pop => exact Or.inl (kd_pop (len := len) (x := x) (y := y) he)
  case pop2 => exact Or.inl (kd_pop (len := len) (x := x) (y := y) he)
  case newarray _ => exact Or.inl (kd_newa (len := len) (x := x) (y := y) he)
  case anewarray _ => exact Or.inl (kd_newa (len := len) (x := x) (y := y) he)
  case multianewarray _ _ => exact Or.inl (kd_mna (len := len) (x := x) (y := y) he)
  case iconst _ => cases he; exact Or.inl ⟨_, rfl⟩
  case bipush _ => cases he; exact Or.inl ⟨_, rfl⟩
  case sipush _ => cases he; exact Or.inl ⟨_, rfl⟩
  case lconst _ => cases he; exact Or.inl ⟨_, rfl⟩
  case ldc _ => cases he; exact Or.inl ⟨_, rfl⟩
  case ldc2_w _ => cases he; exact Or.inl ⟨_, rfl⟩
  case goto _ => cases he; exact Or.inl ⟨_, rfl⟩
  case new _ => cases he; exact Or.inl ⟨_, rfl⟩
  case tableswitch d lo hi offs =>
    obtain ⟨a, st2, -, q | ⟨-, o, -, q⟩⟩ := iv_sw (len := len) (x := x) (y := y) he
    · exact Or.inl ⟨_, q.2⟩
    · exact Or.inl ⟨_, q⟩
  case invokevirtual i => exact Or.inr (Or.inl ⟨i, Or.inl rfl, he⟩)
  case invokestatic i => exact Or.inr (Or.inl ⟨i, Or.inr (Or.inl rfl), he⟩)
  case invokespecial i => exact Or.inr (Or.inl ⟨i, Or.inr (Or.inr rfl), he⟩)
  case ireturn => exact Or.inr (Or.inr (Or.inl ⟨Or.inl rfl, he⟩))
  case lreturn => exact Or.inr (Or.inr (Or.inl ⟨Or.inr rfl, he⟩))
  case return_ => exact Or.inr (Or.inr (Or.inr ⟨rfl, he⟩))
  all_goals cases he
/-! Calls and returns. -/
/-- a method's start and end, over the small machine's cells -/
def am_Pc (D : va_G) (ca : Nat → ClassId) (KK : State → Prop) (ad : Nat → Nat) (as : List am_V) (h : am_H) (sz : Nat) : Array Value → State → Prop := va_Pc (as.map (am_cv ad)) (fun U => U.heap.size = sz ∧ va_P D vwCl (am_ws ad ca h) U.heap ∧ KK U ∧ va_D (fun _ => True) (am_ws ad ca h))
def am_Qc (D : va_G) (ca : Nat → ClassId) (ft : am_ft) (ad : Nat → Nat) (h : am_H) (r : Option am_V) (h2 : am_H) (sz : Nat) : Array Value → State → Outcome → State → Prop := fun _ st oc t =>
  (∃ ad2 : Nat → Nat, (∀ k, k < h.1 → ad2 k = ad k) ∧ oc = .returned (r.map (am_cv ad2)) ∧ am_gd ft h2 ∧ (∀ v, r = some v → am_vk h2.1 v) ∧ h.1 ≤ h2.1 ∧ h.2.1 ≤ h2.2.1 ∧ va_P D vwCl (am_ws ad2 ca h2) t.heap ∧ va_D (va_A (am_ws ad ca h) sz) (am_ws ad2 ca h2)) ∧ va_F (va_A (am_ws ad ca h) sz) st t
/-- what the tables say of the claim's classes, and goes with every state -/
def am_KK (D : va_G) (ca : Nat → ClassId) (U : State) : Prop := va_K D vwCl (am_tys ca) U ∧ va_Nw (.methodLinkNest "StrandBoxes" 27 yX3_init "StrandBoxes") U ∧ va_Nw (.methodLinkNest "StrandBoxes" 34 yX1_init "StrandBoxes") U ∧ am_AO U
theorem am_KK.warm {D : va_G} {ca : Nat → ClassId} {s U : State} (hW : s.WarmedH U.vm) (h : am_KK D ca s) : am_KK D ca U := ⟨va_K.moved hW.alike h.1, va_Nw.warmM hW h.2.1, va_Nw.warmM hW h.2.2.1, h.2.2.2.warm hW⟩
theorem am_KK.call {D : va_G} {ca : Nat → ClassId} {U : State} {g : JFrame} {mk : MethodId} {a : Array Value} (h : am_KK D ca U) : am_KK D ca (U.calling g mk a) := ⟨va_K.moved (u := U) (U := U.calling g mk a) (Vm.Alike.refl U.vm) h.1, va_Nw.same (u := U) (U := U.calling g mk a) rfl rfl h.2.1, va_Nw.same (u := U) (U := U.calling g mk a) rfl rfl h.2.2.1, h.2.2.2.same (u := U) (U := U.calling g mk a) rfl⟩
theorem am_Pc.blind {D : va_G} {ca : Nat → ClassId} {ad : Nat → Nat} {as : List am_V} {h : am_H} {sz : Nat} : FrameBlind (am_Pc D ca (am_KK D ca) ad as h sz) := fun a U g mk q => by
  obtain ⟨q0, q1, qP, qK, qD⟩ := q
  exact ⟨q0, q1, qP, qK.call, qD⟩
theorem am_Pc.at {D : va_G} {ca : Nat → ClassId} {ad : Nat → Nat} {as : List am_V} {h : am_H} {s : State} {H : Heap} {A : Nat → Prop} (hK : am_KK D ca s) (hP : va_P D vwCl (am_ws ad ca h) H) (hD : va_D A (am_ws ad ca h)) : ∀ U : State, U.heap = H → s.WarmedH U.vm → am_Pc D ca (am_KK D ca) ad as h H.size (as.map (am_cv ad)).toArray U := fun U hU hW => ⟨rfl, by rw [hU], by rw [hU]; exact hP, hK.warm hW, hD.weaken (fun _ _ _ _ => trivial)⟩
theorem am_cat_cv {ad : Nat → Nat} (v : am_V) : (am_cv ad v).category = am_cat v := by
  rcases v with (x | x) | _ | _ | a <;> rfl
theorem am_cat_sum {ad : Nat → Nat} (st : List am_V) : ((st.map (am_cv ad)).map fun v => v.category).sum = (st.map am_cat).sum := by
  rw [List.map_map]
  congr 1
  exact List.map_congr_left fun v _ => am_cat_cv v
section SM
variable {p : Program} {l : Launch} {e : Env} {R : Room} {s : State} {m : MethodId} {args : Array Value} {below : List Frame} {meth : Method} {c : Code} {Q : State → Prop} {D : va_G} {ca : Nat → ClassId} {ft : am_ft} {A : Nat → Prop} {n0 z0 : Nat} {ad0 : Nat → Nat} {nL : Nat} {cc : ByteArray}
/-- behind a call: as = its arguments, rest = what lies below them -/
theorem sm_back {pc : Nat} {ls as rest : List am_V} {h h2 : am_H} {r : Option am_V} {a : Array Value} {mc ms : Nat} (hA : ∀ q, s.heap.size ≤ q → A q) (hmc : mc = h2.1 - h.1) (hms : ms = h2.2.1 - h.2.1)
    (hrun : ∀ (ad : Nat → Nat) (H : Heap) (locs : List Loc) (LS : Array Slot), n0 ≤ h.1 → z0 ≤ h.2.1 → am_gd ft h → (∀ v ∈ as.reverse ++ rest, am_vk h.1 v) → va_P D vwCl (am_ws ad ca h) H → va_D A (am_ws ad ca h) → LS.size = nL →
      va_Run p l e R s m args below meth c H locs (h.1 - n0) (h.2.1 - z0) mc ms (F0 m pc LS ((as.reverse ++ rest).map (am_cv ad))) (rest.map (am_cv ad)) (am_Qc D ca ft ad h r h2 H.size ((as.map (am_cv ad)).toArray)) (va_A (am_ws ad ca h) H.size))
    (k : am_G p l e R s m args below meth c Q D ca ft A n0 z0 ad0 nL (pc + 3, ls, r.toList ++ rest, h2)) : am_G p l e R s m args below meth c Q D ca ft A n0 z0 ad0 nL (pc, ls, as.reverse ++ rest, h) := by
  intro ad H locs LS h1 h2_ h3 h4 h5 h6 h7 h8 h9 h10 h11
  have h2_ : n0 ≤ h.1 := h2_
  have h3 : z0 ≤ h.2.1 := h3
  have h6 : ∀ v ∈ ls, v = vU ∨ am_vk h.1 v := h6
  have hs5 : ∀ w ∈ rest, am_vk h.1 w := fun w hw => h5 w (List.mem_append_right _ hw)
  have hfree : ∀ q, va_A (am_ws ad ca h) H.size q → A q := fun q hq => by
    rcases hq with ⟨j, e9, hj⟩ | hq
    · exact h8.2 j _ hj
    · exact hA q (Nat.le_trans h9.1 hq)
  intro T hT X
  obtain ⟨v, st₀, t, T', L, g0, X', hL, e1, e2, ⟨⟨ad2, q1, q2, q3, q4, q5, q6, qP, qD⟩, qz, qk⟩, st⟩ := hrun ad H locs LS h2_ h3 h4 h5 h7 h8 (h10.1.trans h11) T hT X
  have q2 : v = r.map (am_cv ad2) := Outcome.returned.inj q2
  rw [g0] at qz qk
  rw [← e1] at qP qz qk
  have hS' : va_S A s.heap T'.heap (locs ++ L) := ⟨Nat.le_trans h9.1 qz, fun q j1 j2 => by
      rw [qk q (Nat.lt_of_lt_of_le j1 h9.1) (fun z => j2 (hfree q z))]
      exact h9.2.1 q j1 j2, fun q hq => (List.mem_append.mp hq).elim (h9.2.2 q) (fun z => hfree _ (hL q z))⟩
  have K := k ad2 T'.heap (locs ++ L) LS (fun j hj => (q1 j (by omega)).trans (h1 j hj)) (show n0 ≤ h2.1 by omega) (show z0 ≤ h2.2.1 by omega) q3
    (fun w hw => (List.mem_append.mp hw).elim (fun z => q4 w (Option.mem_toList.mp z)) (fun z => (hs5 w z).mono q5))
    (fun w hw => (h6 w hw).elim Or.inl (fun z => Or.inr (z.mono q5))) qP (qD.weaken (fun _ q _ z => hfree q.1 z)) hS' (h10.cg q1 h6) h11
  have e3 : (r.toList ++ rest).map (am_cv ad2) = v.toList ++ rest.map (am_cv ad) := by
    rw [List.map_append, am_st_cg q1 hs5, q2]
    congr 1
    cases r <;> rfl
  rw [e3] at K
  have K2 := W.cs (show h.1 - n0 + mc = h2.1 - n0 by omega) (show h.2.1 - z0 + ms = h2.2.1 - z0 by omega) K
  obtain ⟨t2, a1, b1⟩ := K2 T' rfl X'
  exact ⟨t2, st t2 a1, b1⟩
/-- the end of a method -/
theorem sm_ret {pc x len : Nat} {ins : Instr} {ls : List am_V} {h0 h : am_H} {v : am_V} {ret : Option FieldType} {sz : Nat} (hx : p.tables.exec = Jvm.exec) (hb : c.code = cc) (hr : meth.sig.returnType = ret) (hlocks : meth.locks = false) (hdg : decode cc pc = .ok (ins, 1)) (hsz : s.heap.size = sz)
    (hrt : (ins = .ireturn ∧ x = 0 ∧ ret = some .int) ∨ (ins = .ireturn ∧ x = 1 ∧ ret = some .boolean) ∨ (ins = .lreturn ∧ x = 2 ∧ ret = some .long)) (hv : am_fok x v = true) :
    am_G p l e R s m args below meth c (MQ below (am_Qc D ca ft ad0 h0 (some v) h sz) args s (h.1 - h0.1) (h.2.1 - h0.2.1) (va_A (am_ws ad0 ca h0) sz)) D ca ft (va_A (am_ws ad0 ca h0) sz) h0.1 h0.2.1 ad0 nL (pc, ls, [v], h) := by
  intro ad H locs LS h1 h2 h3 h4 h5 h6 h7 h8 h9 h10 h11
  have h4 : am_gd ft h := h4
  have hvk : am_vk h.1 v := h5 v (by simp)
  have fin : ∀ (t : State) (z : Value), z = am_cv ad v → t.heap = H → am_Qc D ca ft ad0 h0 (some v) h sz args s (.returned (some z)) t := fun t z hz ht => ⟨⟨ad, h1, by rw [hz]; rfl, h4, fun w hw => by cases hw; exact hvk, h2, h3, by rw [ht]; exact h7, h8⟩, h9.F ht⟩
  rcases hrt with ⟨rfl, rfl, rfl⟩ | ⟨rfl, rfl, rfl⟩ | ⟨rfl, rfl, rfl⟩
  · have e9 := am_cv_iald (ad := ad) ⟨hvk, hv⟩
    show W p l e R s m args below meth c H locs _ _ _ (F0 m pc LS [am_cv ad v])
    rw [e9]
    exact W.iret hx hb hr (fun t ht hW => fin t _ e9.symm ht) h9.2.2 hdg hlocks
  · have e9 := am_cv_zald (ad := ad) ⟨hvk, hv⟩
    have e8 := (am_fit (ad := ad) (ty := .boolean) hvk hv rfl).1
    rw [e9] at e8
    show W p l e R s m args below meth c H locs _ _ _ (F0 m pc LS [am_cv ad v])
    rw [e9]
    exact W.zret hx hb hr e8 (fun t ht hW => fin t _ e9.symm ht) h9.2.2 hdg hlocks
  · have e9 := am_cv_lald (ad := ad) ⟨hvk, hv⟩
    show W p l e R s m args below meth c H locs _ _ _ (F0 m pc LS [am_cv ad v])
    rw [e9]
    exact W.lret hx hb hr (fun t ht hW => fin t _ e9.symm ht) h9.2.2 hdg hlocks
theorem sm_retv {pc : Nat} {ls : List am_V} {h0 h : am_H} {sz : Nat} (hx : p.tables.exec = Jvm.exec) (hb : c.code = cc) (hr : meth.sig.returnType = none) (hlocks : meth.locks = false) (hdg : decode cc pc = .ok (.return_, 1)) (hsz : s.heap.size = sz) :
    am_G p l e R s m args below meth c (MQ below (am_Qc D ca ft ad0 h0 none h sz) args s (h.1 - h0.1) (h.2.1 - h0.2.1) (va_A (am_ws ad0 ca h0) sz)) D ca ft (va_A (am_ws ad0 ca h0) sz) h0.1 h0.2.1 ad0 nL (pc, ls, [], h) := by
  intro ad H locs LS h1 h2 h3 h4 h5 h6 h7 h8 h9 h10 h11
  have h4 : am_gd ft h := h4
  exact W.vret hx hb hr (fun t ht hW => ⟨⟨ad, h1, rfl, h4, fun w hw => by (cases hw), h2, h3, by rw [ht]; exact h7, h8⟩, h9.F ht⟩) h9.2.2 hdg hlocks
end SM
theorem am_pad_len : ∀ (n : Nat) (as : List am_V), (am_pad n as).length = n
  | 0, _ => rfl
  | n + 1, [] => congrArg Nat.succ (am_pad_len n [])
  | n + 1, .inl (.inl x) :: l => congrArg Nat.succ (am_pad_len n l)
  | n + 1, .inr x :: l => congrArg Nat.succ (am_pad_len n l)
  | 1, .inl (.inr x) :: l => rfl
  | n + 2, .inl (.inr x) :: l => congrArg (fun z => Nat.succ (Nat.succ z)) (am_pad_len n l)
theorem am_pad_nil : ∀ (n i : Nat) (v : am_V), (am_pad n [])[i]? = some v → v = vU
  | 0, i, v, h => by simp [am_pad] at h
  | n + 1, 0, v, h => by
    have : some vU = some v := h
    exact (Option.some.inj this).symm
  | n + 1, i + 1, v, h => am_pad_nil n i v h
theorem am_pad_at {ad : Nat → Nat} : ∀ (n : Nat) (as : List am_V) (i0 i : Nat) (v : am_V), (am_pad n as)[i]? = some v → v ≠ vU → (i0 + i, am_cv ad v) ∈ lv_args i0 (as.map (am_cv ad))
  | 0, as, i0, i, v, h, hv => by simp [am_pad] at h
  | n + 1, [], i0, i, v, h, hv => absurd (am_pad_nil (n + 1) i v h) hv
  | n + 1, .inl (.inl x) :: l, i0, 0, v, h, hv => by
    have : some (vI x) = some v := h
    cases this
    exact List.mem_cons_self
  | n + 1, .inr x :: l, i0, 0, v, h, hv => by
    have : some (Sum.inr x : am_V) = some v := h
    cases this
    exact List.mem_cons_self
  | n + 1, .inl (.inl x) :: l, i0, i + 1, v, h, hv => by
    have := am_pad_at (ad := ad) n l (i0 + 1) i v h hv
    rw [show i0 + (i + 1) = i0 + 1 + i by omega]
    exact List.mem_cons_of_mem _ this
  | n + 1, .inr x :: l, i0, i + 1, v, h, hv => by
    have := am_pad_at (ad := ad) n l (i0 + 1) i v h hv
    rw [show i0 + (i + 1) = i0 + 1 + i by omega]
    refine List.mem_cons_of_mem _ ?_
    rcases x with _ | _ | k <;> exact this
  | 1, .inl (.inr x) :: l, i0, 0, v, h, hv => by
    have : some (vL x) = some v := h
    cases this
    exact List.mem_cons_self
  | 1, .inl (.inr x) :: l, i0, i + 1, v, h, hv => by
    have : ([] : List am_V)[i]? = some v := h
    simp at this
  | n + 2, .inl (.inr x) :: l, i0, 0, v, h, hv => by
    have : some (vL x) = some v := h
    cases this
    exact List.mem_cons_self
  | n + 2, .inl (.inr x) :: l, i0, 1, v, h, hv => by
    have : some vU = some v := h
    exact absurd (Option.some.inj this).symm hv
  | n + 2, .inl (.inr x) :: l, i0, i + 2, v, h, hv => by
    have := am_pad_at (ad := ad) n l (i0 + 2) i v h hv
    rw [show i0 + (i + 2) = i0 + 2 + i by omega]
    exact List.mem_cons_of_mem _ this
theorem am_pad_mem : ∀ (n : Nat) (as : List am_V) (v : am_V), v ∈ am_pad n as → v = vU ∨ v ∈ as
  | 0, as, v, h => by simp [am_pad] at h
  | n + 1, [], v, h => by
    obtain ⟨i, hi⟩ := List.getElem?_of_mem h
    exact Or.inl (am_pad_nil (n + 1) i v hi)
  | n + 1, .inl (.inl x) :: l, v, h => by
    have h : v ∈ vI x :: am_pad n l := h
    rcases List.mem_cons.mp h with rfl | h
    · exact Or.inr List.mem_cons_self
    · exact (am_pad_mem n l v h).imp id (List.mem_cons_of_mem _)
  | n + 1, .inr x :: l, v, h => by
    have h : v ∈ (.inr x : am_V) :: am_pad n l := h
    rcases List.mem_cons.mp h with rfl | h
    · exact Or.inr List.mem_cons_self
    · exact (am_pad_mem n l v h).imp id (List.mem_cons_of_mem _)
  | 1, .inl (.inr x) :: l, v, h => by
    have h : v ∈ [vL x] := h
    exact Or.inr (by rw [List.mem_singleton.mp h]; exact List.mem_cons_self)
  | n + 2, .inl (.inr x) :: l, v, h => by
    have h : v ∈ vL x :: vU :: am_pad n l := h
    rcases List.mem_cons.mp h with rfl | h
    · exact Or.inr List.mem_cons_self
    · rcases List.mem_cons.mp h with rfl | h
      · exact Or.inl rfl
      · exact (am_pad_mem n l v h).imp id (List.mem_cons_of_mem _)
theorem am_sl_len {ad : Nat → Nat} : ∀ as : List am_V, (lg_sl (as.map (am_cv ad))).length = (as.map am_cat).sum
  | [] => rfl
  | v :: l => by
    have ih := am_sl_len (ad := ad) l
    show (lg_sl (am_cv ad v :: l.map (am_cv ad))).length = am_cat v + (l.map am_cat).sum
    unfold lg_sl at ih ⊢
    rw [List.flatMap_cons, List.length_append, ih]
    congr 1
    rcases v with (x | x) | _ | _ | a <;> rfl
/-- Met.ofW, for a method that no entry runs instead -/
theorem am_ofW {l : Launch} {y : MethodName} {ws ws' : List Cond} {rm : Room} {Pc : Array Value → State → Prop} {Qc : Array Value → State → Outcome → State → Prop} {mc ms : Nat} {free : Addr → Prop} {cc : ByteArray} {maxL : Nat} {ret : Option FieldType}
    (hy : plainFor y = true) (hw : ws = Cond.code y cc maxL ret :: ws')
    (body : ∀ p e s m args below meth c s₁, BodyLoose p l y (headSpec ws rm) cc maxL ret e s m args below meth c s₁ → c.maxLocals = maxL → Pc args s →
      W p l e (headSpec ws rm).room s m args below meth c s.heap [] 0 0 (MQ below Qc args s mc ms free) (entryFrame m args maxL)) : Met l y ws rm Pc Qc mc ms free := by
  refine MetFree.of_bodySF (code := cc) (maxLocals := maxL) (ret := ret) hy ?_ ?_
  · intro args s m h hn
    obtain ⟨meth, c, h1, h2, h3, h4, h5, h6, -, -⟩ := Cond.code_spec hn (atoms_spec (ws := ws) h _ (by rw [hw]; exact List.mem_cons_self))
    exact ⟨meth, c, h1, h2, h3, h4, h5, h6⟩
  · intro p e s m args below meth c s₁ B hml hP _
    have hh0 : s₁.heap = s.heap := by rw [B.state]; rfl
    obtain ⟨t, a1, o, b1, b2, b3⟩ := body p e s m args below meth c s₁ B hml hP s₁ hh0 (Stand.of_body B)
    exact ⟨t, o, a1, b1, b2, ⟨b3.1, b3.2⟩⟩
/-- a method: its name, its bytes, what it returns, its frames and locals -/
abbrev am_N : Type := MethodName × ByteArray × Option FieldType × Nat × Nat
def am_cb (Tb : List Cond) (fr lo : Nat) (mL : Nat) (N : am_N) (n : Nat) : Prop := Cond.code N.1 N.2.1 mL N.2.2.1 ∈ Tb ∧ Cond.initialized N.1.cls ∈ Tb ∧ (N.1.cls ≠ "java/lang/invoke/MethodHandle" ∧ N.1.cls ≠ "java/lang/invoke/VarHandle" ∧ (parseMethodDescriptor N.1.desc).map (fun d => d.parameters.length) = some n) ∧ N.2.2.2.1 + 1 ≤ fr ∧ 8 + (mL + 11) + N.2.2.2.2 ≤ lo
/-- what a call needs of the tables -/
def am_ck (P : am_P) (Ns : List am_N) (Tb : List Cond) (own : String) (fr lo : Nat) (row : am_I) : Prop := match row with
  | (.invokevirtual i, _, x, y) => ∃ (C : am_C) (mL : Nat) (N : am_N) (n : Nat), P.2[x % 1000]? = some (C, mL) ∧ Ns[x % 1000]? = some N ∧ am_cb Tb fr lo mL N n ∧ n + 1 = y ∧ 1000 ≤ x ∧ (∃ (T : u_T) (z : Nat), vwCl[x / 1000 - 1]? = some (N.1.cls, T, z)) ∧ Cond.methodLink own i N.1 ∈ Tb ∧ Cond.instanceMethod N.1 ∈ Tb ∧ Cond.selects N.1.cls N.1 N.1 ∈ Tb
  | (.invokestatic i, _, x, y) => x = 901 ∨ ∃ (C : am_C) (mL : Nat) (N : am_N) (n : Nat), P.2[x % 1000]? = some (C, mL) ∧ Ns[x % 1000]? = some N ∧ am_cb Tb fr lo mL N n ∧ n = y ∧ Cond.methodLink own i N.1 ∈ Tb ∧ Cond.static N.1 ∈ Tb
  | (.invokespecial i, _, x, y) => x = 900 ∨ ∃ (C : am_C) (mL : Nat) (N : am_N) (n : Nat), P.2[x % 1000]? = some (C, mL) ∧ Ns[x % 1000]? = some N ∧ am_cb Tb fr lo mL N n ∧ n + 1 = y ∧ 1000 ≤ x ∧ N.2.2.1 = none ∧ N.1.name = "<init>" ∧ Cond.instanceMethod N.1 ∈ Tb ∧ (Cond.methodLink own i N.1 ∈ Tb ∨ (own = "StrandBoxes" ∧ ((i = 27 ∧ N.1 = yX3_init) ∨ (i = 34 ∧ N.1 = yX1_init))))
  | _ => True
/-- what a return needs -/
def am_rt (ret : Option FieldType) (row : am_I) : Prop := match row with
  | (.ireturn, _, x, _) => (x = 0 ∧ ret = some .int) ∨ (x = 1 ∧ ret = some .boolean)
  | (.lreturn, _, x, _) => x = 2 ∧ ret = some .long
  | (.return_, _, _, _) => ret = none
  | _ => True
/-- the code tables are the bytes', the tables have what they need -/
def am_Ok (P : am_P) (Ns : List am_N) (Tb : List Cond) : Prop := (∀ w ∈ Tb, (w.onTables && w.keeps) = true ∨ ∃ ty, w = .arrayClass ty) ∧
  ∀ (j : Nat) (C : am_C) (mL : Nat) (N : am_N), P.2[j]? = some (C, mL) → Ns[j]? = some N → plainFor N.1 = true ∧ ∀ (pc : Nat) (row : am_I), am_row C pc = some row → decode N.2.1 pc = .ok (row.1, row.2.1) ∧ (∀ mc ms : Nat, am_rk P.1 N.1.cls (N.1.name = "<init>") Tb { frames := N.2.2.2.1, cells := mc, slots := ms, locals := N.2.2.2.2 } pc row) ∧ am_ck P Ns Tb N.1.cls N.2.2.2.1 N.2.2.2.2 row ∧ am_rt N.2.2.1 row
/-- from any state of a method, by a run of at most n steps -/
def am_GS (P : am_P) (Ns : List am_N) (Tb : List Cond) (l : Launch) (D : va_G) (ca : Nat → ClassId) (n : Nat) : Prop :=
  ∀ (j : Nat) (C : am_C) (mL : Nat) (y : MethodName) (bytes : ByteArray) (ret : Option FieldType) (fr lo : Nat), P.2[j]? = some (C, mL) → Ns[j]? = some (y, bytes, ret, fr, lo) →
  ∀ (p : Program) (e : Env) (s : State) (m : MethodId) (args : Array Value) (below : List Frame) (meth : Method) (c : Code), p.tables.exec = Jvm.exec → c.code = bytes → c.maxLocals = mL → s.vm.findClass y.cls = some m.cls → (∀ w ∈ Tb, w.before args s = true) → am_KK D ca s → meth.sig.returnType = ret → meth.locks = false → meth.name = y.name →
  ∀ (ad0 : Nat → Nat) (h0 h2 : am_H) (r : Option am_V) (t : am_S), am_x P n C t = some (r, h2) → h0.1 ≤ t.2.2.2.1 → h0.2.1 ≤ t.2.2.2.2.1 → am_G p l e ({ frames := fr, cells := h2.1 - h0.1, slots := h2.2.1 - h0.2.1, locals := lo } : Room) s m args below meth c (MQ below (am_Qc D ca P.1 ad0 h0 r h2 s.heap.size) args s (h2.1 - h0.1) (h2.2.1 - h0.2.1) (va_A (am_ws ad0 ca h0) s.heap.size)) D ca P.1 (va_A (am_ws ad0 ca h0) s.heap.size) h0.1 h0.2.1 ad0 mL t
/-- a method's contract, by a run of at most n steps -/
def am_SS (P : am_P) (Ns : List am_N) (Tb : List Cond) (l : Launch) (D : va_G) (ca : Nat → ClassId) (n : Nat) : Prop :=
  ∀ (j : Nat) (C : am_C) (mL : Nat) (N : am_N), P.2[j]? = some (C, mL) → Ns[j]? = some N → ∀ (as : List am_V) (h0 h2 : am_H) (r : Option am_V), am_x P n C (0, am_pad mL as, [], h0) = some (r, h2) → am_gd P.1 h0 → (∀ v ∈ as, am_vk h0.1 v) → (as.map am_cat).sum ≤ mL → ∀ (ad : Nat → Nat) (sz : Nat),
    Met l N.1 (Cond.code N.1 N.2.1 mL N.2.2.1 :: Tb) { frames := N.2.2.2.1, cells := h2.1 - h0.1, slots := h2.2.1 - h0.2.1, locals := N.2.2.2.2 } (am_Pc D ca (am_KK D ca) ad as h0 sz) (am_Qc D ca P.1 ad h0 r h2 sz) (h2.1 - h0.1) (h2.2.1 - h0.2.1) (va_A (am_ws ad ca h0) sz)
theorem am_SS_of {P : am_P} {Ns : List am_N} {Tb : List Cond} {l : Launch} {D : va_G} {ca : Nat → ClassId} {n : Nat} (ok : am_Ok P Ns Tb) (hG : am_GS P Ns Tb l D ca n) : am_SS P Ns Tb l D ca n := by
  intro j C mL N hj hN as h0 h2 r hx0 hg hv hcat ad sz
  obtain ⟨y, bytes, ret, fr, lo⟩ := N
  refine am_ofW (cc := bytes) (maxL := mL) (ret := ret) (ok.2 j C mL _ hj hN).1 rfl ?_
  intro p e s m args below meth c s₁ B hml hv0
  obtain ⟨rfl, hsz, hP, hK, hD0⟩ := hv0
  have hts := atoms_spec (ws := Cond.code y bytes mL ret :: Tb) B.pre
  subst hsz
  have hl := lv_entry (as.map (am_cv ad)) (n := mL) (by rw [am_sl_len]; exact hcat)
  rw [lg_entry_eq]
  generalize (lg_sl (as.map (am_cv ad)) ++ List.replicate (mL - (lg_sl (as.map (am_cv ad))).length) Slot.unset).toArray = LS at hl ⊢
  have K := hG j C mL y bytes ret fr lo hj hN p e s m _ below meth c B.exec B.bytes hml (findClass_of_methodNamed B.named) (fun w hw => hts w (List.mem_cons_of_mem _ hw)) hK B.returns B.notSynchronized (name_of_methodNamed B.named B.method).1 ad h0 h2 r (0, am_pad mL as, [], h0) hx0 (Nat.le_refl _) (Nat.le_refl _)
  have K2 := K ad s.heap [] LS (fun _ _ => rfl) (Nat.le_refl _) (Nat.le_refl _) hg (fun v hv => by simp at hv) (fun v hv9 => (am_pad_mem mL as v hv9).imp id (hv v)) hP hD0.self va_S.rf ?_ (am_pad_len mL as)
  · exact W.cs (show 0 = h0.1 - h0.1 by omega) (show 0 = h0.2.1 - h0.2.1 by omega) K2
  · refine ⟨by rw [am_pad_len]; exact hl.1, hl.2.1, fun q hq => hl.2.2 q ?_⟩
    obtain ⟨v, q1, q2, q3⟩ := am_lvl_mem.mp hq
    have := am_pad_at (ad := ad) mL as 0 q.1 v q1 q2
    rw [Nat.zero_add, ← q3] at this
    exact this
theorem am_cw {R : Room} {s : State} {args : Array Value} {Tb : List Cond} {own : String} {i mL n mc ms fr lo : Nat} {N : am_N} (hg : ∀ w ∈ Tb, (w.onTables && w.keeps) = true ∨ ∃ ty, w = .arrayClass ty) (hts : ∀ w ∈ Tb, w.before args s = true) (hR1 : R.frames = fr) (hR2 : R.locals = lo) (h : am_cb Tb fr lo mL N n) (hl : (Cond.methodLink own i N.1).before args s = true) :
    CallB R s args own i N.1 N.2.1 mL N.2.2.1 (Cond.code N.1 N.2.1 mL N.2.2.1 :: Tb) { frames := N.2.2.2.1, cells := mc, slots := ms, locals := N.2.2.2.2 } mc ms n := by
  obtain ⟨h1, h2, h3, h4, h5⟩ := h
  exact callB_of n hts (fun w hw => (List.mem_cons.mp hw).elim (fun q => by rw [q]; exact ⟨h1, hg _ h1⟩) (fun q => ⟨q, hg w q⟩)) rfl rfl rfl (hts _ h2) hl h3 ⟨by rw [hR1]; exact h4, by rw [hR2]; exact h5⟩
theorem am_cn {R : Room} {s : State} {args : Array Value} {Tb : List Cond} {own host : String} {i mL n mc ms fr lo : Nat} {N : am_N} (hg : ∀ w ∈ Tb, (w.onTables && w.keeps) = true ∨ ∃ ty, w = .arrayClass ty) (hts : ∀ w ∈ Tb, w.before args s = true) (hR1 : R.frames = fr) (hR2 : R.locals = lo) (h : am_cb Tb fr lo mL N n) (hl : va_Nw (.methodLinkNest own i N.1 host) s) :
    va_CN R s args own i N.1 host N.2.1 mL N.2.2.1 (Cond.code N.1 N.2.1 mL N.2.2.1 :: Tb) { frames := N.2.2.2.1, cells := mc, slots := ms, locals := N.2.2.2.2 } mc ms n := by
  obtain ⟨h1, h2, h3, h4, h5⟩ := h
  exact va_cnB n hts (fun w hw => (List.mem_cons.mp hw).elim (fun q => by rw [q]; exact ⟨h1, hg _ h1⟩) (fun q => ⟨q, hg w q⟩)) rfl rfl rfl hl (hts _ h2) h3 ⟨by rw [hR1]; exact h4, by rw [hR2]; exact h5⟩
theorem am_rcv_inv {h : am_H} {x : Nat} {as : List am_V} (hx : 1000 ≤ x) (h9 : am_rcv h x as = true) : ∃ a as2, as = vR a :: as2 ∧ a < h.1 ∧ (h.2.2 a).1 = 9 + x / 1000 := by
  unfold am_rcv at h9
  rw [if_neg (by omega)] at h9
  split at h9
  · rename_i a as2
    simp only [Bool.and_eq_true, decide_eq_true_eq] at h9
    exact ⟨a, as2, rfl, h9.1, h9.2⟩
  · cases h9
theorem am_st_rev {ad : Nat → Nat} {a : Nat} {as2 rest : List am_V} : ((vR a :: as2).reverse ++ rest).map (am_cv ad) = (as2.map (am_cv ad)).reverse ++ .ref (ad a) :: rest.map (am_cv ad) := by
  rw [List.reverse_cons, List.append_assoc, List.map_append, List.map_reverse]
  rfl
set_option maxHeartbeats 4000000 in
theorem am_GS_succ {P : am_P} {Ns : List am_N} {Tb : List Cond} {l : Launch} {D : va_G} {ca : Nat → ClassId} {n : Nat} (ok : am_Ok P Ns Tb) (hG : am_GS P Ns Tb l D ca n) : am_GS P Ns Tb l D ca (n + 1) := by
  have hS := am_SS_of ok hG
  intro j C mL y bytes ret fr lo hj hN p e s m args below meth c hx hb hml hown hts hK hr hlocks hnm ad0 h0 h2 r t hrun ht1 ht2
  obtain ⟨hgood, hok⟩ := ok
  obtain ⟨-, hrow⟩ := hok j C mL _ hj hN
  obtain ⟨pc, ls, st, h⟩ := t
  have ht1 : h0.1 ≤ h.1 := ht1
  have ht2 : h0.2.1 ≤ h.2.1 := ht2
  have hA : ∀ q, s.heap.size ≤ q → va_A (am_ws ad0 ca h0) s.heap.size q := fun q hq => Or.inr hq
  unfold am_x at hrun
  split at hrun
  · cases hrun
  · rename_i t2 e1
    obtain ⟨row, g1, g2⟩ := mn_1 e1
    obtain ⟨ins, len, x, z⟩ := row
    obtain ⟨r1, r2, -, -⟩ := hrow pc _ g1
    have m1 := mn_sem g2
    have m2 := mn_x n hrun
    have r3 := r2 (h2.1 - h0.1) (h2.2.1 - h0.2.1)
    rw [← hnm] at r3
    exact am_sim hx hb hml hown hts hK.1 hK.2.2.2 hA r1 r3 g2 (show t2.2.2.2.1 - h0.1 ≤ h2.1 - h0.1 by have := m2.1; omega) (show t2.2.2.2.2.1 - h0.2.1 ≤ h2.2.1 - h0.2.1 by have := m2.2; omega)
      (hG j C mL y bytes ret fr lo hj hN p e s m args below meth c hx hb hml hown hts hK hr hlocks hnm ad0 h0 h2 r t2 hrun (Nat.le_trans ht1 m1.1) (Nat.le_trans ht2 m1.2))
  · rename_i q e1
    obtain ⟨row, g1, g2⟩ := mn_1 e1
    obtain ⟨ins, len, x, z⟩ := row
    obtain ⟨r1, r2, r3, -⟩ := hrow pc _ g1
    have r2 := r2 (h2.1 - h0.1) (h2.2.1 - h0.2.1)
    split at hrun
    · cases hrun
    · rename_i M hM
      obtain ⟨C3, mL3⟩ := M
      split at hrun
      · rename_i hcat
        split at hrun
        · cases hrun
        · rename_i rr hcal
          obtain ⟨r4, h4⟩ := rr
          obtain ⟨i9, hins, nx1, nx2, hz, hc8, hrcv, hq⟩ : ∃ i9, (ins = .invokevirtual i9 ∨ ins = .invokestatic i9 ∨ ins = .invokespecial i9) ∧ x ≠ 900 ∧ x ≠ 901 ∧ z ≤ st.length ∧ ((st.drop z).map am_cat).sum ≤ 8 ∧ am_rcv h x (st.take z).reverse = true ∧ q = (x % 1000, (st.take z).reverse, pc + len, ls, st.drop z, h) := by
            rcases am_kind g2 with ⟨t9, q9⟩ | ⟨i9, q8, q9⟩ | ⟨-, q9⟩ | ⟨-, q9⟩
            · cases q9
            · rcases iv_inv q9 with ⟨-, a, -, e2⟩ | ⟨-, e2⟩ | ⟨q1, q2, q3, q4, q5, e2⟩
              · cases e2
              · obtain ⟨_, _, _, _, _, -, -, e3⟩ := iv_acopy e2
                cases e3
              · cases e2
                exact ⟨i9, q8, q1, q2, q3, q4, q5, rfl⟩
            · obtain ⟨v, -, -, e2⟩ := iv_ret q9
              cases e2
            · obtain ⟨-, e2⟩ := iv_retv q9
              cases e2
          subst hq
          have hlen : len = 3 := by
            rcases hins with rfl | rfl | rfl <;> exact r2.1
          subst hlen
          have hM : P.2[x % 1000]? = some (C3, mL3) := hM
          have m3 := mn_x n hcal
          have m4 := mn_x n hrun
          have m3a : h.1 ≤ h4.1 := m3.1
          have m3b : h.2.1 ≤ h4.2.1 := m3.2
          have m4a : h4.1 ≤ h2.1 := m4.1
          have m4b : h4.2.1 ≤ h2.2.1 := m4.2
          have kont := hG j C mL y bytes ret fr lo hj hN p e s m args below meth c hx hb hml hown hts hK hr hlocks hnm ad0 h0 h2 r _ hrun (show h0.1 ≤ h4.1 by omega) (show h0.2.1 ≤ h4.2.1 by omega)
          have hst : st = (st.take z).reverse.reverse ++ st.drop z := by rw [List.reverse_reverse, List.take_append_drop]
          have hzl : ((st.take z).reverse).length = z := by rw [List.length_reverse, List.length_take]; omega
          generalize hasd : (st.take z).reverse = as at hst hrcv hcal hzl
          generalize hrsd : st.drop z = rest at hst hc8 kont
          rw [hst]
          have hcal : am_x P n C3 (0, am_pad mL3 as, [], h) = some (r4, h4) := hcal
          have hcat : (as.map am_cat).sum ≤ mL3 := by rw [← hasd]; exact hcat
          refine sm_back (a := #[]) (mc := h4.1 - h.1) (ms := h4.2.1 - h.2.1) hA rfl rfl (fun ad H locs LS k1 k2 k3 k4 k5 k6 k7 => ?_) kont
          have hva : ∀ v ∈ as, am_vk h.1 v := fun v hv => k4 v (List.mem_append_left _ (List.mem_reverse.mpr hv))
          have hW8 : 2 * (F0 m pc LS ((as.reverse ++ rest).map (am_cv ad))).monitorRoom + ((rest.map (am_cv ad)).map fun v => v.category).sum ≤ 8 := lv_room (by rw [am_cat_sum]; exact hc8)
          have hf8 : h.1 - h0.1 + (h4.1 - h.1) ≤ h2.1 - h0.1 ∧ h.2.1 - h0.2.1 + (h4.2.1 - h.2.1) ≤ h2.2.1 - h0.2.1 := ⟨by omega, by omega⟩
          rcases hins with rfl | rfl | rfl
          · obtain ⟨C5, mL5, N5, n5, c1, c2, c3, c4, c5, ⟨T5, z5, c6⟩, c7, c8, c9⟩ := r3
            rw [hM] at c1
            cases c1
            obtain ⟨a, as2, rfl, b1, b2⟩ := am_rcv_inv c5 hrcv
            have hMet := hS _ _ _ _ hM c2 _ _ _ _ hcal k3 hva hcat ad H.size
            have cw := am_cw (R := { frames := fr, cells := h2.1 - h0.1, slots := h2.2.1 - h0.2.1, locals := lo }) (own := y.cls) (i := i9) (mc := h4.1 - h.1) (ms := h4.2.1 - h.2.1) hgood hts rfl rfl c3 (hts _ c7)
            rw [am_st_rev] at hW8 ⊢
            exact va_runV (As := as2.map (am_cv ad)) (b := ad a) (C := N5.1.cls) ⟨hx, hb, hml, hown, hts⟩ hMet ⟨cw, hts _ c8, hts _ c9⟩ ⟨am_Pc.blind, va_recv hK.1 k5 c6 ((am_ws_at b1).trans (by rw [am_ce_obj (x := x / 1000 - 1) (by omega)])), am_Pc.at (as := vR a :: as2) hK k5 k6⟩ rfl (by rw [List.length_map]; simp at hzl; omega) k7 rfl hW8 r1 hf8
          · rcases r3 with r3 | ⟨C5, mL5, N5, n5, c1, c2, c3, c4, c7, c8⟩
            · exact absurd r3 nx2
            · rw [hM] at c1
              cases c1
              have hMet := hS _ _ _ _ hM c2 _ _ _ _ hcal k3 hva hcat ad H.size
              have cw := am_cw (R := { frames := fr, cells := h2.1 - h0.1, slots := h2.2.1 - h0.2.1, locals := lo }) (own := y.cls) (i := i9) (mc := h4.1 - h.1) (ms := h4.2.1 - h.2.1) hgood hts rfl rfl c3 (hts _ c7)
              rw [List.map_append, List.map_reverse] at hW8 ⊢
              exact va_runS (As := as.map (am_cv ad)) ⟨hx, hb, hml, hown, hts⟩ hMet ⟨cw, hts _ c8⟩ ⟨am_Pc.blind, am_Pc.at hK k5 k6⟩ rfl (by rw [List.length_map]; omega) k7 rfl hW8 r1 hf8
          · rcases r3 with r3 | ⟨C5, mL5, N5, n5, c1, c2, c3, c4, c5, c6, c7, c8, c9⟩
            · exact absurd r3 nx1
            · rw [hM] at c1
              cases c1
              obtain ⟨a, as2, rfl, b1, b2⟩ := am_rcv_inv c5 hrcv
              have hMet := hS _ _ _ _ hM c2 _ _ _ _ hcal k3 hva hcat ad H.size
              obtain ⟨y5, b5, ret5, fr5, lo5⟩ := N5
              have c6 : ret5 = none := c6
              subst c6
              rw [am_st_rev] at hW8 ⊢
              rcases c9 with c9 | ⟨o1, o2⟩
              · have cw := am_cw (R := { frames := fr, cells := h2.1 - h0.1, slots := h2.2.1 - h0.2.1, locals := lo }) (own := y.cls) (i := i9) (mc := h4.1 - h.1) (ms := h4.2.1 - h.2.1) hgood hts rfl rfl c3 (hts _ c9)
                exact va_runI (As := as2.map (am_cv ad)) (b := ad a) ⟨hx, hb, hml, hown, hts⟩ hMet ⟨cw, c7, hts _ c8⟩ ⟨am_Pc.blind, am_Pc.at (as := vR a :: as2) hK k5 k6⟩ rfl (by rw [List.length_map]; simp at hzl; omega) k7 rfl hW8 r1 hf8
              · have hnest : va_Nw (.methodLinkNest y.cls i9 y5 "StrandBoxes") s := by
                  rw [o1]
                  rcases o2 with ⟨rfl, o3⟩ | ⟨rfl, o3⟩
                  · have o3 : y5 = yX3_init := o3
                    rw [o3]
                    exact hK.2.1
                  · have o3 : y5 = yX1_init := o3
                    rw [o3]
                    exact hK.2.2.1
                have cw := am_cn (R := { frames := fr, cells := h2.1 - h0.1, slots := h2.2.1 - h0.2.1, locals := lo }) (own := y.cls) (i := i9) (mc := h4.1 - h.1) (ms := h4.2.1 - h.2.1) hgood hts rfl rfl c3 hnest
                exact va_runIN (As := as2.map (am_cv ad)) (b := ad a) ⟨hx, hb, hml, hown, hts⟩ hMet ⟨cw, c7, hts _ c8⟩ ⟨am_Pc.blind, am_Pc.at (as := vR a :: as2) hK k5 k6⟩ rfl (by rw [List.length_map]; simp at hzl; omega) k7 rfl hW8 r1 hf8
      · cases hrun
  · rename_i q e1
    obtain ⟨row, g1, g2⟩ := mn_1 e1
    obtain ⟨ins, len, x, z⟩ := row
    obtain ⟨r1, r2, -, r4⟩ := hrow pc _ g1
    have r2 := r2 0 0
    have hq := Option.some.inj hrun
    subst hq
    rcases am_kind g2 with ⟨t9, q9⟩ | ⟨i9, q8, q9⟩ | ⟨q8, q9⟩ | ⟨rfl, q9⟩
    · cases q9
    · rcases iv_inv q9 with ⟨-, a, -, e2⟩ | ⟨-, e2⟩ | ⟨q1, q2, q3, q4, q5, e2⟩
      · cases e2
      · obtain ⟨_, _, _, _, _, -, -, e3⟩ := iv_acopy e2
        cases e3
      · cases e2
    · obtain ⟨v, rfl, q1, e2⟩ := iv_ret q9
      cases e2
      have hlen : len = 1 := by
        rcases q8 with rfl | rfl <;> exact r2
      subst hlen
      refine sm_ret (x := x) (len := 1) hx hb hr hlocks r1 rfl ?_ q1
      rcases q8 with rfl | rfl
      · exact r4.elim (fun g => Or.inl ⟨rfl, g.1, g.2⟩) (fun g => Or.inr (Or.inl ⟨rfl, g.1, g.2⟩))
      · exact Or.inr (Or.inr ⟨rfl, r4.1, r4.2⟩)
    · obtain ⟨rfl, e2⟩ := iv_retv q9
      cases e2
      have hlen : len = 1 := r2
      subst hlen
      have r4 : ret = none := r4
      subst r4
      exact sm_retv hx hb hr hlocks r1 rfl
theorem am_GS_all {P : am_P} {Ns : List am_N} {Tb : List Cond} {l : Launch} {D : va_G} {ca : Nat → ClassId} (ok : am_Ok P Ns Tb) : ∀ n, am_GS P Ns Tb l D ca n
  | 0 => fun j C mL y bytes ret fr lo hj hN p e s m args below meth c hx hb hml hown hts hK hr hlocks hnm ad0 h0 h2 r t hrun => by cases hrun
  | n + 1 => am_GS_succ ok (am_GS_all ok n)
/-- A RUN OF THE SMALL MACHINE IS A CONTRACT OF THE METHOD -/
theorem am_sound {P : am_P} {Ns : List am_N} {Tb : List Cond} {l : Launch} {D : va_G} {ca : Nat → ClassId} (ok : am_Ok P Ns Tb) (n : Nat) : am_SS P Ns Tb l D ca n := am_SS_of ok (am_GS_all ok n)
def ax_N : List am_N := [(yX0_init, cX0_init, none, 4, 93),
  (yX0_countPairings, cX0_countPairings, (some .int), 0, 0),
  (yX0_listPairings, cX0_listPairings, none, 2, 49),
  (yX0_pairBy, cX0_pairBy, none, 1, 24),
  (yX0_freeBehind, cX0_freeBehind, (some .int), 0, 0),
  (yX0_countUp, cX0_countUp, none, 0, 0),
  (yX0_numberOf, cX0_numberOf, (some .int), 0, 0),
  (yX0_countPlane, cX0_countPlane, (some .int), 3, 71),
  (yX0_isPlane, cX0_isPlane, (some .boolean), 2, 45),
  (yX0_isBetween, cX0_isBetween, (some .boolean), 1, 21),
  (yX0_placeRound, cX0_placeRound, (some .int), 0, 0),
  (yX0_countThrough, cX0_countThrough, (some .int), 0, 0),
  (yX0_upsideDown, cX0_upsideDown, (some .int), 1, 26),
  (yX0_across, cX0_across, (some .int), 0, 0),
  (yX0_closeRings, cX0_closeRings, (some .int), 1, 21),
  (yX0_forgetSeen, cX0_forgetSeen, none, 0, 0),
  (yX0_stackLetters, cX0_stackLetters, none, 3, 70),
  (yX0_letterAt, cX0_letterAt, (some .int), 0, 0),
  (yX0_isLetter, cX0_isLetter, (some .boolean), 0, 0),
  (yX0_ofLetter, cX0_ofLetter, (some .int), 1, 26),
  (yX0_pair, cX0_pair, none, 0, 0),
  (yX0_ofPairs, cX0_ofPairs, (some .int), 1, 26),
  (yX0_join, cX0_join, (some .int), 2, 47),
  (yX0_follow, cX0_follow, (some .int), 1, 21),
  (yX0_countInnerRings, cX0_countInnerRings, (some .int), 1, 21),
  (yX0_spellAll, cX0_spellAll, none, 2, 48),
  (yX0_spellBehind, cX0_spellBehind, none, 1, 21),
  (yX0_letterOf, cX0_letterOf, (some .int), 1, 21),
  (yX0_stackOn, cX0_stackOn, (some .int), 0, 0),
  (yX1_init, cX1_init, none, 1, 12),
  (yX1_begin, cX1_begin, none, 0, 0),
  (yX1_allows, cX1_allows, (some .boolean), 0, 0),
  (yX1_append, cX1_append, (some .boolean), 0, 0),
  (yX1_dropLast, cX1_dropLast, (some .boolean), 0, 0),
  (yX1_wholeAt, cX1_wholeAt, (some .int), 3, 77),
  (yX1_addStates, cX1_addStates, none, 2, 48),
  (yX1_addState, cX1_addState, none, 0, 0),
  (yX2_init, cX2_init, none, 2, 46),
  (yX2_nextDraft, cX2_nextDraft, none, 0, 0),
  (yX2_keepDraft, cX2_keepDraft, none, 1, 18),
  (yX2_isHalf, cX2_isHalf, (some .boolean), 1, 23),
  (yX2_keepsWithin, cX2_keepsWithin, (some .boolean), 0, 0),
  (yX2_countLeaving, cX2_countLeaving, (some .int), 0, 0),
  (yX2_find, cX2_find, (some .int), 0, 0),
  (yX2_lay, cX2_lay, (some .int), 1, 26),
  (yX2_leadsOut, cX2_leadsOut, (some .boolean), 0, 0),
  (yX2_goRound, cX2_goRound, none, 0, 0),
  (yX2_rank, cX2_rank, (some .int), 4, 102),
  (yX2_fillTable, cX2_fillTable, (some .int), 3, 77),
  (yX2_fillRow, cX2_fillRow, none, 2, 50),
  (yX2_raise, cX2_raise, (some .int), 0, 0),
  (yX2_swapRows, cX2_swapRows, none, 0, 0),
  (yX2_clearBelow, cX2_clearBelow, none, 1, 22),
  (yX3_init, cX3_init, none, 1, 12),
  (yX3_begin, cX3_begin, none, 0, 0),
  (yX3_take, cX3_take, none, 1, 18),
  (yX3_isLike, cX3_isLike, (some .boolean), 1, 23),
  (yX3_isAt, cX3_isAt, (some .boolean), 0, 0),
  (yX3_isFactor, cX3_isFactor, (some .boolean), 0, 0),
  (yX3_join, cX3_join, (some .boolean), 3, 66),
  (yX3_change, cX3_change, (some .boolean), 2, 41),
  (yX3_insert, cX3_insert, (some .boolean), 2, 41),
  (yX3_moveTail, cX3_moveTail, none, 1, 18),
  (yX3_joinAll, cX3_joinAll, (some .boolean), 4, 91),
  (yX3_joinProducts, cX3_joinProducts, (some .boolean), 4, 91),
  (yX3_fitsProduct, cX3_fitsProduct, (some .boolean), 1, 21),
  (yX4_init, cX4_init, none, 5, 115),
  (yX4_many, cX4_many, (some .int), 4, 93),
  (yX4_partner, cX4_partner, (some .int), 2, 42),
  (yX4_about, cX4_about, (some .int), 3, 71),
  (yX4_stack, cX4_stack, (some .int), 2, 42),
  (yX4_box, cX4_box, (some .int), 2, 51),
  (yX4_plain, cX4_plain, (some .int), 2, 48),
  (yX4_word, cX4_word, (some .int), 2, 43),
  (yX4_clear, cX4_clear, (some .int), 1, 21),
  (yX4_add, cX4_add, (some .int), 4, 91),
  (yX4_work, cX4_work, (some .int), 6, 141),
  (yX4_sum, cX4_sum, (some .int), 1, 20),
  (yX4_term, cX4_term, (some .long), 1, 20),
  (yX4_same, cX4_same, (some .int), 2, 45),
  (yX4_closed, cX4_closed, (some .long), 1, 20),
  (yX4_halves, cX4_halves, (some .int), 2, 41),
  (yX4_half, cX4_half, (some .int), 2, 41),
  (yX4_form, cX4_form, (some .int), 2, 50),
  (yX4_free, cX4_free, (some .int), 5, 129),
  (yX4_row, cX4_row, (some .int), 1, 21),
  (yX4_cross, cX4_cross, (some .int), 1, 21),
  (yX4_back, cX4_back, (some .int), 1, 20),
  (yX4_power, cX4_power, (some .int), 4, 99),
  (yX4_isStrands, cX4_isStrands, (some .boolean), 0, 0),
  (yX4_isSum, cX4_isSum, (some .boolean), 0, 0),
  (yX4_isThrough, cX4_isThrough, (some .boolean), 1, 20),
  (yX4_isBox, cX4_isBox, (some .boolean), 1, 20),
  (yX4_isPrime, cX4_isPrime, (some .boolean), 0, 0),
  (yX4_make, cX4_make, (some .boolean), 5, 118),
  (yX5_init, cX5_init, none, 5, 123),
  (yX5_in, cX5_in, (some .boolean), 0, 0),
  (yX5_isWide, cX5_isWide, (some .boolean), 1, 25),
  (yX5_boxes, cX5_boxes, (some .int), 0, 0),
  (yX5_first, cX5_first, (some .int), 0, 0),
  (yX5_isBox, cX5_isBox, (some .boolean), 2, 45),
  (yX5_at, cX5_at, (some .int), 1, 20),
  (yX5_decode, cX5_decode, none, 2, 41),
  (yX5_numberOf, cX5_numberOf, (some .int), 2, 41),
  (yX5_lead, cX5_lead, (some .int), 0, 0),
  (yX5_stacked, cX5_stacked, (some .int), 3, 65),
  (yX5_ringsClosed, cX5_ringsClosed, (some .int), 2, 41),
  (yX5_isLetter, cX5_isLetter, (some .boolean), 1, 25),
  (yX5_plainBox, cX5_plainBox, (some .int), 3, 65),
  (yX5_findWords, cX5_findWords, none, 4, 94),
  (yX5_isPlane, cX5_isPlane, (some .boolean), 2, 41),
  (yX5_round, cX5_round, (some .int), 0, 0),
  (yX5_many, cX5_many, (some .int), 3, 71),
  (yX5_partner, cX5_partner, (some .int), 3, 66),
  (yX5_through, cX5_through, (some .int), 2, 41),
  (yX5_upsideDown, cX5_upsideDown, (some .int), 3, 65),
  (yX5_about, cX5_about, (some .int), 4, 89),
  (yX5_stack, cX5_stack, (some .int), 4, 94),
  (yX5_box, cX5_box, (some .int), 3, 65),
  (yX5_plain, cX5_plain, (some .int), 4, 89),
  (yX5_word, cX5_word, (some .int), 3, 66),
  (yX5_isSum, cX5_isSum, (some .boolean), 1, 25),
  (yX5_load, cX5_load, none, 0, 0),
  (yX5_store, cX5_store, (some .int), 0, 0),
  (yX5_move, cX5_move, none, 0, 0),
  (yX5_comes, cX5_comes, (some .boolean), 1, 25),
  (yX5_clear, cX5_clear, (some .int), 2, 45),
  (yX5_add, cX5_add, (some .int), 3, 66),
  (yX5_work, cX5_work, (some .int), 4, 94),
  (yX5_sum, cX5_sum, (some .int), 2, 45),
  (yX5_term, cX5_term, (some .long), 2, 45),
  (yX5_same, cX5_same, (some .int), 2, 45),
  (yX5_closed, cX5_closed, (some .long), 3, 69),
  (yX5_isHalf, cX5_isHalf, (some .boolean), 0, 0),
  (yX5_lay, cX5_lay, (some .int), 1, 27),
  (yX5_areHalves, cX5_areHalves, (some .boolean), 2, 45),
  (yX5_halves, cX5_halves, (some .int), 3, 66),
  (yX5_half, cX5_half, (some .int), 3, 66),
  (yX5_formOf, cX5_formOf, (some .int), 0, 0),
  (yX5_form, cX5_form, (some .int), 3, 66),
  (yX5_isPrime, cX5_isPrime, (some .boolean), 0, 0),
  (yX5_inverse, cX5_inverse, (some .int), 0, 0),
  (yX5_free, cX5_free, (some .int), 4, 93),
  (yX5_reduce, cX5_reduce, none, 1, 22),
  (yX5_row, cX5_row, (some .int), 1, 25),
  (yX5_cross, cX5_cross, (some .int), 1, 25),
  (yX5_back, cX5_back, (some .int), 0, 0),
  (yX5_addState, cX5_addState, none, 4, 94),
  (yX5_power, cX5_power, (some .int), 5, 123),
  (yJ9_floorMod_7cf53, cJ9_floorMod_7cf53, (some .int), 0, 0),
  (yJ9_abs_0f7a4, cJ9_abs_0f7a4, (some .int), 0, 0),
  (yJ9_abs_067f4, cJ9_abs_067f4, (some .long), 0, 0),
  (yJ9_min_7cf53, cJ9_min_7cf53, (some .int), 0, 0)]
def ax_in : List Nat := [57, 57, 57, 57, 57, 57, 57, 57, 57, 57, 57, 57, 57, 57, 57, 57, 57, 57, 57, 57, 57, 57, 57, 57, 57, 57, 57, 57, 57, 56, 56, 56, 56, 56, 56, 56, 56, 60, 60, 60, 60, 60, 60, 60, 60, 60, 60, 60, 60, 60, 60, 60, 60, 55, 55, 55, 55, 55, 55, 55, 55, 55, 55, 55, 55, 55, 54, 54, 54, 54, 54, 54, 54, 54, 54, 54, 54, 54, 54, 54, 54, 54, 54, 54, 54, 54, 54, 54, 54, 54, 54, 54, 54, 54, 54, 61, 61, 61, 61, 61, 61, 61, 61, 61, 61, 61, 61, 61, 61, 61, 61, 61, 61, 61, 61, 61, 61, 61, 61, 61, 61, 61, 61, 61, 61, 61, 61, 61, 61, 61, 61, 61, 61, 61, 61, 61, 61, 61, 61, 61, 61, 61, 61, 61, 61, 61, 61, 61, 61, 58, 58, 58, 58]
def ah_X0_init : List (List Nat) := [[], [132, 68, 69], [], [], [215], [], [], [], [], [216], [], [], [], [], [], [], [217], [], [], [216], [133, 134], [218], [], [], [218], [], [216], [136, 102], [220], [], [], [218], [102], [222], [], [], [218], [102], [225], [], [], [218], [], [136, 102], [227], [], [], [218], [], [217], [136, 102], [228], [], [], [216], [102], [230], [], [], [216], [255], [231], [], [138, 140, 0], [], [], [], [], [218], [], [], [222], [], [], [], [220], [], [], [161, 163, 5], [], [], [], [], [169, 171, 7], [], [201, 203, 14], []]
def ah_X0_countPairings : List (List Nat) := [[], [], [], [], [], [], [], [], [], [], [], [], [], [], [], [], []]
def ah_X0_listPairings : List (List Nat) := [[], [215], [102], [], [], [], [], [], [218], [], [], [], [], [220], [], [], [142, 144, 1], [], [], [157, 159, 4], [], [], []]
def ah_X0_pairBy : List (List Nat) := [[], [146, 148, 2], [], [], [], [], [], [], [216], [], [], [], [], [], [215], [], [], [231], [], [], [], [], [], [], [], [], [150, 152, 3], [], [], [231], [], [], [], [], [231], [], [], [], [], [], [], [154, 155], [], [], [], []]
def ah_X0_freeBehind : List (List Nat) := [[], [], [], [], [], [], [], [], [216], [], [], [], [], [231], [], [], [], [], [], [], [], [231], [], [], [], [], [], [], [], [], [], [], [], []]
def ah_X0_countUp : List (List Nat) := [[], [215], [], [], [], [], [], [], [], [], [], [216], [], [], [], [], [], [], [], [], [], [], [], [], [], [], [], [], [], [], [], [], [], [], []]
def ah_X0_numberOf : List (List Nat) := [[], [], [], [216], [], [], [], [], [], [], [], [216], [], [], [], [], [], [], [], [], [], [], [], [], [], [], [], [], [], [], [], [], [], [], [], [], [], [], [], [], [], [], [], [], [], [], [], [], [], [], [], [], []]
def ah_X0_countPlane : List (List Nat) := [[], [], [], [], [], [], [218], [], [], [], [], [328, 329, 330], [], [], [], [], [], [], [], [], [], []]
def ah_X0_isPlane : List (List Nat) := [[], [220], [], [], [], [], [], [], [], [216], [], [], [], [332, 334, 19], [], [], [], [], [], [332, 334, 19], [], [], [], [], [], [216], [], [], [], [], [], [336, 338, 20], [], [], [], [], [], [], [], [336, 338, 20], [], [], [], [], [], [], [], [], []]
def ah_X0_isBetween : List (List Nat) := [[], [], [332, 334, 19], [], [], [], [], [], [], [], [], [], [], []]
def ah_X0_placeRound : List (List Nat) := [[], [], [215], [], [], [], [], [215], [], [216], [], [], [], [], [], []]
def ah_X0_countThrough : List (List Nat) := [[], [], [], [], [], [], [215], [], [], [], [220], [], [], [], [], [], [215], [], [], [], [], [], [], [], [], [], []]
def ah_X0_upsideDown : List (List Nat) := [[], [], [], [], [216], [], [], [230], [], [], [165, 167, 6], [], [], [220], [], [], [], [], [165, 167, 6], [], [], [], [], [], [230], [185, 187, 10], []]
def ah_X0_across : List (List Nat) := [[], [], [215], [], [], [], [215], [], [], [], [], [215], [], []]
def ah_X0_closeRings : List (List Nat) := [[], [146, 148, 2], [], [], [], [], [], [], [216], [], [], [231], [], [], [], [], [], [], [], [], [], [], [216], [], [], [231], [], [], [], [], [231], [], [], [], [], [], [], [], [], [231], [], [], [], [], [], [165, 167, 6], [], [], [], [], [], [], []]
def ah_X0_forgetSeen : List (List Nat) := [[], [], [], [], [216], [], [], [231], [], [], [], [], [], []]
def ah_X0_stackLetters : List (List Nat) := [[], [], [], [], [217], [], [], [], [], [173, 175, 8], [177, 178, 179], [], [], [], [], [], [218], [], [], [228], [], [], [], [], [], [220], [], [], [], [220], [], [], [189, 191, 11], [], [], [], [], [], []]
def ah_X0_letterAt : List (List Nat) := [[], [], [215], [], [], [], [], [], [], [], [], [], [215], [], [], [], [], [], []]
def ah_X0_isLetter : List (List Nat) := [[], [], [], [], [], [215], [], [], [], [], [], [], [], [215], [], [], [], [], [], [], [], []]
def ah_X0_ofLetter : List (List Nat) := [[], [], [], [], [181, 183, 9], [], [], [], [], [], [], [], [216], [], [], [230], [], [], [], [165, 167, 6], [], [], [], [], [], [], [], [], [], [], [], [230], [], [], [215], [], [], [], [], [154, 155], [], [230], [], [], [], [], [215], [], [], [154, 155], [], [], [], [], [230], [], [], [], [], [154, 155], [], [230], [], [215], [], [], [], [], [], [215], [], [], [154, 155], [], [], [230], [185, 187, 10], []]
def ah_X0_pair : List (List Nat) := [[], [], [], [], [], [], [], [], []]
def ah_X0_ofPairs : List (List Nat) := [[], [], [], [215], [], [], [], [], [], [], [], [], [146, 148, 2], [], [], [], [], [215], [], [], [], [], [], [], [], [], [], [], [], [], [], [], [], [], [], [], [], [], [], [], [], [216], [], [], [], [216], [], [], [], [], [], [231], [], [], [], [], [231], [], [], [], [], [], [], [231], [], [], [], [], [231], [], [], [], [], [230], [], [], [154, 155], [], [], [], [], [230], [185, 187, 10], []]
def ah_X0_join : List (List Nat) := [[], [146, 148, 2], [], [], [], [], [216], [], [], [230], [], [], [], [], [], [193, 195, 12], [], [], [], [], [], [230], [185, 187, 10], [], [], [], [], [197, 199, 13], [], [], []]
def ah_X0_follow : List (List Nat) := [[], [], [215], [], [], [], [], [], [], [], [], [], [], [], [216], [], [], [], [], [], [], [], [], [], [], [], [], [], [], [215], [], [], [], [], [], [], [], [], [231], [], [], [], [], [215], [], [], [], [], [], [], [], [165, 167, 6], [], [], [], [], [], [], [], [], [], [], []]
def ah_X0_countInnerRings : List (List Nat) := [[], [], [], [], [], [], [215], [], [], [231], [], [], [], [], [], [], [], [], [], [], [215], [], [], [231], [], [], [], [], [231], [], [], [], [], [], [], [], [165, 167, 6], [], [165, 167, 6], [], [], [231], [], [], [], [], [], [], [], [], [], [], [], [], []]
def ah_X0_spellAll : List (List Nat) := [[], [], [], [], [218], [], [], [225], [], [], [], [], [], [], [218], [102], [], [], [], [], [], [177, 178, 179], [], [], [225], [], [], [], [], [], [], [], [], [], [], [], [], [], [], [218], [], [], [], [], [], [217], [], [], [228], [], [], [], [], [], [], [], [], [], [218], [], [], [225], [], [], [], [], [], [], [218], [], [], [], [], [], [], [], [205, 207, 15], [], [], [], [], [], [], [], [], [], []]
def ah_X0_spellBehind : List (List Nat) := [[], [225], [], [], [], [209, 210], [], [], [227], [], [], [], [], [227], [], [], [], [], [212, 214, 213, 59], [], [227], [], [], [], [], [], [], [225], [], [], [], [], [], []]
def ah_X0_letterOf : List (List Nat) := [[], [], [225], [], [], [], [], [], [227], [], [], [], [], [173, 175, 8], [], [], []]
def ah_X0_stackOn : List (List Nat) := [[], [], [], [], [], [], [], [], [225], [], [], [], [], [228], [], [], [], [227], [], [], [], [], [], [], [], [], [], [], [], [], [], [], [], [], [], [], [], [], [], []]
def ah_X1_init : List (List Nat) := [[], [109, 68, 69], [], [], [110], [], [], [102], [114], [], [], [102], [115], []]
def ah_X1_begin : List (List Nat) := [[], [], [110], [], [], [112], [], [], [116], []]
def ah_X1_allows : List (List Nat) := [[], [], [], [], [110], [], [], [], [], [110], [], [], [], [], []]
def ah_X1_append : List (List Nat) := [[], [112], [], [], [], [], [], [114], [], [112], [], [], [], [], [112], [], [], [112], [], [], [116], [], []]
def ah_X1_dropLast : List (List Nat) := [[], [112], [], [], [], [], [], [112], [], [], [112], [], [], [116], [], []]
def ah_X1_wholeAt : List (List Nat) := [[], [116], [], [], [], [589, 591, 33], [], [], [116], [], [115], [], [], [], [], []]
def ah_X1_addStates : List (List Nat) := [[], [], [], [], [115], [], [], [], [115], [], [], [], [], [], [], [], [593, 178, 179], [], [], [], [], [], [], [112], [], [], [], [], [], [], [], [], [], [], [], [], [112], [], [], [], [], [], [], [], [], [], [], [], [], [], [], [], [114], [], [], [], [], [], [], [], [], [], [], [], [], [], [], [], [229], [], [], [], [114], [], [], [594, 595], [], [], [], [], [], [], [], [], [], [], [], [], [], [], [], [], [], [], [], [], [224], [], [], [], [], [], [597, 599, 34], [], [], []]
def ah_X1_addState : List (List Nat) := [[], [], [], [], [], [], [], [], [], [], [], [], [], [], [], [], [], [], [], [], [], [], [], [], [], [], [115], [], [], [], [], [], [], [], [], [], [], [], [], [], [], [], [], [], [], [], [], [], []]
def ah_X2_init : List (List Nat) := [[], [260, 68, 69], [], [], [102], [281], [], [], [], [261, 102], [282], [], [], [278], [], [], [], [261, 102], [279], [], [], [102], [283], [], [], [255], [284], [], [], [], [], [], [], [], [], [], [], [], [], [], [], [], [], [], [], [], [], [], [], [283], [262, 264, 16], [], [], [285], [], [], [], [269, 271, 17], [], [274, 276, 18], [], [], []]
def ah_X2_nextDraft : List (List Nat) := [[], [278], [], [], [], [], [], [], [283], [], [], [], [278], [], [], [283], [], [], [], [], [], [], [], [], [283], [], [], [], [], [], [], []]
def ah_X2_keepDraft : List (List Nat) := [[], [283], [], [], [279], [], [285], [], [], [], [278], [273, 214, 213, 59], [], [], [], [], [278], [], [], [281], [], [285], [], [], [], [283], [], [], [], [278], [], [], [], [], [], [], [], [], [], [], [285], [], [], [285], []]
def ah_X2_isHalf : List (List Nat) := [[], [], [], [], [278], [], [], [], [], [], [], [], [278], [], [], [], [], [], [], [], [], [], [], [], [], [], [278], [], [], [], [], [266, 267], [], [], [], [], [], [], []]
def ah_X2_keepsWithin : List (List Nat) := [[], [], [], [], [], [], [], [], [], [], [], [], [], [], [], [], [], [], [], [], [], [], []]
def ah_X2_countLeaving : List (List Nat) := [[], [], [], [], [], [], [285], [], [], [], [281], [], [], [], [], [], [], [], [], [], [], [], [], []]
def ah_X2_find : List (List Nat) := [[], [], [], [], [], [], [285], [], [], [281], [], [], [], [], [], [], [], [], [], [], [], [], [], []]
def ah_X2_lay : List (List Nat) := [[], [], [], [], [278], [], [], [284], [], [], [], [], [], [], [], [], [], [278], [], [], [279], [], [], [], [], [], [278], [], [], [], [279], [], [], [], [279], [], [], [], [510, 512, 27], [], [], [], [], [], [], [], [], [], [], [], [278], [], [], [284], [], [], [], [], [], [], [279], [], [], [], [279], [], [], [], [514, 516, 28], [], [], [], []]
def ah_X2_leadsOut : List (List Nat) := [[], [], [], [], [], [], [278], [], [], [284], [], [], [], [], [], [], [], [], [], [278], [], [], [], [], [284], [], [], [], [], [], [], [], [], [], [278], [], [], [], [], [], [], []]
def ah_X2_goRound : List (List Nat) := [[], [], [], [], [], [], [278], [], [], [], [278], [], [], [284], [], [], [], [], [284], [], [], [], [], [], [], [], [], [], [278], [], [], [284], [], [], [], [], [], [], [], [], [], []]
def ah_X2_rank : List (List Nat) := [[], [], [], [], [529, 530], [], [532, 534, 29], [], [], [], [], [], [], [], [], [], [], [], [], [], [], [282], [], [], [], [], [], [], [], [], [], [], [], [], [], [], [544, 546, 31], [], [], [], [], [], [548, 550, 32], [], [], [], [], []]
def ah_X2_fillTable : List (List Nat) := [[], [], [], [], [], [], [285], [], [], [281], [], [], [], [], [], [], [282], [], [], [], [], [], [536, 538, 30], [], [], [], [], []]
def ah_X2_fillRow : List (List Nat) := [[], [], [], [], [], [], [285], [], [], [281], [], [], [], [281], [], [], [], [], [], [], [540, 507, 508], [], [], [], [], [], [], [], [], [], [], [], [541, 542], [], [], [], [], []]
def ah_X2_raise : List (List Nat) := [[], [], [], [], [], [], [], [], [], [], [], [], [], [], [], [], [], [], []]
def ah_X2_swapRows : List (List Nat) := [[], [], [], [], [], [], [282], [], [], [], [], [], [], [282], [], [], [], [], [282], [], [], [], [], [], [], [282], [], [], [], [], [], [], [], []]
def ah_X2_clearBelow : List (List Nat) := [[], [282], [], [], [], [], [], [], [], [], [], [], [], [], [], [282], [], [], [], [], [], [], [], [], [], [], [], [282], [], [], [], [], [282], [], [], [], [], [], [], [], [282], [], [], [], [], [], [], [], [], [529, 530], [], [], [], [], [], []]
def ah_X3_init : List (List Nat) := [[], [80, 68, 69], [], [], [81], [], [], [102], [85], [], [], [102], [87], [], [], [103], [89], []]
def ah_X3_begin : List (List Nat) := [[], [], [81], [], [], [83], []]
def ah_X3_take : List (List Nat) := [[], [], [81], [81], [], [], [83], [83], [], [85], [], [], [85], [], [], [83], [428, 214, 213, 59], [], [87], [], [], [87], [], [], [83], [428, 214, 213, 59], [], [89], [], [], [89], [], [], [83], [428, 214, 213, 59], []]
def ah_X3_isLike : List (List Nat) := [[], [81], [], [81], [], [], [83], [], [83], [], [], [], [], [], [], [], [83], [], [], [], [], [85], [], [], [], [87], [], [], [416, 418, 22], [], [], [89], [], [], [], [89], [], [], [], [], [], [], [], [], [], []]
def ah_X3_isAt : List (List Nat) := [[], [], [83], [], [], [85], [], [], [], [], [], [87], [], [], [], [], [], [], [], []]
def ah_X3_isFactor : List (List Nat) := [[], [414], [], [], [], [415], [], [], [], [], [], []]
def ah_X3_join : List (List Nat) := [[], [], [], [], [411, 412], [], [], [], [], [], [], [], [83], [], [], [85], [], [], [], [], [], [85], [], [], [], [], [], [87], [], [], [], [], [], [], [], [], [], [], [416, 418, 22], [], [], [], [], [89], [], [], [], [], [420, 422, 23], [], [], [], [], [], [], [], [], [], [], [], [], [429, 431, 25], []]
def ah_X3_change : List (List Nat) := [[], [411, 412], [], [], [], [], [], [], [], [], [], [], [], [], [424, 426, 24], [], [], [83], [], [], [83], [], [], [89], [], [], [], [], []]
def ah_X3_insert : List (List Nat) := [[], [83], [], [], [], [], [], [], [], [], [], [424, 426, 24], [], [], [83], [], [], [83], [], [85], [], [], [], [], [87], [], [], [], [], [89], [], [], [], [], []]
def ah_X3_moveTail : List (List Nat) := [[], [83], [], [], [], [], [85], [], [], [85], [], [], [428, 214, 213, 59], [], [87], [], [], [87], [], [], [428, 214, 213, 59], [], [89], [], [], [89], [], [], [428, 214, 213, 59], []]
def ah_X3_joinAll : List (List Nat) := [[], [], [], [], [83], [], [], [], [85], [], [], [], [87], [], [], [], [], [], [89], [], [], [], [452, 408, 409], [], [], [], [], [], [], []]
def ah_X3_joinProducts : List (List Nat) := [[], [], [], [], [83], [], [], [], [], [], [83], [], [], [89], [], [], [], [89], [], [], [445, 446], [], [], [], [], [], [85], [], [], [], [85], [], [], [451, 366, 367], [], [], [87], [], [], [], [87], [], [], [], [], [], [], [], [], [], [], [], [], [], [], [89], [], [], [], [89], [], [], [], [452, 408, 409], [], [], [], [], [], [], [], [], []]
def ah_X3_fitsProduct : List (List Nat) := [[], [], [], [], [], [448, 449], [415], [], [448, 449], [], [], [], [], [], [], []]
def ah_X4_init : List (List Nat) := [[], [67, 68, 69], [], [], [70], [301], [], [], [72], [302], [], [], [74], [303], [], [74, 76, 55], [], [78, 9999], [304], [], [104, 105, 56], [], [107, 9999], [305], [], [], [], [], [], [], [301], [], [], [], [70, 128, 57], [], [], [130, 129], [], [], [302], [], [], [], [72, 256, 60], [], [], [258, 257], [], [], [], [], [], [], [], [], [], [303], [], [74, 76, 55], [], [78, 9999], [], [], [], []]
def ah_X4_many : List (List Nat) := [[], [321, 322], [], [], [], [], [], [], [], [], [], [], [], [301], [], [], [], [], [219], [], [], [301], [], [], [], [], [324, 325, 326], []]
def ah_X4_partner : List (List Nat) := [[], [], [], [344, 346, 21], [], [], [], [], [], [], [], [], [], [], [], [301], [], [], [], [], [221], [], [], [], [], []]
def ah_X4_about : List (List Nat) := [[], [], [], [344, 346, 21], [], [], [], [], [301], [], [], [], [], [], [], [], [], [], [352, 329, 330], [], [], [], [], [], [], [], [353, 354, 355], [], [], [], [357, 358, 359], [], [], [223], [], [], [], [], [226], [], [], [], [], []]
def ah_X4_stack : List (List Nat) := [[], [], [], [344, 346, 21], [], [], [], [], [344, 346, 21], [], [], [], [], [301], [], [], [], [], [], [], [365, 366, 367], []]
def ah_X4_box : List (List Nat) := [[], [321, 322], [], [], [], [], [301], [], [], [], [], [], [373, 374, 375], []]
def ah_X4_plain : List (List Nat) := [[], [321, 322], [], [], [], [], [301], [], [], [], [], [], [381, 178, 179], []]
def ah_X4_word : List (List Nat) := [[], [], [], [344, 346, 21], [], [], [], [], [], [], [301], [], [], [], [], [], [], [386, 387, 388], []]
def ah_X4_clear : List (List Nat) := [[], [394, 395], [], [], [321, 322], [], [], [], [], [303], [], [], [84], [], [], [303], [], [], [], [397, 398, 399], [], []]
def ah_X4_add : List (List Nat) := [[], [394, 395], [], [], [], [303], [], [], [82], [], [344, 346, 21], [], [], [], [], [], [], [], [], [], [405], [], [], [], [406], [], [], [], [], [], [303], [], [], [], [], [], [407, 408, 409], [], [], [303], [], [], [84], [], [], []]
def ah_X4_work : List (List Nat) := [[], [394, 395], [], [], [], [], [], [], [], [394, 395], [], [], [394, 395], [], [], [], [], [303], [], [], [82], [], [303], [], [], [82], [], [], [], [], [], [], [303], [], [], [], [303], [], [], [437, 439, 26], [], [], [], [], [303], [], [], [], [304], [457, 458, 459], [], [304], [84], []]
def ah_X4_sum : List (List Nat) := [[], [394, 395], [], [], [], [], [], [], [], [], [], [], [], [303], [], [], [82], [], [], [303], [], [], [84], []]
def ah_X4_term : List (List Nat) := [[], [394, 395], [], [], [], [], [], [], [], [], [469], [], [], [303], [], [], [], [], [], [84], [], [470], [], [], [], [], [], [90], [], [], [], [], [], [], [86], [], [], [], [], [], [88], [], [], [], []]
def ah_X4_same : List (List Nat) := [[], [394, 395], [], [], [394, 395], [], [], [], [], [303], [], [], [], [303], [], [], [475, 476, 477], [], [], [], [], []]
def ah_X4_closed : List (List Nat) := [[], [394, 395], [], [], [], [], [], [], [], [], [], [303], [], [], [], [], [301], [], [82], [], [], [], [223], [], [], [], [], [], [], [], [84], [], [], [88], [], [], [], [], [86], [], [], [], [], [], [], [], [], [90], [], [], [], [], [], [], [], []]
def ah_X4_halves : List (List Nat) := [[], [], [487, 488], [], [], [], [], [302], [], [], [], [], [], [490, 491, 492], []]
def ah_X4_half : List (List Nat) := [[], [], [487, 488], [], [], [], [], [], [], [], [], [], [302], [], [], [], [], [], [], [498, 499, 500], [], [], [], [], [], [], [302], [], [], [], [], [280], [], [], [], [], []]
def ah_X4_form : List (List Nat) := [[], [], [487, 488], [], [], [], [], [302], [], [], [], [], [], [], [498, 499, 500], [], [], [302], [], [], [], [], [], [], [498, 499, 500], [], [], [], [], [], [], [], [], [302], [], [], [], [], [], [], [506, 507, 508], []]
def ah_X4_free : List (List Nat) := [[], [], [487, 488], [], [], [], [], [], [], [], [], [522, 523], [], [], [], [], [302], [], [], [], [], [], [], [], [525, 526, 527], []]
def ah_X4_row : List (List Nat) := [[], [], [], [], [], [], [], [], [], [305], [], [556, 557, 558], [], []]
def ah_X4_cross : List (List Nat) := [[], [305], [], [564, 565, 566], [], [], [], [], [305], [], [568, 569, 570], [], [], [305], [113], [], [], []]
def ah_X4_back : List (List Nat) := [[], [305], [576, 577, 578], [], [], [305], [113], [], [], []]
def ah_X4_power : List (List Nat) := [[], [], [], [], [], [], [584], [], [], [305], [], [], [301], [], [305], [111], [], [], [], [585, 586, 587], []]
def ah_X4_isStrands : List (List Nat) := [[], [], [], [], [], [], [], [], [], []]
def ah_X4_isSum : List (List Nat) := [[], [], [], [], [], [], [], [], []]
def ah_X4_isThrough : List (List Nat) := [[], [321, 322], [], [], [], [], [], [], [], [], [], []]
def ah_X4_isBox : List (List Nat) := [[], [321, 322], [], [], [], [], [], [301], [], [], [], [], [219], [], [], [], [], []]
def ah_X4_isPrime : List (List Nat) := [[], [], [], [], [], [], [], [], [], [], [], [], [], [], [], [], [], [], [], [], [], [], [], [], []]
def ah_X4_make : List (List Nat) := [[], [304], [], [82], [397, 398, 399], [], [], [], [], [304], [], [], [], [301], [], [82], [], [], [], [441, 442, 443], [], [], [304], [], [], [453, 454, 455], [], [], [304], [], [], [], [], [], [], [453, 454, 455], [], [], [], [], []]
def ah_X5_init : List (List Nat) := [[], [606, 68, 69], [], [], [102], [647], [], [], [102], [648], [], [], [102], [649], [], [], [102], [650], [], [], [102], [651], [], [], [102], [652], [], [], [102], [653], [], [], [102], [654], [], [], [103], [655], [], [], [656], [], [], [102], [658], [], [], [255], [659], [], [], [102], [660], [], [], [255], [661], [], [], [102], [663], [], [], [102], [665], [], [], [102], [666], [], [], [103], [667], [], [], [102], [668], [], [], [102], [669], [], [], [102], [670], [], [], [102], [671], [], [], [102], [672], [], [], [102], [673], [], [], [], [], [], [], [651], [], [], [], [], [], [], [], [], [], [], [], [], [], [], [607, 608], [], [], [], [], [610, 612, 35], [], [], [], [], [], [], [], [], [], [], [], [620, 622, 36], [], [], []]
def ah_X5_in : List (List Nat) := [[], [], [], [], [], [], [], [], [], [], [], []]
def ah_X5_isWide : List (List Nat) := [[], [], [], [736], [635, 636], []]
def ah_X5_boxes : List (List Nat) := [[], [], [], [], [], [], [], [], [], [], [], [], [], [], [], [], []]
def ah_X5_first : List (List Nat) := [[], [], [], [], [], [], [], [], [], [], [], [], [], [], [], [], []]
def ah_X5_isBox : List (List Nat) := [[], [733, 734], [], [], [], [], [], [607, 608], [], [], [], [635, 636], [], [], [], [], []]
def ah_X5_at : List (List Nat) := [[], [], [617, 618], [], [], [], []]
def ah_X5_decode : List (List Nat) := [[], [], [], [], [], [], [659], [], [], [], [], [], [], [], [], [607, 608], [], [], [], [], [], [], [], [], [], [], [], [], [], [], [], [], [], [], [], [], [], [], [], [], [659], [], [], [], [], [], [], [659], [], [], [], [], [], [], [], [], [659], [], [], [], [], [], [], [], [659], [], [], [], [], [], [], [], [], [], [], [], [659], [], [], [], [], [647], [], [], [614, 615], [], [], [], [], [], [647], [], [], [614, 615], [], [], [], [], [], [], []]
def ah_X5_numberOf : List (List Nat) := [[], [], [], [], [607, 608], [], [], [], [], [], [], [], [], [], [], [], [], [], [647], [], [], [614, 615], [], [], [], [], [660], [], [], [], [], [], [], [], [], [], [], [], [], [], [], [], [], []]
def ah_X5_lead : List (List Nat) := [[], [], [], [], [], [], [], [], [], [], [647], [], [], [], [], [], [], [], [], [], [], [], [], [], [], [], [], [], [], [], [], [], [], [], [], [], [], [], [], [], [], [], [], [], [], [], [], [], [], [661], [], [], [], [], [], [], [], [], [], [], [], [], [], [], [], [], [], []]
def ah_X5_stacked : List (List Nat) := [[], [], [614, 615], [], [], [], [614, 615], [], [], [], [], [], [], [], [661], [], [], [], [], [], [], [], [], [], [], [], [], [], [660], [], [], [], [], [], [], [643, 645, 40], [], [], [], [], [], [662], [], [], [], [], [], [], [661], [], [], [], [], [], [662], [], [], [662], [], [], [], [], [], [], [], [661], [], [], [], [], [647], [], [], [], [], [], [], [661], [], [], [], [], [647], [], [], [], [], [], [], [], [], [], [], [], [], [], [], [], [], [], [], [], [], [], [628, 630, 38], []]
def ah_X5_ringsClosed : List (List Nat) := [[], [], [614, 615], [], [], [], [], [], [], [], [661], [], [], [], [], [], [], [], [], [], [], [], [], [], [661], [], [], [], [], [], [], [], [], [], [], [], [661], [], [], [], [], [], [], [647], [], [], [], [], [], [], [661], [], [], [], [], [], [], [], [], [], [], [], [], [], [], [], [], [], [], [], [], [], [], [], [], [], [], [], []]
def ah_X5_isLetter : List (List Nat) := [[], [], [], [], [], [], [], [635, 636], [], [], [], [638], [], [], [], [], [635, 636], [], [], [], [], []]
def ah_X5_plainBox : List (List Nat) := [[], [], [], [], [], [], [660], [], [], [], [], [], [], [660], [], [], [], [], [], [], [], [], [], [], [], [], [], [], [], [], [], [], [], [], [], [660], [], [], [], [], [], [], [], [], [], [], [], [], [660], [], [], [], [], [], [], [], [], [], [], [], [], [], [], [660], [], [], [], [], [], [], [], [], [], [], [], [], [], [], [660], [], [], [], [], [], [], [], [], [], [], [], [], [], [], [], [], [], [628, 630, 38], []]
def ah_X5_findWords : List (List Nat) := [[], [617, 618], [], [], [], [], [], [607, 608], [], [], [650], [], [], [], [], [], [], [], [], [], [], [624, 626, 37], [], [], [650], [], [], [], [], [], [], [663], [], [], [], [], [], [], [], [], [], [], [], [663], [], [], [], [], [], [], [], [], [], [], [], [], [632, 633], [], [], [], [], [624, 626, 37], [], [], [], [], [], [639, 641, 39], [], [], [662], [], [], [650], [], [], [], [], [], [], [], [650], [], [], [], [], [650], [], [], [], [], [], [], [], [], [648], [], [], [], [], [], [], [649], [], [], [], [], [], [], [663], [], [], [], [], [], [], [], [], []]
def ah_X5_isPlane : List (List Nat) := [[], [], [614, 615], [], [], [], [], [], [], [], [], [], [], [], [], [], [], [], [], [], [], [], [741, 742], [], [], [], [647], [], [], [], [], [741, 742], [], [], [], [741, 742], [], [], [], [647], [], [], [], [], [741, 742], [], [], [], [], [], [], [], [], [], [], [], [], [], [], [], [], [], [], [], [], [], []]
def ah_X5_round : List (List Nat) := [[], [], [], [], [], [], [], [], [], [], [], [], []]
def ah_X5_many : List (List Nat) := [[], [733, 734], [], [], [], [], [], [635, 636], [], [], [], [], [], [], [], [], [], [607, 608], [], [], [], [], [], [], [], [737, 739, 41], [], [], [], [], [], [], [], [], [], []]
def ah_X5_partner : List (List Nat) := [[], [], [748, 749], [], [], [], [], [], [], [], [], [], [], [635, 636], [], [], [647], [], [], [614, 615], [], [], [], [], [], []]
def ah_X5_through : List (List Nat) := [[], [], [], [], [], [], [], [], [], [647], [], [], [614, 615], [], [], [], [], [], [], [], [], [], [], [], [], [], []]
def ah_X5_upsideDown : List (List Nat) := [[], [], [], [], [], [], [], [], [647], [], [], [614, 615], [], [], [], [], [], [660], [], [], [], [], [], [], [], [], [], [], [], [], [], [], [], [], [], [], [], [], [], [], [], [], [], [628, 630, 38], []]
def ah_X5_about : List (List Nat) := [[], [], [748, 749], [], [], [], [], [736], [635, 636], [], [], [], [], [], [], [], [], [737, 739, 41], [], [], [], [], [], [], [], [], [755, 757, 42], [], [], [], [], [759, 761, 43], [], [], [], [], [763, 765, 44], [], [], [650], [], [617, 618], [], [], [], []]
def ah_X5_stack : List (List Nat) := [[], [], [748, 749], [], [], [], [748, 749], [], [], [], [], [], [], [], [639, 641, 39], [], [], [], [], [662], [], [], []]
def ah_X5_box : List (List Nat) := [[], [733, 734], [], [], [], [], [], [], [], [], [], [], [], [], [], [], [], [], [], [], [], [], [660], [], [], [], [], [], [], [], [], [], [], [], [], [], [], [], [775], [], [], [], [], [], [], [], [], [], [], [775], [], [], [], [], [], [], [], [], [], [], [], [], [], [], [], [], [], [660], [], [], [], [], [], [660], [], [], [], [], [], [], [], [660], [], [], [], [], [660], [], [], [], [], [], [], [], [628, 630, 38], []]
def ah_X5_plain : List (List Nat) := [[], [733, 734], [], [], [], [], [], [632, 633], [], [], [], [], [], [], [624, 626, 37], []]
def ah_X5_word : List (List Nat) := [[], [], [748, 749], [], [], [], [], [], [], [617, 618], [], [], [650], [], [], [], [], [], [], [], [], [], [], [], [], [], [], [], [], [], [], [], [], [649], [], [], [], [], [], [], [], [], [648], [], [], [], [], []]
def ah_X5_isSum : List (List Nat) := [[], [], [], [791], [635, 636], []]
def ah_X5_load : List (List Nat) := [[], [], [652], [], [], [664], [], [], [], [], [664], [], [], [665], [], [], [653], [], [], [], [], [], [], [], [], [666], [], [], [654], [], [], [], [], [], [], [], [], [667], [], [], [655], [], [], [], [], [], [], [], [], [], []]
def ah_X5_store : List (List Nat) := [[], [651], [], [], [], [], [652], [], [], [664], [], [], [], [], [], [664], [], [], [653], [], [], [], [], [], [], [665], [], [], [], [], [654], [], [], [], [], [], [], [666], [], [], [], [], [655], [], [], [], [], [], [], [667], [], [], [], [], [], [], [664], []]
def ah_X5_move : List (List Nat) := [[], [665], [], [], [665], [], [], [], [], [666], [], [], [666], [], [], [], [], [667], [], [], [667], [], [], [], []]
def ah_X5_comes : List (List Nat) := [[], [], [], [], [], [], [], [], [], [], [811], [812], [635, 636], [], [], [], [], [], [], [], [664], [], [], [665], [], [], [], [], [], [665], [], [], [], [], [], [666], [], [], [], [], [], [], [], [], [664], [], [], [665], [], [], [], [], [], [666], [], [], [], [], [], [667], [], [], [], [], [], [], [], [667], [], [], [], [], [], [], [], [664], [], [], [664], [], [], [], [], [664], [], [], [], [], [], [], [813, 815, 48], [], [], [], [], [], [667], [], [], [811], [812], [635, 636], [], [], [664], [], [], [], [], [], [664], [], [], [], [], [], [], [], [], [], [813, 815, 48], [], [], [], [665], [], [], [], [], [666], [], [], [], [], [667], [], [], [], [], [], [664], [], [], [664], [], []]
def ah_X5_clear : List (List Nat) := [[], [788, 789], [], [], [733, 734], [], [], [], [], [652], [], [], [], [], [], [664], [], [], [], [792, 794, 45], [], [], []]
def ah_X5_add : List (List Nat) := [[], [788, 789], [], [], [651], [], [], [], [748, 749], [], [], [], [], [800], [635, 636], [], [], [801], [802], [635, 636], [], [], [], [], [], [803, 805, 46], [], [], [], [], [807, 809, 47], [], [], [], [], [651], [], [], [792, 794, 45], [], [], []]
def ah_X5_work : List (List Nat) := [[], [788, 789], [], [], [], [], [821], [635, 636], [], [], [788, 789], [], [], [788, 789], [], [], [], [], [651], [], [], [], [651], [], [], [], [], [], [], [651], [], [], [], [], [], [], [], [], [], [], [803, 805, 46], [], [], [], [], [652], [], [], [], [], [], [], [655], [], [], [], [], [], [], [], [], [], [653], [], [], [], [], [], [], [], [654], [], [], [], [], [], [], [], [], [], [], [], [], [807, 809, 47], [], [], [], [], [], [], [], [], [792, 794, 45], [], [], [], [], [], [664], [], [], [], [], [652], [], [], [], [], [], [], [], [], [], [652], [], [], [], [], [], [], [655], [], [], [], [], [], [], [], [], [655], [], [], [], [], [], [], [], [812], [], [], [], [], [], [], [], [], [], [], [], [], [], [653], [], [], [], [], [], [], [], [653], [], [], [], [], [], [], [639, 641, 39], [], [], [654], [], [], [], [], [], [], [], [654], [], [], [], [], [], [], [], [], [662], [], [], [], [], [], [], [635, 636], [], [], [], [], [], [], [], [807, 809, 47], [], [], [], [], [], [], [], [], [], [], [], [], [], [], [792, 794, 45], [], [], []]
def ah_X5_sum : List (List Nat) := [[], [788, 789], [], [], [], [], [], [635, 636], [], [], [], [], [], [], [651], [], [], [], [], [652], [], [], []]
def ah_X5_term : List (List Nat) := [[], [788, 789], [], [], [], [], [], [], [821], [635, 636], [], [830], [], [], [], [], [], [], [], [], [], [652], [], [], [], [831], [], [], [], [], [653], [], [], [], [], [], [], [], [], [654], [], [], [], [], [], [655], [], [], []]
def ah_X5_same : List (List Nat) := [[], [788, 789], [], [], [788, 789], [], [], [], [], [651], [], [], [], [651], [], [], [], [], [652], [], [], [], [652], [], [], [], [], [], [], [], [], [], [], [], [652], [], [], [], [], [], [], [653], [], [], [], [], [], [], [], [653], [], [], [], [], [], [], [], [], [654], [], [], [], [], [], [], [], [654], [], [], [], [], [], [], [], [], [655], [], [], [], [], [], [], [], [655], [], [], [], [], [], [], [], [], [], [], [], [], [], [], [], [], [], [], [], []]
def ah_X5_closed : List (List Nat) := [[], [788, 789], [], [], [], [], [840], [635, 636], [], [], [], [], [], [], [], [], [], [652], [], [], [], [], [654], [], [], [], [], [], [], [], [], [651], [], [], [], [653], [], [], [], [], [], [], [763, 765, 44], [], [], [], [], [], [], [], [655], [], [], [], [], [], [], [], [], [], [], [], [], [], []]
def ah_X5_isHalf : List (List Nat) := [[], [], [], [], [], [], [], [], [], [], [], [], [], [], [], [], [], [], [], [], [], [], [], [], [], [], [], [], [], [], [], [], [], [], [], [], [], [], [], [], [], [], [], [], [], [], [], [], [], [], [], [], [], [], [], [], [], [], [], [], [], [], [], [], [], [], [], [], [], [], [], [], [], [], [], [], [], [], [], [], [], []]
def ah_X5_lay : List (List Nat) := [[], [], [], [], [], [], [], [], [], [], [], [], [], [], [], [], [], [], [], [], [], [], [], [], [], [], [], [], [], [], [], [], [], [], [], [], [], [], [], [], [], [], [], [], [], [], [], [], [], [852, 853], [], [], [], [], [], [], [], [], [], [], []]
def ah_X5_areHalves : List (List Nat) := [[], [733, 734], [], [], [], [], [], [], [635, 636], [], [], [], [], []]
def ah_X5_halves : List (List Nat) := [[], [], [845, 846], [], [], [], [], [], [], [668], [848, 850, 49], [], [], []]
def ah_X5_half : List (List Nat) := [[], [], [845, 846], [], [], [], [], [], [], [], [], [], [], [635, 636], [], [], [], [], [], [], [], [], [], [668], [848, 850, 49], [], [], [], [], [], [], [], [], [668], [848, 850, 49], [], [], [668], [], [], []]
def ah_X5_formOf : List (List Nat) := [[], [], [], [], [], [], [661], [], [], [], [], [], [], [], [], [], [], [], [668], [], [], [], [], [], [], [], [], [], [], [], [], [], [661], [], [], [], [], [], [], [669], [], [], [], [], [668], [], [], [], [], [], [], [], [], [], [], [], [], [], [], [], [], [], [], [], [], [], [], [661], [], [], [], [], [], [], [], [], [], [], [], [], [], [], [], [661], [], [], [], [], [669], [], [], [], [], [], [], [], [], [], [], [], [], [], [], [], [], [661], [], [], [], [], [], [], [], [], [], [], [], [661], [], [], [], [], [668], [], [], [], [], [661], [], [], [], [], [669], [], [], [], [], [], [], [], [], [], [], [], [], [], [], []]
def ah_X5_form : List (List Nat) := [[], [], [845, 846], [], [], [], [], [], [], [], [], [668], [848, 850, 49], [], [], [], [], [], [], [], [], [635, 636], [], [], [], [], [], [], [], [], [635, 636], [], [], [], [], [], [], [], [], [668], [848, 850, 49], [], [], [], [], [], [], [669], [848, 850, 49], [], [], [], [863, 865, 50], []]
def ah_X5_isPrime : List (List Nat) := [[], [], [], [], [], [], [], [], [], [], [], [], [], [], [], [], [], [], [], [], [], [], [], [], [], [], [], []]
def ah_X5_inverse : List (List Nat) := [[], [], [], [], [], [], [], [], [], [], [], [], []]
def ah_X5_free : List (List Nat) := [[], [], [845, 846], [], [], [], [871], [872], [635, 636], [], [], [], [821], [873], [635, 636], [], [], [874, 875], [], [], [], [], [], [], [], [], [668], [848, 850, 49], [], [], [], [], [], [], [], [], [], [], [], [], [], [], [], [], [], [], [], [], [], [], [], [], [877, 860, 861], [], [], [], [], [], [], [], [], [], [], [], [], [], [], [], [], [], [], [], [], [], [], [], [], [670], [], [], [], [], [], [], [], [], [], [], [], [], [], [], [], [], [], [], [], [], [], [], [], [], [670], [], [], [], [], [], [], [], [], [], [], [], [], [], [], [], [], [], [], [878, 880, 51], [], [], [], [], []]
def ah_X5_reduce : List (List Nat) := [[], [], [], [], [], [], [670], [], [], [], [], [], [], [], [], [670], [], [], [], [], [], [], [670], [], [], [], [], [], [], [], [], [670], [], [], [], [], [], [], [], [], [], [], [670], [], [], [], [], [], [], [], [882, 883], [], [], [], [], [], [], [], [], [], [670], [], [], [], [], [], [], [], [], [], [], [], [], [], [], [], [], [], [670], [], [], [], [], [], [], [670], [], [], [], [], [], [], [], [], [], [], [670], [], [], [], [], [], [], [], [], [], [], [], [], [], [], [], []]
def ah_X5_row : List (List Nat) := [[], [], [821], [736], [635, 636], [], [], [], [], [], [656], [], [], [657], [], []]
def ah_X5_cross : List (List Nat) := [[], [], [], [], [], [], [], [], [], [], [], [656], [], [], [], [635, 636], [], [], [], [], [657], [], [], [], [], [], [658], [], [657], [], [], [], [], [657], [], [], [657], [], [657], []]
def ah_X5_back : List (List Nat) := [[], [657], [], [], [], [], [], [657], [], [], [657], [], [657], []]
def ah_X5_addState : List (List Nat) := [[], [656], [], [], [], [], [624, 626, 37], [], [], [], [], [], [], [], [], [], [657], [], [], [], [], [], [], [], [], [], [], [], [], [], [658], [], [], [], [], [658], [], [], [], [], [], [658], [], [], [], [], [], [], [658], [], [], [], [], [], [], [], [], [], [], [], [], [], [], [], [], [], [624, 626, 37], [], [], [], [], [], [639, 641, 39], [], [], [], [662], [], [], [], [], [], [], [], [], [763, 765, 44], [], [], [], [], [], [], [], [], [672], [], [], [], [], [], [], [], [], [], [], [], [], [], [], [], [], [], [], [], [], [], [], [], [], [], [], [672], [], [], [], [], [], [], [], [], [], [], [], [], [], [672], [], [], [], [], [], [], [], [], [673], [], [], [], [], [], [], [], [], [], [], [], [], [], [], [672], [], [], [673], [], [], [], [], [], [], [], [], [], [], [], [], [], [671], [], [], [], [], [672], [], [], [], [], [], [], []]
def ah_X5_power : List (List Nat) := [[], [], [901], [902], [635, 636], [], [903], [], [], [], [], [], [], [], [671], [], [], [], [], [], [], [], [], [], [], [657], [], [], [], [], [904, 906, 52], [], [], [], [671], [], [], [], [], []]
def ah_J9_floorMod_7cf53 : List (List Nat) := [[], [], [], [], [], [], [], [], [], [], [], [], [], [], [], []]
def ah_J9_abs_0f7a4 : List (List Nat) := [[], [], [], [], [], [], []]
def ah_J9_abs_067f4 : List (List Nat) := [[], [], [], [], [], [], [], [], []]
def ah_J9_min_7cf53 : List (List Nat) := [[], [], [], [], [], [], []]
def ax_H : List (List (List Nat)) := [ah_X0_init, ah_X0_countPairings, ah_X0_listPairings, ah_X0_pairBy, ah_X0_freeBehind, ah_X0_countUp, ah_X0_numberOf, ah_X0_countPlane, ah_X0_isPlane, ah_X0_isBetween, ah_X0_placeRound, ah_X0_countThrough, ah_X0_upsideDown, ah_X0_across, ah_X0_closeRings, ah_X0_forgetSeen, ah_X0_stackLetters, ah_X0_letterAt, ah_X0_isLetter, ah_X0_ofLetter, ah_X0_pair, ah_X0_ofPairs, ah_X0_join, ah_X0_follow, ah_X0_countInnerRings, ah_X0_spellAll, ah_X0_spellBehind, ah_X0_letterOf, ah_X0_stackOn, ah_X1_init, ah_X1_begin, ah_X1_allows, ah_X1_append, ah_X1_dropLast, ah_X1_wholeAt, ah_X1_addStates, ah_X1_addState, ah_X2_init, ah_X2_nextDraft, ah_X2_keepDraft, ah_X2_isHalf, ah_X2_keepsWithin, ah_X2_countLeaving, ah_X2_find, ah_X2_lay, ah_X2_leadsOut, ah_X2_goRound, ah_X2_rank, ah_X2_fillTable, ah_X2_fillRow, ah_X2_raise, ah_X2_swapRows, ah_X2_clearBelow, ah_X3_init, ah_X3_begin, ah_X3_take, ah_X3_isLike, ah_X3_isAt, ah_X3_isFactor, ah_X3_join, ah_X3_change, ah_X3_insert, ah_X3_moveTail, ah_X3_joinAll, ah_X3_joinProducts, ah_X3_fitsProduct, ah_X4_init, ah_X4_many, ah_X4_partner, ah_X4_about, ah_X4_stack, ah_X4_box, ah_X4_plain, ah_X4_word, ah_X4_clear, ah_X4_add, ah_X4_work, ah_X4_sum, ah_X4_term, ah_X4_same, ah_X4_closed, ah_X4_halves, ah_X4_half, ah_X4_form, ah_X4_free, ah_X4_row, ah_X4_cross, ah_X4_back, ah_X4_power, ah_X4_isStrands, ah_X4_isSum, ah_X4_isThrough, ah_X4_isBox, ah_X4_isPrime, ah_X4_make, ah_X5_init, ah_X5_in, ah_X5_isWide, ah_X5_boxes, ah_X5_first, ah_X5_isBox, ah_X5_at, ah_X5_decode, ah_X5_numberOf, ah_X5_lead, ah_X5_stacked, ah_X5_ringsClosed, ah_X5_isLetter, ah_X5_plainBox, ah_X5_findWords, ah_X5_isPlane, ah_X5_round, ah_X5_many, ah_X5_partner, ah_X5_through, ah_X5_upsideDown, ah_X5_about, ah_X5_stack, ah_X5_box, ah_X5_plain, ah_X5_word, ah_X5_isSum, ah_X5_load, ah_X5_store, ah_X5_move, ah_X5_comes, ah_X5_clear, ah_X5_add, ah_X5_work, ah_X5_sum, ah_X5_term, ah_X5_same, ah_X5_closed, ah_X5_isHalf, ah_X5_lay, ah_X5_areHalves, ah_X5_halves, ah_X5_half, ah_X5_formOf, ah_X5_form, ah_X5_isPrime, ah_X5_inverse, ah_X5_free, ah_X5_reduce, ah_X5_row, ah_X5_cross, ah_X5_back, ah_X5_addState, ah_X5_power, ah_J9_floorMod_7cf53, ah_J9_abs_0f7a4, ah_J9_abs_067f4, ah_J9_min_7cf53]
def am_Tb : List Cond := lw_tbl.filter goodWord
def ck_w (hs : List Nat) (i : Nat) (w : Cond) : Bool := (match hs[i]? with
  | some k => decide (lw_tbl[k]? = some w)
  | none => false) && goodWord w
theorem ck_w_ok {hs : List Nat} {i : Nat} {w : Cond} (h : ck_w hs i w = true) : w ∈ am_Tb := by
  unfold ck_w at h
  rw [Bool.and_eq_true] at h
  obtain ⟨h1, h2⟩ := h
  split at h1
  · rename_i k hk
    exact List.mem_filter.mpr ⟨List.mem_of_getElem? (of_decide_eq_true h1), h2⟩
  · cases h1
theorem am_Tb_good : ∀ w ∈ am_Tb, (w.onTables && w.keeps) = true ∨ ∃ ty, w = .arrayClass ty := fun w hw => good_of_word (List.mem_filter.mp hw).2
def am_tyf (x : Nat) : Nat → FieldType := [tyX0, tyX1, tyX2, tyX3, tyX4].getD x tyX5
def ck_32 (n : Int) : Bool := decide (-2147483648 ≤ n) && decide (n < 2147483648)
theorem ck_32_ok {n : Int} (h : ck_32 n = true) : am_r32 n := by
  unfold ck_32 at h
  simp only [Bool.and_eq_true, decide_eq_true_eq] at h
  exact h
def ck_64 (n : Int) : Bool := decide (-9223372036854775808 ≤ n) && decide (n < 9223372036854775808)
theorem ck_64_ok {n : Int} (h : ck_64 n = true) : am_r64 n := by
  unfold ck_64 at h
  simp only [Bool.and_eq_true, decide_eq_true_eq] at h
  exact h
def ck_cls (x : Nat) (f : String → u_T → Nat → Bool) : Bool := match vwCl[x]? with
  | some (C, T, N) => f C T N
  | none => false
theorem ck_cls_ok {x : Nat} {f : String → u_T → Nat → Bool} (h : ck_cls x f = true) : ∃ C T N, vwCl[x]? = some (C, T, N) ∧ f C T N = true := by
  unfold ck_cls at h
  split at h
  · rename_i C T N e
    exact ⟨C, T, N, e, h⟩
  · cases h
def ck_rk (own : String) (ini : Bool) (fr lo : Nat) (pc : Nat) (row : am_I) (hs : List Nat) : Bool := match row with
  | (.iconst n, len, _, _) => len == 1 && ck_32 n
  | (.bipush n, len, _, _) => len == 2 && (ck_32 n && decide ((Int8.ofInt n).toInt32 = Int32.ofInt n))
  | (.sipush n, len, _, _) => len == 3 && (ck_32 n && decide ((Int16.ofInt n).toInt32 = Int32.ofInt n))
  | (.lconst _, len, _, _) => len == 1
  | (.ldc i, len, x, y) => len == 2 && (ck_32 (am_cst x y) && ck_w hs 0 (.constant own i (Int32.ofInt (am_cst x y))))
  | (.ldc2_w i, len, x, y) => len == 3 && (ck_64 (am_cst x y) && ck_w hs 0 (.constantLong own i (Int64.ofInt (am_cst x y))))
  | (.iload_n _, len, _, _) => len == 1
  | (.iload _, len, _, _) => len == 2
  | (.lload_n _, len, _, _) => len == 1
  | (.lload _, len, _, _) => len == 2
  | (.aload_n _, len, _, _) => len == 1
  | (.aload _, len, _, _) => len == 2
  | (.istore_n _, len, _, _) => len == 1
  | (.istore _, len, _, _) => len == 2
  | (.lstore_n _, len, _, _) => len == 1
  | (.lstore _, len, _, _) => len == 2
  | (.astore_n _, len, _, _) => len == 1
  | (.astore _, len, _, _) => len == 2
  | (.iinc _ _, len, _, _) => len == 3
  | (.ifCond _ off, len, x, _) => len == 3 && decide ((pc : Int) + off = (x : Int))
  | (.if_icmp _ off, len, x, _) => len == 3 && decide ((pc : Int) + off = (x : Int))
  | (.goto off, len, x, _) => len == 3 && decide ((pc : Int) + off = (x : Int))
  | (.tableswitch d _ _ offs, _, _, _) => decide (0 ≤ (pc : Int) + d) && offs.toList.all (fun o => decide (0 ≤ (pc : Int) + o))
  | (.getfield i, len, x, y) => len == 3 && ck_cls x (fun _ T N => decide (y < N) && ck_w hs 0 (.fieldLink own i (T y).1 (T y).2.1 (T y).2.2.1))
  | (.putfield i, len, x, y) => len == 3 && ck_cls x (fun _ T N => decide (y < N) && (ck_w hs 0 (.fieldLink own i (T y).1 (T y).2.1 (T y).2.2.1) && (am_tk (ac_ft x y) (am_tyf x y) && (!(T y).2.2.2 || ((T y).2.2.2 && (ini && decide ((T y).1 = own)))))))
  | (.new i, len, x, y) => len == 3 && ck_cls x (fun C _ N => N == y && (ck_w hs 0 (.classLink own i C) && (ck_w hs 1 (.instantiable C y) && ck_w hs 2 (.initialized C))))
  | (.newarray at9, len, x, _) => len == 2 && (decide (newarray.typeOf at9 = am_ty x) && ck_w hs 0 (.arrayClass (newarray.typeOf at9)))
  | (.anewarray i, len, x, _) => len == 3 && (match am_ty x with
    | .object C => ck_w hs 0 (.classLink own i C)
    | _ => false)
  | (.multianewarray i d, len, _, _) => len == 4 && (d == 2 && (ck_w hs 0 (.classLink own i ("[" ++ (FieldType.array .int).toString)) && ck_w hs 1 (.arrayClass .int)))
  | (.invokevirtual _, len, x, _) => len == 3 && (x != 900 && x != 901)
  | (.invokestatic i, len, x, _) => len == 3 && (x != 900 && (x != 901 || (ck_w hs 0 (.methodLink own i arraycopyName) && (ck_w hs 1 (.native arraycopyName) && (ck_w hs 2 (.static arraycopyName) && (ck_w hs 3 (.initialized "java/lang/System") && (decide (1 ≤ fr) && decide (nativeFrameWords "java/lang/System" "arraycopy" 5 + 11 ≤ lo))))))))
  | (.invokespecial i, len, x, _) => len == 3 && (x != 901 && (x != 900 || (ck_w hs 0 (.methodLink own i Lib.objectInit) && (ck_w hs 1 (.instanceMethod Lib.objectInit) && (ck_w hs 2 (.code Lib.objectInit ⟨#[0xb1]⟩ 1 none) && (decide (1 ≤ fr) && decide (12 ≤ lo)))))))
  | (.iadd, len, _, _) => len == 1
  | (.isub, len, _, _) => len == 1
  | (.imul, len, _, _) => len == 1
  | (.idiv, len, _, _) => len == 1
  | (.irem, len, _, _) => len == 1
  | (.ineg, len, _, _) => len == 1
  | (.iand, len, _, _) => len == 1
  | (.ixor, len, _, _) => len == 1
  | (.ishl, len, _, _) => len == 1
  | (.ishr, len, _, _) => len == 1
  | (.ladd, len, _, _) => len == 1
  | (.lmul, len, _, _) => len == 1
  | (.ldiv, len, _, _) => len == 1
  | (.lneg, len, _, _) => len == 1
  | (.land, len, _, _) => len == 1
  | (.lor, len, _, _) => len == 1
  | (.lshl, len, _, _) => len == 1
  | (.lshr, len, _, _) => len == 1
  | (.lushr, len, _, _) => len == 1
  | (.lcmp, len, _, _) => len == 1
  | (.i2l, len, _, _) => len == 1
  | (.l2i, len, _, _) => len == 1
  | (.iaload, len, _, _) => len == 1
  | (.baload, len, _, _) => len == 1
  | (.laload, len, _, _) => len == 1
  | (.aaload, len, _, _) => len == 1
  | (.iastore, len, _, _) => len == 1
  | (.bastore, len, _, _) => len == 1
  | (.lastore, len, _, _) => len == 1
  | (.aastore, len, _, _) => len == 1
  | (.arraylength, len, _, _) => len == 1
  | (.dup, len, _, _) => len == 1
  | (.dup2, len, _, _) => len == 1
  | (.pop, len, _, _) => len == 1
  | (.pop2, len, _, _) => len == 1
  | (.ireturn, len, _, _) => len == 1
  | (.lreturn, len, _, _) => len == 1
  | (.return_, len, _, _) => len == 1
  | _ => false
/-- what is said of each class once -/
def am_cl6 : Prop := ∀ (x : Nat) (C : String) (T : u_T) (N : Nat), vwCl[x]? = some (C, T, N) → (∀ w ∈ u_ws C T N, w ∈ am_Tb) ∧ (∀ k, k < N → parseFieldDescriptor (T k).2.2.1 = some (am_tyf x k)) ∧ (∀ a, a < N → ∀ b, b < N → a ≠ b → (T a).2.1 ≠ (T b).2.1) ∧ (∀ k, k < N → am_tk (ac_ft x k) (am_tyf x k) = true)
set_option maxHeartbeats 4000000 in
theorem ck_rk_ok (hcl : am_cl6) {own : String} {ini : Bool} {fr lo pc : Nat} {row : am_I} {hs : List Nat} (hc : ck_rk own ini fr lo pc row hs = true) : ∀ mc ms : Nat, am_rk ac_ft own (ini = true) am_Tb { frames := fr, cells := mc, slots := ms, locals := lo } pc row := by
  obtain ⟨ins, len, x, y⟩ := row
  cases ins
  case iconst n =>
    have hc := (Bool.and_eq_true _ _ ▸ hc : (len == 1) = true ∧ ck_32 n = true)
    exact fun mc ms => ⟨eq_of_beq hc.1, ck_32_ok hc.2⟩
  case bipush n =>
    have hc : (len == 2 && (ck_32 n && decide ((Int8.ofInt n).toInt32 = Int32.ofInt n))) = true := hc
    simp only [Bool.and_eq_true, decide_eq_true_eq] at hc
    exact fun mc ms => ⟨eq_of_beq hc.1, ck_32_ok hc.2.1, hc.2.2⟩
  case sipush n =>
    have hc : (len == 3 && (ck_32 n && decide ((Int16.ofInt n).toInt32 = Int32.ofInt n))) = true := hc
    simp only [Bool.and_eq_true, decide_eq_true_eq] at hc
    exact fun mc ms => ⟨eq_of_beq hc.1, ck_32_ok hc.2.1, hc.2.2⟩
  case ldc i =>
    have hc : (len == 2 && (ck_32 (am_cst x y) && ck_w hs 0 (.constant own i (Int32.ofInt (am_cst x y))))) = true := hc
    simp only [Bool.and_eq_true] at hc
    exact fun mc ms => ⟨eq_of_beq hc.1, ck_32_ok hc.2.1, ck_w_ok hc.2.2⟩
  case ldc2_w i =>
    have hc : (len == 3 && (ck_64 (am_cst x y) && ck_w hs 0 (.constantLong own i (Int64.ofInt (am_cst x y))))) = true := hc
    simp only [Bool.and_eq_true] at hc
    exact fun mc ms => ⟨eq_of_beq hc.1, ck_64_ok hc.2.1, ck_w_ok hc.2.2⟩
  case lconst _ =>
    exact fun mc ms => eq_of_beq hc
  case iload_n _ =>
    exact fun mc ms => eq_of_beq hc
  case iload _ =>
    exact fun mc ms => eq_of_beq hc
  case lload_n _ =>
    exact fun mc ms => eq_of_beq hc
  case lload _ =>
    exact fun mc ms => eq_of_beq hc
  case aload_n _ =>
    exact fun mc ms => eq_of_beq hc
  case aload _ =>
    exact fun mc ms => eq_of_beq hc
  case istore_n _ =>
    exact fun mc ms => eq_of_beq hc
  case istore _ =>
    exact fun mc ms => eq_of_beq hc
  case lstore_n _ =>
    exact fun mc ms => eq_of_beq hc
  case lstore _ =>
    exact fun mc ms => eq_of_beq hc
  case astore_n _ =>
    exact fun mc ms => eq_of_beq hc
  case astore _ =>
    exact fun mc ms => eq_of_beq hc
  case iinc _ _ =>
    exact fun mc ms => eq_of_beq hc
  case ifCond c off =>
    have hc : (len == 3 && decide ((pc : Int) + off = (x : Int))) = true := hc
    simp only [Bool.and_eq_true, decide_eq_true_eq] at hc
    exact fun mc ms => ⟨eq_of_beq hc.1, hc.2⟩
  case if_icmp c off =>
    have hc : (len == 3 && decide ((pc : Int) + off = (x : Int))) = true := hc
    simp only [Bool.and_eq_true, decide_eq_true_eq] at hc
    exact fun mc ms => ⟨eq_of_beq hc.1, hc.2⟩
  case goto off =>
    have hc : (len == 3 && decide ((pc : Int) + off = (x : Int))) = true := hc
    simp only [Bool.and_eq_true, decide_eq_true_eq] at hc
    exact fun mc ms => ⟨eq_of_beq hc.1, hc.2⟩
  case tableswitch d lo9 hi9 offs =>
    have hc : (decide (0 ≤ (pc : Int) + d) && offs.toList.all (fun o => decide (0 ≤ (pc : Int) + o))) = true := hc
    simp only [Bool.and_eq_true, decide_eq_true_eq, List.all_eq_true] at hc
    exact fun mc ms => ⟨hc.1, hc.2⟩
  case getfield i =>
    have hc : (len == 3 && ck_cls x (fun _ T N => decide (y < N) && ck_w hs 0 (.fieldLink own i (T y).1 (T y).2.1 (T y).2.2.1))) = true := hc
    rw [Bool.and_eq_true] at hc
    obtain ⟨C, T, N, e, hf⟩ := ck_cls_ok hc.2
    simp only [Bool.and_eq_true, decide_eq_true_eq] at hf
    exact fun mc ms => ⟨eq_of_beq hc.1, C, T, N, e, hf.1, ck_w_ok hf.2, (hcl x C T N e).1⟩
  case putfield i =>
    have hc : (len == 3 && ck_cls x (fun _ T N => decide (y < N) && (ck_w hs 0 (.fieldLink own i (T y).1 (T y).2.1 (T y).2.2.1) && (am_tk (ac_ft x y) (am_tyf x y) && (!(T y).2.2.2 || ((T y).2.2.2 && (ini && decide ((T y).1 = own)))))))) = true := hc
    rw [Bool.and_eq_true] at hc
    obtain ⟨C, T, N, e, hf⟩ := ck_cls_ok hc.2
    simp only [Bool.and_eq_true, Bool.or_eq_true, Bool.not_eq_true', decide_eq_true_eq] at hf
    obtain ⟨q1, q2, q3, -⟩ := hcl x C T N e
    exact fun mc ms => ⟨eq_of_beq hc.1, C, T, N, am_tyf x, e, hf.1, ck_w_ok hf.2.1, q1, q2, q3, hf.2.2.1, hf.2.2.2⟩
  case new i =>
    have hc : (len == 3 && ck_cls x (fun C _ N => N == y && (ck_w hs 0 (.classLink own i C) && (ck_w hs 1 (.instantiable C y) && ck_w hs 2 (.initialized C))))) = true := hc
    rw [Bool.and_eq_true] at hc
    obtain ⟨C, T, N, e, hf⟩ := ck_cls_ok hc.2
    simp only [Bool.and_eq_true] at hf
    have hN : N = y := eq_of_beq hf.1
    subst hN
    obtain ⟨q1, q2, q3, q4⟩ := hcl x C T N e
    exact fun mc ms => ⟨eq_of_beq hc.1, C, T, am_tyf x, e, q1, q2, q4, ck_w_ok hf.2.1, ck_w_ok hf.2.2.1, ck_w_ok hf.2.2.2⟩
  case newarray at9 =>
    have hc : (len == 2 && (decide (newarray.typeOf at9 = am_ty x) && ck_w hs 0 (.arrayClass (newarray.typeOf at9)))) = true := hc
    simp only [Bool.and_eq_true, decide_eq_true_eq] at hc
    exact fun mc ms => ⟨eq_of_beq hc.1, hc.2.1, ck_w_ok hc.2.2⟩
  case anewarray i =>
    have hc : (len == 3 && (match am_ty x with
      | .object C => ck_w hs 0 (.classLink own i C)
      | _ => false)) = true := hc
    rw [Bool.and_eq_true] at hc
    obtain ⟨h1, h2⟩ := hc
    split at h2
    · rename_i C e
      exact fun mc ms => ⟨eq_of_beq h1, C, e, ck_w_ok h2⟩
    · cases h2
  case multianewarray i d =>
    have hc : (len == 4 && (d == 2 && (ck_w hs 0 (.classLink own i ("[" ++ (FieldType.array .int).toString)) && ck_w hs 1 (.arrayClass .int)))) = true := hc
    simp only [Bool.and_eq_true] at hc
    exact fun mc ms => ⟨eq_of_beq hc.1, eq_of_beq hc.2.1, ck_w_ok hc.2.2.1, ck_w_ok hc.2.2.2⟩
  case invokevirtual i =>
    have hc : (len == 3 && (x != 900 && x != 901)) = true := hc
    simp only [Bool.and_eq_true, bne_iff_ne] at hc
    exact fun mc ms => ⟨eq_of_beq hc.1, hc.2.1, hc.2.2⟩
  case invokestatic i =>
    have hc : (len == 3 && (x != 900 && (x != 901 || (ck_w hs 0 (.methodLink own i arraycopyName) && (ck_w hs 1 (.native arraycopyName) && (ck_w hs 2 (.static arraycopyName) && (ck_w hs 3 (.initialized "java/lang/System") && (decide (1 ≤ fr) && decide (nativeFrameWords "java/lang/System" "arraycopy" 5 + 11 ≤ lo))))))))) = true := hc
    simp only [Bool.and_eq_true, Bool.or_eq_true, bne_iff_ne, decide_eq_true_eq] at hc
    exact fun mc ms => ⟨eq_of_beq hc.1, hc.2.1, fun q => hc.2.2.elim (fun z => absurd q z) (fun z => ⟨ck_w_ok z.1, ck_w_ok z.2.1, ck_w_ok z.2.2.1, ck_w_ok z.2.2.2.1, z.2.2.2.2.1, z.2.2.2.2.2⟩)⟩
  case invokespecial i =>
    have hc : (len == 3 && (x != 901 && (x != 900 || (ck_w hs 0 (.methodLink own i Lib.objectInit) && (ck_w hs 1 (.instanceMethod Lib.objectInit) && (ck_w hs 2 (.code Lib.objectInit ⟨#[0xb1]⟩ 1 none) && (decide (1 ≤ fr) && decide (12 ≤ lo)))))))) = true := hc
    simp only [Bool.and_eq_true, Bool.or_eq_true, bne_iff_ne, decide_eq_true_eq] at hc
    exact fun mc ms => ⟨eq_of_beq hc.1, hc.2.1, fun q => hc.2.2.elim (fun z => absurd q z) (fun z => ⟨ck_w_ok z.1, ck_w_ok z.2.1, ck_w_ok z.2.2.1, z.2.2.2.1, z.2.2.2.2⟩)⟩
  case iadd =>
    exact fun mc ms => eq_of_beq hc
  case isub =>
    exact fun mc ms => eq_of_beq hc
  case imul =>
    exact fun mc ms => eq_of_beq hc
  case idiv =>
    exact fun mc ms => eq_of_beq hc
  case irem =>
    exact fun mc ms => eq_of_beq hc
  case ineg =>
    exact fun mc ms => eq_of_beq hc
  case iand =>
    exact fun mc ms => eq_of_beq hc
  case ixor =>
    exact fun mc ms => eq_of_beq hc
  case ishl =>
    exact fun mc ms => eq_of_beq hc
  case ishr =>
    exact fun mc ms => eq_of_beq hc
  case ladd =>
    exact fun mc ms => eq_of_beq hc
  case lmul =>
    exact fun mc ms => eq_of_beq hc
  case ldiv =>
    exact fun mc ms => eq_of_beq hc
  case lneg =>
    exact fun mc ms => eq_of_beq hc
  case land =>
    exact fun mc ms => eq_of_beq hc
  case lor =>
    exact fun mc ms => eq_of_beq hc
  case lshl =>
    exact fun mc ms => eq_of_beq hc
  case lshr =>
    exact fun mc ms => eq_of_beq hc
  case lushr =>
    exact fun mc ms => eq_of_beq hc
  case lcmp =>
    exact fun mc ms => eq_of_beq hc
  case i2l =>
    exact fun mc ms => eq_of_beq hc
  case l2i =>
    exact fun mc ms => eq_of_beq hc
  case iaload =>
    exact fun mc ms => eq_of_beq hc
  case baload =>
    exact fun mc ms => eq_of_beq hc
  case laload =>
    exact fun mc ms => eq_of_beq hc
  case aaload =>
    exact fun mc ms => eq_of_beq hc
  case iastore =>
    exact fun mc ms => eq_of_beq hc
  case bastore =>
    exact fun mc ms => eq_of_beq hc
  case lastore =>
    exact fun mc ms => eq_of_beq hc
  case aastore =>
    exact fun mc ms => eq_of_beq hc
  case arraylength =>
    exact fun mc ms => eq_of_beq hc
  case dup =>
    exact fun mc ms => eq_of_beq hc
  case dup2 =>
    exact fun mc ms => eq_of_beq hc
  case pop =>
    exact fun mc ms => eq_of_beq hc
  case pop2 =>
    exact fun mc ms => eq_of_beq hc
  case ireturn =>
    exact fun mc ms => eq_of_beq hc
  case lreturn =>
    exact fun mc ms => eq_of_beq hc
  case return_ =>
    exact fun mc ms => eq_of_beq hc
  all_goals cases hc
