def ck_cb (fr lo mL : Nat) (N : am_N) (n : Nat) : Bool := decide ((parseMethodDescriptor N.1.desc).map (fun d => d.parameters.length) = some n) && (decide (N.2.2.2.1 + 1 ≤ fr) && decide (8 + (mL + 11) + N.2.2.2.2 ≤ lo))
def ck_ck (own : String) (fr lo : Nat) (row : am_I) (hs : List Nat) : Bool := match row with
  | (.invokevirtual i, _, x, y) => (match ac_L[x % 1000]?, ax_N[x % 1000]? with
    | some M, some N => decide (1 ≤ y) && (ck_cb fr lo M.2 N (y - 1) && (decide (1000 ≤ x) && (ck_cls (x / 1000 - 1) (fun C _ _ => decide (C = N.1.cls)) && (ck_w hs 0 (.methodLink own i N.1) && (ck_w hs 1 (.instanceMethod N.1) && ck_w hs 2 (.selects N.1.cls N.1 N.1))))))
    | _, _ => false)
  | (.invokestatic i, _, x, y) => x == 901 || (match ac_L[x % 1000]?, ax_N[x % 1000]? with
    | some M, some N => ck_cb fr lo M.2 N y && (ck_w hs 0 (.methodLink own i N.1) && ck_w hs 1 (.static N.1))
    | _, _ => false)
  | (.invokespecial i, _, x, y) => x == 900 || (match ac_L[x % 1000]?, ax_N[x % 1000]? with
    | some M, some N => decide (1 ≤ y) && (ck_cb fr lo M.2 N (y - 1) && (decide (1000 ≤ x) && (decide (N.2.2.1 = none) && (decide (N.1.name = "<init>") && (ck_w hs 0 (.instanceMethod N.1) && (ck_w hs 1 (.methodLink own i N.1) || (decide (own = "StrandBoxes") && ((i == 27 && decide (N.1 = yX3_init)) || (i == 34 && decide (N.1 = yX1_init))))))))))
    | _, _ => false)
  | _ => true
/-- what is said of each method once -/
def am_m153 : Prop := ∀ (j : Nat) (C : am_C) (mL : Nat) (N : am_N), ac_L[j]? = some (C, mL) → ax_N[j]? = some N → Cond.code N.1 N.2.1 mL N.2.2.1 ∈ am_Tb ∧ Cond.initialized N.1.cls ∈ am_Tb ∧ N.1.cls ≠ "java/lang/invoke/MethodHandle" ∧ N.1.cls ≠ "java/lang/invoke/VarHandle" ∧ plainFor N.1 = true
theorem ck_cb_ok (hm : am_m153) {fr lo mL n j : Nat} {C : am_C} {N : am_N} (h1 : ac_L[j]? = some (C, mL)) (h2 : ax_N[j]? = some N) (h : ck_cb fr lo mL N n = true) : am_cb am_Tb fr lo mL N n := by
  unfold ck_cb at h
  simp only [Bool.and_eq_true, decide_eq_true_eq] at h
  obtain ⟨q1, q2, q3, q4, -⟩ := hm j C mL N h1 h2
  exact ⟨q1, q2, ⟨q3, q4, h.1⟩, h.2.1, h.2.2⟩
theorem ck_ck_ok (hm : am_m153) {own : String} {fr lo : Nat} {row : am_I} {hs : List Nat} (hc : ck_ck own fr lo row hs = true) : am_ck ac_P ax_N am_Tb own fr lo row := by
  obtain ⟨ins, len, x, y⟩ := row
  cases ins
  case invokevirtual i =>
    have hc : (match ac_L[x % 1000]?, ax_N[x % 1000]? with
      | some M, some N => decide (1 ≤ y) && (ck_cb fr lo M.2 N (y - 1) && (decide (1000 ≤ x) && (ck_cls (x / 1000 - 1) (fun C _ _ => decide (C = N.1.cls)) && (ck_w hs 0 (.methodLink own i N.1) && (ck_w hs 1 (.instanceMethod N.1) && ck_w hs 2 (.selects N.1.cls N.1 N.1))))))
      | _, _ => false) = true := hc
    split at hc
    · rename_i M N e1 e2
      obtain ⟨C, mL⟩ := M
      simp only [Bool.and_eq_true, decide_eq_true_eq] at hc
      obtain ⟨C9, T9, N9, e9, f9⟩ := ck_cls_ok hc.2.2.2.1
      have f9 : C9 = N.1.cls := of_decide_eq_true f9
      subst f9
      exact ⟨C, mL, N, y - 1, e1, e2, ck_cb_ok hm e1 e2 hc.2.1, by omega, hc.2.2.1, ⟨T9, N9, e9⟩, ck_w_ok hc.2.2.2.2.1, ck_w_ok hc.2.2.2.2.2.1, ck_w_ok hc.2.2.2.2.2.2⟩
    · cases hc
  case invokestatic i =>
    have hc : (x == 901 || (match ac_L[x % 1000]?, ax_N[x % 1000]? with
      | some M, some N => ck_cb fr lo M.2 N y && (ck_w hs 0 (.methodLink own i N.1) && ck_w hs 1 (.static N.1))
      | _, _ => false)) = true := hc
    rw [Bool.or_eq_true] at hc
    rcases hc with hc | hc
    · exact Or.inl (eq_of_beq hc)
    · split at hc
      · rename_i M N e1 e2
        obtain ⟨C, mL⟩ := M
        simp only [Bool.and_eq_true] at hc
        exact Or.inr ⟨C, mL, N, y, e1, e2, ck_cb_ok hm e1 e2 hc.1, rfl, ck_w_ok hc.2.1, ck_w_ok hc.2.2⟩
      · cases hc
  case invokespecial i =>
    have hc : (x == 900 || (match ac_L[x % 1000]?, ax_N[x % 1000]? with
      | some M, some N => decide (1 ≤ y) && (ck_cb fr lo M.2 N (y - 1) && (decide (1000 ≤ x) && (decide (N.2.2.1 = none) && (decide (N.1.name = "<init>") && (ck_w hs 0 (.instanceMethod N.1) && (ck_w hs 1 (.methodLink own i N.1) || (decide (own = "StrandBoxes") && ((i == 27 && decide (N.1 = yX3_init)) || (i == 34 && decide (N.1 = yX1_init))))))))))
      | _, _ => false)) = true := hc
    rw [Bool.or_eq_true] at hc
    rcases hc with hc | hc
    · exact Or.inl (eq_of_beq hc)
    · split at hc
      · rename_i M N e1 e2
        obtain ⟨C, mL⟩ := M
        simp only [Bool.and_eq_true, Bool.or_eq_true, decide_eq_true_eq, beq_iff_eq] at hc
        exact Or.inr ⟨C, mL, N, y - 1, e1, e2, ck_cb_ok hm e1 e2 hc.2.1, by omega, hc.2.2.1, hc.2.2.2.1, hc.2.2.2.2.1, ck_w_ok hc.2.2.2.2.2.1, hc.2.2.2.2.2.2.imp ck_w_ok id⟩
      · cases hc
  all_goals trivial
def ck_rt (ret : Option FieldType) (row : am_I) : Bool := match row with
  | (.ireturn, _, x, _) => (x == 0 && decide (ret = some .int)) || (x == 1 && decide (ret = some .boolean))
  | (.lreturn, _, x, _) => x == 2 && decide (ret = some .long)
  | (.return_, _, _, _) => decide (ret = none)
  | _ => true
theorem ck_rt_ok {ret : Option FieldType} {row : am_I} (hc : ck_rt ret row = true) : am_rt ret row := by
  obtain ⟨ins, len, x, y⟩ := row
  cases ins
  case ireturn =>
    have hc : ((x == 0 && decide (ret = some .int)) || (x == 1 && decide (ret = some .boolean))) = true := hc
    simp only [Bool.and_eq_true, Bool.or_eq_true, decide_eq_true_eq, beq_iff_eq] at hc
    exact hc
  case lreturn =>
    have hc : (x == 2 && decide (ret = some .long)) = true := hc
    simp only [Bool.and_eq_true, decide_eq_true_eq, beq_iff_eq] at hc
    exact hc
  case return_ =>
    have hc : decide (ret = none) = true := hc
    exact (of_decide_eq_true hc : ret = none)
  all_goals trivial
/-- the rows of a code table, with their places -/
def am_en (C : am_C) : List (Nat × am_I) := C.zipIdx.flatMap (fun q => q.1.zipIdx.filterMap (fun o => o.1.map (fun row => (32 * q.2 + o.2, row))))
theorem am_en_mem {C : am_C} {pc : Nat} {row : am_I} (h : am_row C pc = some row) : (pc, row) ∈ am_en C := by
  unfold am_row at h
  obtain ⟨l, h1, h2⟩ := Option.bind_eq_some_iff.mp h
  obtain ⟨o, h3, h4⟩ := Option.bind_eq_some_iff.mp h2
  have h4 : o = some row := h4
  subst h4
  refine List.mem_flatMap.mpr ⟨(l, pc / 32), List.mem_zipIdx_iff_getElem?.mpr h1, List.mem_filterMap.mpr ⟨(some row, pc % 32), List.mem_zipIdx_iff_getElem?.mpr h3, ?_⟩⟩
  show some (32 * (pc / 32) + pc % 32, row) = some (pc, row)
  rw [Nat.div_add_mod]
def ck_1 (N : am_N) (q : (Nat × am_I) × List Nat) : Bool := decide (decode N.2.1 q.1.1 = .ok (q.1.2.1, q.1.2.2.1)) && (ck_rk N.1.cls (decide (N.1.name = "<init>")) N.2.2.2.1 N.2.2.2.2 q.1.1 q.1.2 q.2 && (ck_ck N.1.cls N.2.2.2.1 N.2.2.2.2 q.1.2 q.2 && ck_rt N.2.2.1 q.1.2))
def ck_M (C : am_C) (N : am_N) (H : List (List Nat)) : Bool := (am_en C).length == H.length && ((am_en C).zip H).all (ck_1 N)
def ck_j (j : Nat) : Bool := match ac_L[j]?, ax_N[j]?, ax_H[j]? with
  | some M, some N, some H => ck_M M.1 N H
  | _, _, _ => false
theorem am_zip_mem {α β : Type} {a : α} : ∀ {l : List α} {k : List β}, l.length = k.length → a ∈ l → ∃ b, (a, b) ∈ l.zip k
  | x :: l, y :: k, h, ha => by
    rcases List.mem_cons.mp ha with rfl | ha
    · exact ⟨y, List.mem_cons_self⟩
    · obtain ⟨b, hb⟩ := am_zip_mem (Nat.succ.inj h) ha
      exact ⟨b, List.mem_cons_of_mem _ hb⟩
theorem am_Ok_of (hcl : am_cl6) (hm : am_m153) (hall : ∀ j, j < 153 → ck_j j = true) : am_Ok ac_P ax_N am_Tb := by
  refine ⟨am_Tb_good, fun j C mL N hj hN => ⟨(hm j C mL N hj hN).2.2.2.2, fun pc row hrow => ?_⟩⟩
  have hj : ac_L[j]? = some (C, mL) := hj
  have hlt : j < 153 := (List.getElem?_eq_some_iff.mp hj).1
  have h := hall j hlt
  unfold ck_j at h
  rw [hj, hN] at h
  split at h
  · rename_i M N9 H e1 e2 e3
    cases e1
    cases e2
    unfold ck_M at h
    rw [Bool.and_eq_true] at h
    obtain ⟨b, hb⟩ := am_zip_mem (eq_of_beq h.1) (am_en_mem hrow)
    have h9 := List.all_eq_true.mp h.2 _ hb
    unfold ck_1 at h9
    simp only [Bool.and_eq_true] at h9
    exact ⟨of_decide_eq_true h9.1, fun mc ms => (by
      have := ck_rk_ok hcl h9.2.1 mc ms
      simp only [decide_eq_true_eq] at this
      exact this), ck_ck_ok hm h9.2.2.1, ck_rt_ok h9.2.2.2⟩
  · cases h
