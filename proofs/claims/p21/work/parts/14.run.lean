/-! A run of the small machine is a run of the machine. -/
theorem am_pad_len : ∀ (n : Nat) (as : List am_V), (am_pad n as).length = n
  | 0, _ => rfl
  | n + 1, [] => congrArg Nat.succ (am_pad_len n [])
  | n + 1, .inl (.inl x) :: l => congrArg Nat.succ (am_pad_len n l)
  | n + 1, .inr x :: l => congrArg Nat.succ (am_pad_len n l)
  | 1, .inl (.inr x) :: l => rfl
  | n + 2, .inl (.inr x) :: l => congrArg (fun z => Nat.succ (Nat.succ z)) (am_pad_len n l)
theorem am_pad_nil : ∀ (n i : Nat) (v : am_V), (am_pad n [])[i]? = some v → v = vU
  | 0, i, v, h => by simp [am_pad] at h
  | n + 1, 0, v, h => by
    have : some vU = some v := h
    exact (Option.some.inj this).symm
  | n + 1, i + 1, v, h => am_pad_nil n i v h
theorem am_pad_at {ad : Nat → Nat} : ∀ (n : Nat) (as : List am_V) (i0 i : Nat) (v : am_V), (am_pad n as)[i]? = some v → v ≠ vU → (i0 + i, am_cv ad v) ∈ lv_args i0 (as.map (am_cv ad))
  | 0, as, i0, i, v, h, hv => by simp [am_pad] at h
  | n + 1, [], i0, i, v, h, hv => absurd (am_pad_nil (n + 1) i v h) hv
  | n + 1, .inl (.inl x) :: l, i0, 0, v, h, hv => by
    have : some (vI x) = some v := h
    cases this
    exact List.mem_cons_self
  | n + 1, .inr x :: l, i0, 0, v, h, hv => by
    have : some (Sum.inr x : am_V) = some v := h
    cases this
    exact List.mem_cons_self
  | n + 1, .inl (.inl x) :: l, i0, i + 1, v, h, hv => by
    have := am_pad_at (ad := ad) n l (i0 + 1) i v h hv
    rw [show i0 + (i + 1) = i0 + 1 + i by omega]
    exact List.mem_cons_of_mem _ this
  | n + 1, .inr x :: l, i0, i + 1, v, h, hv => by
    have := am_pad_at (ad := ad) n l (i0 + 1) i v h hv
    rw [show i0 + (i + 1) = i0 + 1 + i by omega]
    refine List.mem_cons_of_mem _ ?_
    rcases x with _ | _ | k <;> exact this
  | 1, .inl (.inr x) :: l, i0, 0, v, h, hv => by
    have : some (vL x) = some v := h
    cases this
    exact List.mem_cons_self
  | 1, .inl (.inr x) :: l, i0, i + 1, v, h, hv => by
    have : ([] : List am_V)[i]? = some v := h
    simp at this
  | n + 2, .inl (.inr x) :: l, i0, 0, v, h, hv => by
    have : some (vL x) = some v := h
    cases this
    exact List.mem_cons_self
  | n + 2, .inl (.inr x) :: l, i0, 1, v, h, hv => by
    have : some vU = some v := h
    exact absurd (Option.some.inj this).symm hv
  | n + 2, .inl (.inr x) :: l, i0, i + 2, v, h, hv => by
    have := am_pad_at (ad := ad) n l (i0 + 2) i v h hv
    rw [show i0 + (i + 2) = i0 + 2 + i by omega]
    exact List.mem_cons_of_mem _ this
theorem am_pad_mem : ∀ (n : Nat) (as : List am_V) (v : am_V), v ∈ am_pad n as → v = vU ∨ v ∈ as
  | 0, as, v, h => by simp [am_pad] at h
  | n + 1, [], v, h => by
    obtain ⟨i, hi⟩ := List.getElem?_of_mem h
    exact Or.inl (am_pad_nil (n + 1) i v hi)
  | n + 1, .inl (.inl x) :: l, v, h => by
    have h : v ∈ vI x :: am_pad n l := h
    rcases List.mem_cons.mp h with rfl | h
    · exact Or.inr List.mem_cons_self
    · exact (am_pad_mem n l v h).imp id (List.mem_cons_of_mem _)
  | n + 1, .inr x :: l, v, h => by
    have h : v ∈ (.inr x : am_V) :: am_pad n l := h
    rcases List.mem_cons.mp h with rfl | h
    · exact Or.inr List.mem_cons_self
    · exact (am_pad_mem n l v h).imp id (List.mem_cons_of_mem _)
  | 1, .inl (.inr x) :: l, v, h => by
    have h : v ∈ [vL x] := h
    exact Or.inr (by rw [List.mem_singleton.mp h]; exact List.mem_cons_self)
  | n + 2, .inl (.inr x) :: l, v, h => by
    have h : v ∈ vL x :: vU :: am_pad n l := h
    rcases List.mem_cons.mp h with rfl | h
    · exact Or.inr List.mem_cons_self
    · rcases List.mem_cons.mp h with rfl | h
      · exact Or.inl rfl
      · exact (am_pad_mem n l v h).imp id (List.mem_cons_of_mem _)
theorem am_sl_len {ad : Nat → Nat} : ∀ as : List am_V, (lg_sl (as.map (am_cv ad))).length = (as.map am_cat).sum
  | [] => rfl
  | v :: l => by
    have ih := am_sl_len (ad := ad) l
    show (lg_sl (am_cv ad v :: l.map (am_cv ad))).length = am_cat v + (l.map am_cat).sum
    unfold lg_sl at ih ⊢
    rw [List.flatMap_cons, List.length_append, ih]
    congr 1
    rcases v with (x | x) | _ | _ | a <;> rfl
/-- Met.ofW, for a method that no entry runs instead -/
theorem am_ofW {l : Launch} {y : MethodName} {ws ws' : List Cond} {rm : Room} {Pc : Array Value → State → Prop} {Qc : Array Value → State → Outcome → State → Prop} {mc ms : Nat} {free : Addr → Prop} {cc : ByteArray} {maxL : Nat} {ret : Option FieldType}
    (hy : plainFor y = true) (hw : ws = Cond.code y cc maxL ret :: ws')
    (body : ∀ p e s m args below meth c s₁, BodyLoose p l y (headSpec ws rm) cc maxL ret e s m args below meth c s₁ → c.maxLocals = maxL → Pc args s →
      W p l e (headSpec ws rm).room s m args below meth c s.heap [] 0 0 (MQ below Qc args s mc ms free) (entryFrame m args maxL)) : Met l y ws rm Pc Qc mc ms free := by
  refine MetFree.of_bodySF (code := cc) (maxLocals := maxL) (ret := ret) hy ?_ ?_
  · intro args s m h hn
    obtain ⟨meth, c, h1, h2, h3, h4, h5, h6, -, -⟩ := Cond.code_spec hn (atoms_spec (ws := ws) h _ (by rw [hw]; exact List.mem_cons_self))
    exact ⟨meth, c, h1, h2, h3, h4, h5, h6⟩
  · intro p e s m args below meth c s₁ B hml hP _
    have hh0 : s₁.heap = s.heap := by rw [B.state]; rfl
    obtain ⟨t, a1, o, b1, b2, b3⟩ := body p e s m args below meth c s₁ B hml hP s₁ hh0 (Stand.of_body B)
    exact ⟨t, o, a1, b1, b2, ⟨b3.1, b3.2⟩⟩
/-- a method: its name, its bytes, what it returns, its frames and locals -/
abbrev am_N : Type := MethodName × ByteArray × Option FieldType × Nat × Nat
def am_cb (Tb : List Cond) (fr lo : Nat) (mL : Nat) (N : am_N) (n : Nat) : Prop := Cond.code N.1 N.2.1 mL N.2.2.1 ∈ Tb ∧ Cond.initialized N.1.cls ∈ Tb ∧ (N.1.cls ≠ "java/lang/invoke/MethodHandle" ∧ N.1.cls ≠ "java/lang/invoke/VarHandle" ∧ (parseMethodDescriptor N.1.desc).map (fun d => d.parameters.length) = some n) ∧ N.2.2.2.1 + 1 ≤ fr ∧ 8 + (mL + 11) + N.2.2.2.2 ≤ lo
/-- what a call needs of the tables -/
def am_ck (P : am_P) (Ns : List am_N) (Tb : List Cond) (own : String) (fr lo : Nat) (row : am_I) : Prop := match row with
  | (.invokevirtual i, _, x, y) => ∃ (C : am_C) (mL : Nat) (N : am_N) (n : Nat), P.2[x % 1000]? = some (C, mL) ∧ Ns[x % 1000]? = some N ∧ am_cb Tb fr lo mL N n ∧ n + 1 = y ∧ 1000 ≤ x ∧ (∃ (T : u_T) (z : Nat), vwCl[x / 1000 - 1]? = some (N.1.cls, T, z)) ∧ Cond.methodLink own i N.1 ∈ Tb ∧ Cond.instanceMethod N.1 ∈ Tb ∧ Cond.selects N.1.cls N.1 N.1 ∈ Tb
  | (.invokestatic i, _, x, y) => x = 901 ∨ ∃ (C : am_C) (mL : Nat) (N : am_N) (n : Nat), P.2[x % 1000]? = some (C, mL) ∧ Ns[x % 1000]? = some N ∧ am_cb Tb fr lo mL N n ∧ n = y ∧ Cond.methodLink own i N.1 ∈ Tb ∧ Cond.static N.1 ∈ Tb
  | (.invokespecial i, _, x, y) => x = 900 ∨ ∃ (C : am_C) (mL : Nat) (N : am_N) (n : Nat), P.2[x % 1000]? = some (C, mL) ∧ Ns[x % 1000]? = some N ∧ am_cb Tb fr lo mL N n ∧ n + 1 = y ∧ 1000 ≤ x ∧ N.2.2.1 = none ∧ N.1.name = "<init>" ∧ Cond.instanceMethod N.1 ∈ Tb ∧ (Cond.methodLink own i N.1 ∈ Tb ∨ (own = "StrandBoxes" ∧ ((i = 27 ∧ N.1 = yX3_init) ∨ (i = 34 ∧ N.1 = yX1_init))))
  | _ => True
/-- what a return needs -/
def am_rt (ret : Option FieldType) (row : am_I) : Prop := match row with
  | (.ireturn, _, x, _) => (x = 0 ∧ ret = some .int) ∨ (x = 1 ∧ ret = some .boolean)
  | (.lreturn, _, x, _) => x = 2 ∧ ret = some .long
  | (.return_, _, _, _) => ret = none
  | _ => True
/-- the code tables are the bytes', the tables have what they need -/
def am_Ok (P : am_P) (Ns : List am_N) (Tb : List Cond) : Prop := (∀ w ∈ Tb, (w.onTables && w.keeps) = true ∨ ∃ ty, w = .arrayClass ty) ∧
  ∀ (j : Nat) (C : am_C) (mL : Nat) (N : am_N), P.2[j]? = some (C, mL) → Ns[j]? = some N → plainFor N.1 = true ∧ ∀ (pc : Nat) (row : am_I), am_row C pc = some row → decode N.2.1 pc = .ok (row.1, row.2.1) ∧ (∀ mc ms : Nat, am_rk P.1 N.1.cls (N.1.name = "<init>") Tb { frames := N.2.2.2.1, cells := mc, slots := ms, locals := N.2.2.2.2 } pc row) ∧ am_ck P Ns Tb N.1.cls N.2.2.2.1 N.2.2.2.2 row ∧ am_rt N.2.2.1 row
/-- from any state of a method, by a run of at most n steps -/
def am_GS (P : am_P) (Ns : List am_N) (Tb : List Cond) (l : Launch) (D : va_G) (ca : Nat → ClassId) (n : Nat) : Prop :=
  ∀ (j : Nat) (C : am_C) (mL : Nat) (y : MethodName) (bytes : ByteArray) (ret : Option FieldType) (fr lo : Nat), P.2[j]? = some (C, mL) → Ns[j]? = some (y, bytes, ret, fr, lo) →
  ∀ (p : Program) (e : Env) (s : State) (m : MethodId) (args : Array Value) (below : List Frame) (meth : Method) (c : Code), p.tables.exec = Jvm.exec → c.code = bytes → c.maxLocals = mL → s.vm.findClass y.cls = some m.cls → (∀ w ∈ Tb, w.before args s = true) → am_KK D ca s → meth.sig.returnType = ret → meth.locks = false → meth.name = y.name →
  ∀ (ad0 : Nat → Nat) (h0 h2 : am_H) (r : Option am_V) (t : am_S), am_x P n C t = some (r, h2) → h0.1 ≤ t.2.2.2.1 → h0.2.1 ≤ t.2.2.2.2.1 → am_G p l e ({ frames := fr, cells := h2.1 - h0.1, slots := h2.2.1 - h0.2.1, locals := lo } : Room) s m args below meth c (MQ below (am_Qc D ca P.1 ad0 h0 r h2 s.heap.size) args s (h2.1 - h0.1) (h2.2.1 - h0.2.1) (va_A (am_ws ad0 ca h0) s.heap.size)) D ca P.1 (va_A (am_ws ad0 ca h0) s.heap.size) h0.1 h0.2.1 ad0 mL t
/-- a method's contract, by a run of at most n steps -/
def am_SS (P : am_P) (Ns : List am_N) (Tb : List Cond) (l : Launch) (D : va_G) (ca : Nat → ClassId) (n : Nat) : Prop :=
  ∀ (j : Nat) (C : am_C) (mL : Nat) (N : am_N), P.2[j]? = some (C, mL) → Ns[j]? = some N → ∀ (as : List am_V) (h0 h2 : am_H) (r : Option am_V), am_x P n C (0, am_pad mL as, [], h0) = some (r, h2) → am_gd P.1 h0 → (∀ v ∈ as, am_vk h0.1 v) → (as.map am_cat).sum ≤ mL → ∀ (ad : Nat → Nat) (sz : Nat),
    Met l N.1 (Cond.code N.1 N.2.1 mL N.2.2.1 :: Tb) { frames := N.2.2.2.1, cells := h2.1 - h0.1, slots := h2.2.1 - h0.2.1, locals := N.2.2.2.2 } (am_Pc D ca (am_KK D ca) ad as h0 sz) (am_Qc D ca P.1 ad h0 r h2 sz) (h2.1 - h0.1) (h2.2.1 - h0.2.1) (va_A (am_ws ad ca h0) sz)
theorem am_SS_of {P : am_P} {Ns : List am_N} {Tb : List Cond} {l : Launch} {D : va_G} {ca : Nat → ClassId} {n : Nat} (ok : am_Ok P Ns Tb) (hG : am_GS P Ns Tb l D ca n) : am_SS P Ns Tb l D ca n := by
  intro j C mL N hj hN as h0 h2 r hx0 hg hv hcat ad sz
  obtain ⟨y, bytes, ret, fr, lo⟩ := N
  refine am_ofW (cc := bytes) (maxL := mL) (ret := ret) (ok.2 j C mL _ hj hN).1 rfl ?_
  intro p e s m args below meth c s₁ B hml hv0
  obtain ⟨rfl, hsz, hP, hK, hD0⟩ := hv0
  have hts := atoms_spec (ws := Cond.code y bytes mL ret :: Tb) B.pre
  subst hsz
  have hl := lv_entry (as.map (am_cv ad)) (n := mL) (by rw [am_sl_len]; exact hcat)
  rw [lg_entry_eq]
  generalize (lg_sl (as.map (am_cv ad)) ++ List.replicate (mL - (lg_sl (as.map (am_cv ad))).length) Slot.unset).toArray = LS at hl ⊢
  have K := hG j C mL y bytes ret fr lo hj hN p e s m _ below meth c B.exec B.bytes hml (findClass_of_methodNamed B.named) (fun w hw => hts w (List.mem_cons_of_mem _ hw)) hK B.returns B.notSynchronized (name_of_methodNamed B.named B.method).1 ad h0 h2 r (0, am_pad mL as, [], h0) hx0 (Nat.le_refl _) (Nat.le_refl _)
  have K2 := K ad s.heap [] LS (fun _ _ => rfl) (Nat.le_refl _) (Nat.le_refl _) hg (fun v hv => by simp at hv) (fun v hv9 => (am_pad_mem mL as v hv9).imp id (hv v)) hP hD0.self va_S.rf ?_ (am_pad_len mL as)
  · exact W.cs (show 0 = h0.1 - h0.1 by omega) (show 0 = h0.2.1 - h0.2.1 by omega) K2
  · refine ⟨by rw [am_pad_len]; exact hl.1, hl.2.1, fun q hq => hl.2.2 q ?_⟩
    obtain ⟨v, q1, q2, q3⟩ := am_lvl_mem.mp hq
    have := am_pad_at (ad := ad) mL as 0 q.1 v q1 q2
    rw [Nat.zero_add, ← q3] at this
    exact this
