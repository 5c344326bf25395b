/-! Every step, by its instruction. -/
/-- the array classes over the claim's classes and over int[] -/
def am_AO (U : State) : Prop := va_AO "StrandBoxes$Boxes" U ∧ va_AO "StrandBoxes$Halves" U ∧ va_AO "StrandBoxes$Sum" U ∧ va_AOA .int U
theorem am_AO.at {U : State} {x : Nat} {C : String} (h : am_AO U) (h4 : 4 ≤ x) (h7 : x < 7) (hC : am_ty x = .object C) : va_AO C U := by
  rcases (show x = 4 ∨ x = 5 ∨ x = 6 by omega) with rfl | rfl | rfl
  · cases hC
    exact h.1
  · cases hC
    exact h.2.1
  · cases hC
    exact h.2.2.1
theorem am_ao_vm {ty : FieldType} {u U : State} (e : u.vm = U.vm) (h : (Cond.arrayOver ty).before #[] u = true) : (Cond.arrayOver ty).before #[] U = true := by
  unfold Cond.before Cond.holds at h ⊢
  simp only [Cond.value] at h ⊢
  rw [← e]
  exact h
theorem am_ao_warm {ty : FieldType} {s U : State} (hW : s.WarmedH U.vm) (h : (Cond.arrayOver ty).before #[] s = true) : (Cond.arrayOver ty).before #[] U = true := am_ao_vm (u := s.setVm U.vm) rfl (by rw [Cond.arrayOver_setVmC hW.alike]; exact h)
theorem am_AO.warm {s U : State} (hW : s.WarmedH U.vm) (h : am_AO s) : am_AO U := ⟨am_ao_warm hW h.1, am_ao_warm hW h.2.1, am_ao_warm hW h.2.2.1, am_ao_warm hW h.2.2.2⟩
theorem am_AO.same {u U : State} (e : u.vm = U.vm) (h : am_AO u) : am_AO U := ⟨am_ao_vm e h.1, am_ao_vm e h.2.1, am_ao_vm e h.2.2.1, am_ao_vm e h.2.2.2⟩
theorem am_is0 {v : am_V} (h : am_is 0 v = true) : ∃ x, v = vI x := by
  rcases v with (x | x) | _ | _ | a
  · exact ⟨x, rfl⟩
  · cases h
  · cases h
  · cases h
  · cases h
theorem am_is1 {v : am_V} (h : am_is 1 v = true) : ∃ x, v = vL x := by
  rcases v with (x | x) | _ | _ | a
  · cases h
  · exact ⟨x, rfl⟩
  · cases h
  · cases h
  · cases h
theorem am_is2 {v : am_V} (h : am_is 2 v = true) : ∃ a, v = vR a := by
  rcases v with (x | x) | _ | _ | a
  · cases h
  · cases h
  · cases h
  · cases h
  · exact ⟨a, rfl⟩
theorem am_is02 {ad : Nat → Nat} {v : am_V} (h : (am_is 0 v || am_is 2 v) = true) : (am_cv ad v).category = 1 := by
  rcases v with (x | x) | _ | _ | a
  · rfl
  · cases h
  · cases h
  · cases h
  · rfl
theorem am_div_inv {a b z : Int} (h : am_div a b = some z) : b ≠ 0 ∧ z = am_w (a.tdiv b) := by
  unfold am_div at h
  split at h
  · cases h
  · rename_i q
    exact ⟨q, (Option.some.inj h).symm⟩
theorem am_rem_inv {a b z : Int} (h : am_rem a b = some z) : b ≠ 0 ∧ z = a.tmod b := by
  unfold am_rem at h
  split at h
  · cases h
  · rename_i q
    exact ⟨q, (Option.some.inj h).symm⟩
theorem am_divl_inv {a b z : Int} (h : am_divl a b = some z) : b ≠ 0 ∧ z = am_wl (a.tdiv b) := by
  unfold am_divl at h
  split at h
  · cases h
  · rename_i q
    exact ⟨q, (Option.some.inj h).symm⟩
/-- what a row of code says beside its instruction, and what it needs of the tables -/
def am_rk (ft : am_ft) (own : String) (ini : Prop) (Ts : List Cond) (R : Room) (pc : Nat) (row : am_I) : Prop := match row with
  | (.iconst n, len, _, _) => len = 1 ∧ am_r32 n
  | (.bipush n, len, _, _) => len = 2 ∧ am_r32 n ∧ (Int8.ofInt n).toInt32 = Int32.ofInt n
  | (.sipush n, len, _, _) => len = 3 ∧ am_r32 n ∧ (Int16.ofInt n).toInt32 = Int32.ofInt n
  | (.lconst _, len, _, _) => len = 1
  | (.ldc i, len, x, y) => len = 2 ∧ am_r32 (am_cst x y) ∧ Cond.constant own i (Int32.ofInt (am_cst x y)) ∈ Ts
  | (.ldc2_w i, len, x, y) => len = 3 ∧ am_r64 (am_cst x y) ∧ Cond.constantLong own i (Int64.ofInt (am_cst x y)) ∈ Ts
  | (.iload_n _, len, _, _) => len = 1
  | (.iload _, len, _, _) => len = 2
  | (.lload_n _, len, _, _) => len = 1
  | (.lload _, len, _, _) => len = 2
  | (.aload_n _, len, _, _) => len = 1
  | (.aload _, len, _, _) => len = 2
  | (.istore_n _, len, _, _) => len = 1
  | (.istore _, len, _, _) => len = 2
  | (.lstore_n _, len, _, _) => len = 1
  | (.lstore _, len, _, _) => len = 2
  | (.astore_n _, len, _, _) => len = 1
  | (.astore _, len, _, _) => len = 2
  | (.iinc _ _, len, _, _) => len = 3
  | (.ifCond _ off, len, x, _) => len = 3 ∧ (pc : Int) + off = (x : Int)
  | (.if_icmp _ off, len, x, _) => len = 3 ∧ (pc : Int) + off = (x : Int)
  | (.goto off, len, x, _) => len = 3 ∧ (pc : Int) + off = (x : Int)
  | (.tableswitch d _ _ offs, _, _, _) => 0 ≤ (pc : Int) + d ∧ ∀ o ∈ offs.toList, 0 ≤ (pc : Int) + o
  | (.getfield i, len, x, y) => len = 3 ∧ am_fl own i x y Ts
  | (.putfield i, len, x, y) => len = 3 ∧ ∃ (C : String) (T : u_T) (N : Nat) (tyf : Nat → FieldType), vwCl[x]? = some (C, T, N) ∧ y < N ∧ Cond.fieldLink own i (T y).1 (T y).2.1 (T y).2.2.1 ∈ Ts ∧ (∀ w ∈ u_ws C T N, w ∈ Ts) ∧ (∀ k, k < N → parseFieldDescriptor (T k).2.2.1 = some (tyf k)) ∧ (∀ a, a < N → ∀ b, b < N → a ≠ b → (T a).2.1 ≠ (T b).2.1) ∧ am_tk (ft x y) (tyf y) = true ∧ ((T y).2.2.2 = false ∨ ((T y).2.2.2 = true ∧ ini ∧ (T y).1 = own))
  | (.new i, len, x, y) => len = 3 ∧ ∃ (C : String) (T : u_T) (tyf : Nat → FieldType), vwCl[x]? = some (C, T, y) ∧ (∀ w ∈ u_ws C T y, w ∈ Ts) ∧ (∀ k, k < y → parseFieldDescriptor (T k).2.2.1 = some (tyf k)) ∧ (∀ k, k < y → am_tk (ft x k) (tyf k) = true) ∧ Cond.classLink own i C ∈ Ts ∧ Cond.instantiable C y ∈ Ts ∧ Cond.initialized C ∈ Ts
  | (.newarray at9, len, x, _) => len = 2 ∧ newarray.typeOf at9 = am_ty x ∧ Cond.arrayClass (newarray.typeOf at9) ∈ Ts
  | (.anewarray i, len, x, _) => len = 3 ∧ ∃ C, am_ty x = .object C ∧ Cond.classLink own i C ∈ Ts
  | (.multianewarray i d, len, _, _) => len = 4 ∧ d = 2 ∧ Cond.classLink own i ("[" ++ (FieldType.array .int).toString) ∈ Ts ∧ Cond.arrayClass .int ∈ Ts
  | (.invokevirtual _, len, x, _) => len = 3 ∧ x ≠ 900 ∧ x ≠ 901
  | (.invokestatic i, len, x, _) => len = 3 ∧ x ≠ 900 ∧ (x = 901 → Cond.methodLink own i arraycopyName ∈ Ts ∧ Cond.native arraycopyName ∈ Ts ∧ Cond.static arraycopyName ∈ Ts ∧ Cond.initialized "java/lang/System" ∈ Ts ∧ 1 ≤ R.frames ∧ nativeFrameWords "java/lang/System" "arraycopy" 5 + 11 ≤ R.locals)
  | (.invokespecial i, len, x, _) => len = 3 ∧ x ≠ 901 ∧ (x = 900 → Cond.methodLink own i Lib.objectInit ∈ Ts ∧ Cond.instanceMethod Lib.objectInit ∈ Ts ∧ Cond.code Lib.objectInit ⟨#[0xb1]⟩ 1 none ∈ Ts ∧ 1 ≤ R.frames ∧ 12 ≤ R.locals)
  | (.iadd, len, _, _) => len = 1
  | (.isub, len, _, _) => len = 1
  | (.imul, len, _, _) => len = 1
  | (.idiv, len, _, _) => len = 1
  | (.irem, len, _, _) => len = 1
  | (.ineg, len, _, _) => len = 1
  | (.iand, len, _, _) => len = 1
  | (.ixor, len, _, _) => len = 1
  | (.ishl, len, _, _) => len = 1
  | (.ishr, len, _, _) => len = 1
  | (.ladd, len, _, _) => len = 1
  | (.lmul, len, _, _) => len = 1
  | (.ldiv, len, _, _) => len = 1
  | (.lneg, len, _, _) => len = 1
  | (.land, len, _, _) => len = 1
  | (.lor, len, _, _) => len = 1
  | (.lshl, len, _, _) => len = 1
  | (.lshr, len, _, _) => len = 1
  | (.lushr, len, _, _) => len = 1
  | (.lcmp, len, _, _) => len = 1
  | (.i2l, len, _, _) => len = 1
  | (.l2i, len, _, _) => len = 1
  | (.iaload, len, _, _) => len = 1
  | (.baload, len, _, _) => len = 1
  | (.laload, len, _, _) => len = 1
  | (.aaload, len, _, _) => len = 1
  | (.iastore, len, _, _) => len = 1
  | (.bastore, len, _, _) => len = 1
  | (.lastore, len, _, _) => len = 1
  | (.aastore, len, _, _) => len = 1
  | (.arraylength, len, _, _) => len = 1
  | (.dup, len, _, _) => len = 1
  | (.dup2, len, _, _) => len = 1
  | (.pop, len, _, _) => len = 1
  | (.pop2, len, _, _) => len = 1
  | (.ireturn, len, _, _) => len = 1
  | (.lreturn, len, _, _) => len = 1
  | (.return_, len, _, _) => len = 1
  | _ => False
section SM
variable {p : Program} {l : Launch} {e : Env} {R : Room} {s : State} {m : MethodId} {args : Array Value} {below : List Frame} {meth : Method} {c : Code} {Q : State → Prop} {D : va_G} {ca : Nat → ClassId} {ft : am_ft} {A : Nat → Prop} {n0 z0 : Nat} {ad0 : Nat → Nat} {nL : Nat} {cc : ByteArray}
set_option maxHeartbeats 4000000 in
theorem am_sim {own : String} {Ts : List Cond} {ins : Instr} {len x y pc : Nat} {ls st : List am_V} {h : am_H} {t : am_S} (hx : p.tables.exec = Jvm.exec) (hb : c.code = cc) (hml : c.maxLocals = nL) (hown : s.vm.findClass own = some m.cls) (hts : ∀ w ∈ Ts, w.before args s = true) (hK : va_K D vwCl (am_tys ca) s) (hO : am_AO s) (hA : ∀ q, s.heap.size ≤ q → A q) (hdg : decode cc pc = .ok (ins, len)) (hr : am_rk ft own (meth.name = "<init>") Ts R pc (ins, len, x, y))
    (he : am_sem ft ins len x y (pc, ls, st, h) = some (.inl t)) (hrc : t.2.2.2.1 - n0 ≤ R.cells) (hrs : t.2.2.2.2.1 - z0 ≤ R.slots) (k : am_G p l e R s m args below meth c Q D ca ft A n0 z0 ad0 nL t) : am_G p l e R s m args below meth c Q D ca ft A n0 z0 ad0 nL (pc, ls, st, h) := by
  cases ins
  case iconst n =>
    obtain ⟨rfl, hn⟩ := hr
    cases he
    exact sm_push (v := vI n) hn (fun ad H locs LS k z rest w => lv_iconst hx hb hdg rfl w) k
  case bipush n =>
    obtain ⟨rfl, hn, h8⟩ := hr
    cases he
    exact sm_push (v := vI n) hn (fun ad H locs LS k z rest w => lv_bipush hx hb hdg h8 w) k
  case sipush n =>
    obtain ⟨rfl, hn, h8⟩ := hr
    cases he
    exact sm_push (v := vI n) hn (fun ad H locs LS k z rest w => lv_sipush hx hb hdg h8 w) k
  case lconst n =>
    subst hr
    cases he
    refine sm_push (v := vL (n.val : Int)) (show am_r64 (n.val : Int) by unfold am_r64; have := n.isLt; omega) (fun ad H locs LS k z rest w => lv_lconst hx hb hdg (v := Int64.ofInt (n.val : Int)) ?_ w) k
    rcases n with ⟨n, hn⟩
    rcases (show n = 0 ∨ n = 1 by omega) with rfl | rfl
    · exact (by decide : Int64.ofNat 0 = Int64.ofInt 0)
    · exact (by decide : Int64.ofNat 1 = Int64.ofInt 1)
  case ldc i =>
    obtain ⟨rfl, hn, h8⟩ := hr
    cases he
    exact sm_push (v := vI (am_cst x y)) hn (fun ad H locs LS k z rest w => lv_ldc hx hb hown (hts _ h8) hdg w) k
  case ldc2_w i =>
    obtain ⟨rfl, hn, h8⟩ := hr
    cases he
    exact sm_push (v := vL (am_cst x y)) hn (fun ad H locs LS k z rest w => lv_ldc2 hx hb hown (hts _ h8) hdg w) k
  case iload_n i =>
    subst hr
    obtain ⟨v, h1, h2, e2⟩ := iv_load (len := 1) (x := x) (y := y) he
    obtain ⟨z, rfl⟩ := am_is0 h2
    cases e2
    exact sm_load h1 (fun q => by cases q) (fun ad H locs LS k z rest q w => lv_iload_n hx hb hdg rfl q w) k
  case iload i =>
    subst hr
    obtain ⟨v, h1, h2, e2⟩ := iv_load (len := 2) (x := x) (y := y) he
    obtain ⟨z, rfl⟩ := am_is0 h2
    cases e2
    exact sm_load h1 (fun q => by cases q) (fun ad H locs LS k z rest q w => lv_iload hx hb hdg q w) k
  case lload_n i =>
    subst hr
    obtain ⟨v, h1, h2, e2⟩ := iv_load (len := 1) (x := x) (y := y) he
    obtain ⟨z, rfl⟩ := am_is1 h2
    cases e2
    exact sm_load h1 (fun q => by cases q) (fun ad H locs LS k z rest q w => lv_lload_n hx hb hdg rfl q w) k
  case lload i =>
    subst hr
    obtain ⟨v, h1, h2, e2⟩ := iv_load (len := 2) (x := x) (y := y) he
    obtain ⟨z, rfl⟩ := am_is1 h2
    cases e2
    exact sm_load h1 (fun q => by cases q) (fun ad H locs LS k z rest q w => lv_lload hx hb hdg q w) k
  case aload_n i =>
    subst hr
    obtain ⟨v, h1, h2, e2⟩ := iv_load (len := 1) (x := x) (y := y) he
    obtain ⟨z, rfl⟩ := am_is2 h2
    cases e2
    exact sm_load h1 (fun q => by cases q) (fun ad H locs LS k z rest q w => lv_aload_n hx hb hdg rfl q w) k
  case aload i =>
    subst hr
    obtain ⟨v, h1, h2, e2⟩ := iv_load (len := 2) (x := x) (y := y) he
    obtain ⟨z, rfl⟩ := am_is2 h2
    cases e2
    exact sm_load h1 (fun q => by cases q) (fun ad H locs LS k z rest q w => lv_aload hx hb hdg q w) k
  case istore_n i =>
    subst hr
    obtain ⟨v, st2, rfl, h2, h3, e2⟩ := iv_stor (len := 1) (x := x) (y := y) he
    obtain ⟨z, rfl⟩ := am_is0 h2
    cases e2
    exact sm_stor h3 (fun ad H locs LS k z rest q w => lv_istore_n hx hb hdg rfl q h3 rfl w) k
  case istore i =>
    subst hr
    obtain ⟨v, st2, rfl, h2, h3, e2⟩ := iv_stor (len := 2) (x := x) (y := y) he
    obtain ⟨z, rfl⟩ := am_is0 h2
    cases e2
    exact sm_stor h3 (fun ad H locs LS k z rest q w => lv_istore hx hb hdg q h3 rfl w) k
  case astore_n i =>
    subst hr
    obtain ⟨v, st2, rfl, h2, h3, e2⟩ := iv_stor (len := 1) (x := x) (y := y) he
    obtain ⟨z, rfl⟩ := am_is2 h2
    cases e2
    exact sm_stor h3 (fun ad H locs LS k z rest q w => lv_astore_n hx hb hdg rfl q h3 rfl w) k
  case astore i =>
    subst hr
    obtain ⟨v, st2, rfl, h2, h3, e2⟩ := iv_stor (len := 2) (x := x) (y := y) he
    obtain ⟨z, rfl⟩ := am_is2 h2
    cases e2
    exact sm_stor h3 (fun ad H locs LS k z rest q w => lv_astore hx hb hdg q h3 rfl w) k
  case lstore_n i =>
    subst hr
    obtain ⟨z, st2, rfl, h3, e2⟩ := iv_storl (len := 1) (x := x) (y := y) he
    cases e2
    exact sm_storl h3 (fun ad H locs LS k z rest q w => lv_lstore_n hx hb hdg rfl q h3 rfl w) k
  case lstore i =>
    subst hr
    obtain ⟨z, st2, rfl, h3, e2⟩ := iv_storl (len := 2) (x := x) (y := y) he
    cases e2
    exact sm_storl h3 (fun ad H locs LS k z rest q w => lv_lstore hx hb hdg q h3 rfl w) k
  case iinc i n =>
    subst hr
    obtain ⟨z, h1, e2⟩ := iv_iinc (len := 3) (x := x) (y := y) he
    cases e2
    exact sm_iinc hx hb hdg h1 k
  case iadd =>
    subst hr
    obtain ⟨a, b, z, st2, rfl, hf, e2⟩ := iv_bin (len := 1) (x := x) (y := y) he
    cases hf
    cases e2
    exact sm_bin (g := fun x y => x + y) (fun _ _ => ⟨am_w_r _, am_o_add _ _⟩) (fun H locs LS k z rest _ _ w => lv_iadd hx hb hdg w) k
  case isub =>
    subst hr
    obtain ⟨a, b, z, st2, rfl, hf, e2⟩ := iv_bin (len := 1) (x := x) (y := y) he
    cases hf
    cases e2
    exact sm_bin (g := fun x y => x - y) (fun _ _ => ⟨am_w_r _, am_o_sub _ _⟩) (fun H locs LS k z rest _ _ w => lv_isub hx hb hdg w) k
  case imul =>
    subst hr
    obtain ⟨a, b, z, st2, rfl, hf, e2⟩ := iv_bin (len := 1) (x := x) (y := y) he
    cases hf
    cases e2
    exact sm_bin (g := fun x y => x * y) (fun _ _ => ⟨am_w_r _, am_o_mul _ _⟩) (fun H locs LS k z rest _ _ w => lv_imul hx hb hdg w) k
  case iand =>
    subst hr
    obtain ⟨a, b, z, st2, rfl, hf, e2⟩ := iv_bin (len := 1) (x := x) (y := y) he
    cases hf
    cases e2
    exact sm_bin (g := fun x y => x &&& y) (fun _ _ => ⟨am_rI _, Int32.ofInt_toInt _⟩) (fun H locs LS k z rest _ _ w => lv_iand hx hb hdg w) k
  case ixor =>
    subst hr
    obtain ⟨a, b, z, st2, rfl, hf, e2⟩ := iv_bin (len := 1) (x := x) (y := y) he
    cases hf
    cases e2
    exact sm_bin (g := fun x y => x ^^^ y) (fun _ _ => ⟨am_rI _, Int32.ofInt_toInt _⟩) (fun H locs LS k z rest _ _ w => lv_ixor hx hb hdg w) k
  case ishl =>
    subst hr
    obtain ⟨a, b, z, st2, rfl, hf, e2⟩ := iv_bin (len := 1) (x := x) (y := y) he
    cases hf
    cases e2
    exact sm_bin (g := fun x y => x <<< (y &&& 31)) (fun _ _ => ⟨am_rI _, Int32.ofInt_toInt _⟩) (fun H locs LS k z rest _ _ w => lv_ishl hx hb hdg w) k
  case ishr =>
    subst hr
    obtain ⟨a, b, z, st2, rfl, hf, e2⟩ := iv_bin (len := 1) (x := x) (y := y) he
    cases hf
    cases e2
    exact sm_bin (g := fun x y => x >>> (y &&& 31)) (fun _ _ => ⟨am_rI _, Int32.ofInt_toInt _⟩) (fun H locs LS k z rest _ _ w => lv_ishr hx hb hdg w) k
  case idiv =>
    subst hr
    obtain ⟨a, b, z, st2, rfl, hf, e2⟩ := iv_bin (len := 1) (x := x) (y := y) he
    obtain ⟨hne, rfl⟩ := am_div_inv hf
    cases e2
    exact sm_bin (g := fun x y => x / y) (fun q1 q2 => ⟨am_w_r _, am_o_div q1 q2⟩) (fun H locs LS k z rest q1 q2 w => lv_idiv hx hb hdg (fun q => hne ((am_o_eq q2 am_0r).mp q)) w) k
  case irem =>
    subst hr
    obtain ⟨a, b, z, st2, rfl, hf, e2⟩ := iv_bin (len := 1) (x := x) (y := y) he
    obtain ⟨hne, rfl⟩ := am_rem_inv hf
    cases e2
    exact sm_bin (g := fun x y => x - x / y * y) (fun q1 q2 => ⟨am_tmod_r q1, am_o_rem q1 q2⟩) (fun H locs LS k z rest q1 q2 w => lv_irem hx hb hdg (fun q => hne ((am_o_eq q2 am_0r).mp q)) w) k
  case ineg =>
    subst hr
    obtain ⟨a, st2, rfl, e2⟩ := iv_un (len := 1) (x := x) (y := y) he
    cases e2
    exact sm_stk (us := [vI a]) (us2 := [vI (am_w (-a))]) (fun _ w hw => by rw [List.mem_singleton.mp hw]; exact am_w_r _) (fun ad H locs LS k z rest q w => lv_ineg hx hb hdg (by rw [← am_o_neg]; exact w)) k
  case ladd =>
    subst hr
    obtain ⟨a, b, z, st2, rfl, hf, e2⟩ := iv_binl (len := 1) (x := x) (y := y) he
    cases hf
    cases e2
    exact sm_binl (g := fun x y => x + y) (fun _ _ => ⟨am_wl_r _, am_l_add _ _⟩) (fun H locs LS k z rest _ _ w => lv_ladd hx hb hdg w) k
  case lmul =>
    subst hr
    obtain ⟨a, b, z, st2, rfl, hf, e2⟩ := iv_binl (len := 1) (x := x) (y := y) he
    cases hf
    cases e2
    exact sm_binl (g := fun x y => x * y) (fun _ _ => ⟨am_wl_r _, am_l_mul _ _⟩) (fun H locs LS k z rest _ _ w => lv_lmul hx hb hdg w) k
  case land =>
    subst hr
    obtain ⟨a, b, z, st2, rfl, hf, e2⟩ := iv_binl (len := 1) (x := x) (y := y) he
    cases hf
    cases e2
    exact sm_binl (g := fun x y => x &&& y) (fun _ _ => ⟨am_rL _, Int64.ofInt_toInt _⟩) (fun H locs LS k z rest _ _ w => lv_land hx hb hdg w) k
  case lor =>
    subst hr
    obtain ⟨a, b, z, st2, rfl, hf, e2⟩ := iv_binl (len := 1) (x := x) (y := y) he
    cases hf
    cases e2
    exact sm_binl (g := fun x y => x ||| y) (fun _ _ => ⟨am_rL _, Int64.ofInt_toInt _⟩) (fun H locs LS k z rest _ _ w => lv_lor hx hb hdg w) k
  case ldiv =>
    subst hr
    obtain ⟨a, b, z, st2, rfl, hf, e2⟩ := iv_binl (len := 1) (x := x) (y := y) he
    obtain ⟨hne, rfl⟩ := am_divl_inv hf
    cases e2
    exact sm_binl (g := fun x y => x / y) (fun q1 q2 => ⟨am_wl_r _, am_l_div q1 q2⟩) (fun H locs LS k z rest q1 q2 w => lv_ldiv hx hb hdg (fun q => hne ((am_l_eq q2 am_0l).mp q)) w) k
  case lneg =>
    subst hr
    obtain ⟨a, st2, rfl, e2⟩ := iv_unl (len := 1) (x := x) (y := y) he
    cases e2
    exact sm_stk (us := [vL a]) (us2 := [vL (am_wl (-a))]) (fun _ w hw => by rw [List.mem_singleton.mp hw]; exact am_wl_r _) (fun ad H locs LS k z rest q w => lv_lneg hx hb hdg (by rw [← am_l_neg]; exact w)) k
  case lshl =>
    subst hr
    obtain ⟨a, b, z, st2, rfl, hf, e2⟩ := iv_shl (len := 1) (x := x) (y := y) he
    cases hf
    cases e2
    exact sm_shl (g := fun x y => x <<< (y.toInt64 &&& 63)) (Int64.ofInt_toInt _) (am_rL _) (fun H locs LS k z rest w => lv_lshl hx hb hdg rfl w) k
  case lshr =>
    subst hr
    obtain ⟨a, b, z, st2, rfl, hf, e2⟩ := iv_shl (len := 1) (x := x) (y := y) he
    cases hf
    cases e2
    exact sm_shl (g := fun x y => x >>> (y.toInt64 &&& 63)) (Int64.ofInt_toInt _) (am_rL _) (fun H locs LS k z rest w => lv_lshr hx hb hdg rfl w) k
  case lushr =>
    subst hr
    obtain ⟨a, b, z, st2, rfl, hf, e2⟩ := iv_shl (len := 1) (x := x) (y := y) he
    cases hf
    cases e2
    exact sm_shl (g := fun x y => (x.toUInt64 >>> (y.toInt64.toUInt64 &&& Int64.toUInt64 63)).toInt64) (Int64.ofInt_toInt _) (am_rL _) (fun H locs LS k z rest w => lv_lushr hx hb hdg rfl w) k
  case lcmp =>
    subst hr
    obtain ⟨b, a, st2, rfl, e2⟩ := iv_lcmp (len := 1) (x := x) (y := y) he
    cases e2
    exact sm_stk (us := [vL b, vL a]) (us2 := [vI (if a < b then -1 else if a = b then 0 else 1)]) (fun _ w hw => by rw [List.mem_singleton.mp hw]; show am_r32 _; unfold am_r32; split <;> (try split) <;> omega) (fun ad H locs LS k z rest q w => W.lcmp hx hb hdg (by rw [← am_o_cmp (q (vL a) (by simp)) (q (vL b) (by simp))]; exact w)) k
  case i2l =>
    subst hr
    obtain ⟨a, st2, rfl, e2⟩ := iv_i2l (len := 1) (x := x) (y := y) he
    cases e2
    exact sm_stk (us := [vI a]) (us2 := [vL a]) (fun q w hw => by rw [List.mem_singleton.mp hw]; exact am_32_64 (q (vI a) (by simp))) (fun ad H locs LS k z rest q w => lv_i2l hx hb hdg (am_o_i2l (q (vI a) (by simp))) w) k
  case l2i =>
    subst hr
    obtain ⟨a, st2, rfl, e2⟩ := iv_l2i (len := 1) (x := x) (y := y) he
    cases e2
    exact sm_stk (us := [vL a]) (us2 := [vI (am_w a)]) (fun q w hw => by rw [List.mem_singleton.mp hw]; exact am_w_r _) (fun ad H locs LS k z rest q w => lv_l2i hx hb hdg (am_o_l2i a) w) k
  case ifCond cnd off =>
    obtain ⟨rfl, ht⟩ := hr
    obtain ⟨a, st2, rfl, e2⟩ := iv_if (len := 3) (x := x) (y := y) he
    cases e2
    exact sm_if hx hb hdg ht k
  case if_icmp cnd off =>
    obtain ⟨rfl, ht⟩ := hr
    obtain ⟨b, a, st2, rfl, e2⟩ := iv_icmp (len := 3) (x := x) (y := y) he
    cases e2
    exact sm_icmp hx hb hdg ht k
  case goto off =>
    obtain ⟨rfl, ht⟩ := hr
    cases he
    exact sm_goto hx hb hdg ht k
  case tableswitch d lo hi offs =>
    obtain ⟨h0, h8⟩ := hr
    obtain ⟨a, st2, rfl, e2⟩ := iv_sw (len := len) (x := x) (y := y) he
    rcases e2 with ⟨q, e2⟩ | ⟨q, o, ho, e2⟩
    · cases e2
      exact sm_sw1 hx hb hdg q h0 k
    · cases e2
      exact sm_sw2 hx hb hdg q ho (h8 o (by rw [← Array.getElem?_toList] at ho; exact List.mem_of_getElem? ho)) k
  case getfield i =>
    obtain ⟨rfl, hf⟩ := hr
    obtain ⟨a, st2, rfl, ⟨q1, q2, q3⟩, e2⟩ := iv_gf (len := 3) (x := x) (y := y) he
    cases e2
    exact sm_gf hx hb hown hts hK hdg hf q1 q2 q3 k
  case putfield i =>
    obtain ⟨rfl, C, T, N, tyf, f1, f2, f3, f4, f5, f6, f7, f8⟩ := hr
    obtain ⟨v, a, st2, rfl, ⟨q1, q2, q3, q4⟩, e2⟩ := iv_pf (len := 3) (x := x) (y := y) he
    cases e2
    exact sm_pf tyf hx hb hown hts hK hdg f1 f2 f3 f4 f5 f6 f7 f8 q1 q2 q3 q4 k
  case iaload =>
    subst hr
    obtain ⟨i, a, st2, rfl, ⟨q1, q2, q3, q4⟩, e2⟩ := iv_ald (len := 1) (x := x) (y := y) (ok := fun k => k == 0) he
    cases e2
    exact sm_iald hx hb hK hdg q1 (by simpa using q2) q3 q4 k
  case baload =>
    subst hr
    obtain ⟨i, a, st2, rfl, ⟨q1, q2, q3, q4⟩, e2⟩ := iv_ald (len := 1) (x := x) (y := y) (ok := fun k => k == 1) he
    cases e2
    exact sm_zald hx hb hK hdg q1 (by simpa using q2) q3 q4 k
  case laload =>
    subst hr
    obtain ⟨i, a, st2, rfl, ⟨q1, q2, q3, q4⟩, e2⟩ := iv_ald (len := 1) (x := x) (y := y) (ok := fun k => k == 2) he
    cases e2
    exact sm_lald hx hb hK hdg q1 (by simpa using q2) q3 q4 k
  case aaload =>
    subst hr
    obtain ⟨i, a, st2, rfl, ⟨q1, q2, q3, q4⟩, e2⟩ := iv_ald (len := 1) (x := x) (y := y) (ok := fun k => decide (3 ≤ k) && decide (k < 7)) he
    cases e2
    simp only [Bool.and_eq_true, decide_eq_true_eq] at q2
    exact sm_aald hx hb hK hdg q1 q2.1 q2.2 q3 q4 k
  case iastore =>
    subst hr
    obtain ⟨v, i, a, st2, rfl, ⟨q1, q2, q3, q4, q5⟩, e2⟩ := iv_ast (len := 1) (x := x) (y := y) he
    cases e2
    exact sm_iast hx hb hK hdg q1 q2 q3 q4 q5 k
  case bastore =>
    subst hr
    obtain ⟨v, i, a, st2, rfl, ⟨q1, q2, q3, q4, q5⟩, e2⟩ := iv_ast (len := 1) (x := x) (y := y) he
    cases e2
    exact sm_zast hx hb hK hdg q1 q2 q3 q4 q5 k
  case lastore =>
    subst hr
    obtain ⟨v, i, a, st2, rfl, ⟨q1, q2, q3, q4, q5⟩, e2⟩ := iv_ast (len := 1) (x := x) (y := y) he
    cases e2
    exact sm_last hx hb hK hdg q1 q2 q3 q4 q5 k
  case aastore =>
    subst hr
    obtain ⟨b, i, a, st2, rfl, ⟨q1, q2, q3, q4, q5, q6, q7⟩, e2⟩ := iv_aast (len := 1) (x := x) (y := y) he
    cases e2
    rcases (show (h.2.2 a).1 = 4 ∨ (h.2.2 a).1 = 5 ∨ (h.2.2 a).1 = 6 by omega) with g | g | g
    · exact sm_aast (ci := 0) (r := (RX0, TX0, 11)) hx hb hK hdg q1 q2 (by omega) q4 rfl (by rw [g]; rfl) (by rw [q5, g]; rfl) q6 q7 k
    · exact sm_aast (ci := 2) (r := (RX2, TX2, 7)) hx hb hK hdg q1 q2 (by omega) q4 rfl (by rw [g]; rfl) (by rw [q5, g]; rfl) q6 q7 k
    · exact sm_aast (ci := 3) (r := (RX3, TX3, 5)) hx hb hK hdg q1 q2 (by omega) q4 rfl (by rw [g]; rfl) (by rw [q5, g]; rfl) q6 q7 k
  case arraylength =>
    subst hr
    obtain ⟨a, st2, rfl, ⟨q1, q2⟩, e2⟩ := iv_len (len := 1) (x := x) (y := y) he
    cases e2
    exact sm_len hx hb hK hdg q1 q2 k
  case new i =>
    obtain ⟨rfl, C, T, tyf, f1, f4, f5, f7, f8, f9, f10⟩ := hr
    cases he
    exact sm_new tyf hx hb hown hts hK hA hdg f1 f4 f5 f7 f8 f9 f10 hrc hrs k
  case newarray at9 =>
    obtain ⟨rfl, f1, f2⟩ := hr
    obtain ⟨n, st2, rfl, ⟨q1, q2, q3, q4⟩, e2⟩ := iv_newa (len := 2) (x := x) (y := y) he
    cases e2
    exact sm_newa hx hb hts hK hA hdg (by omega) f1 f2 q1 q2 hrc hrs k
  case anewarray i =>
    obtain ⟨rfl, C, f1, f2⟩ := hr
    obtain ⟨n, st2, rfl, ⟨q1, q2, q3, q4⟩, e2⟩ := iv_newa (len := 3) (x := x) (y := y) he
    cases e2
    exact sm_newq hx hb hown hts hK hA hdg q3 (by omega) f1 f2 (am_AO.at hO q3 (by omega) f1) q1 q2 hrc hrs k
  case multianewarray i d =>
    obtain ⟨rfl, rfl, f1, f3⟩ := hr
    obtain ⟨k9, n, st2, rfl, ⟨q1, q2, q3, q4⟩, e2⟩ := iv_mna (len := 4) (x := x) (y := y) he
    cases e2
    exact sm_mna hx hb hown hts hK hA hdg f1 hO.2.2.2 f3 q1 q2 q3 q4 hrc hrs k
  case dup =>
    subst hr
    obtain ⟨v, st2, rfl, q, e2⟩ := iv_dup (len := 1) (x := x) (y := y) he
    cases e2
    exact sm_stk (us := [v]) (us2 := [v, v]) (fun q w hw => q w (by simpa using hw)) (fun ad H locs LS k z rest _ w => lv_dup hx hb hdg (am_is02 q) w) k
  case dup2 =>
    subst hr
    obtain ⟨v, w9, st2, rfl, q, e2⟩ := iv_dup2 (len := 1) (x := x) (y := y) he
    cases e2
    rw [Bool.and_eq_true] at q
    exact sm_stk (us := [v, w9]) (us2 := [v, w9, v, w9]) (fun q w hw => q w (by simp at hw ⊢; rcases hw with h | h | h | h <;> simp [h])) (fun ad H locs LS k z rest _ w => lv_dup2_11 hx hb hdg (am_is02 q.1) (am_is02 q.2) w) k
  case pop =>
    subst hr
    obtain ⟨v, st2, rfl, q, e2⟩ := iv_pop (len := 1) (x := x) (y := y) he
    obtain ⟨z, rfl⟩ := am_is0 q
    cases e2
    exact sm_stk (us := [vI z]) (us2 := []) (fun _ w hw => by simp at hw) (fun ad H locs LS k z rest _ w => lv_pop hx hb hdg rfl w) k
  case pop2 =>
    subst hr
    obtain ⟨v, st2, rfl, q, e2⟩ := iv_pop (len := 1) (x := x) (y := y) he
    obtain ⟨z, rfl⟩ := am_is1 q
    cases e2
    exact sm_stk (us := [vL z]) (us2 := []) (fun _ w hw => by simp at hw) (fun ad H locs LS k z rest _ w => lv_pop2_2 hx hb hdg rfl w) k
  case invokevirtual i =>
    obtain ⟨rfl, g1, g2⟩ := hr
    rcases iv_inv (len := 3) (x := x) (y := y) he with ⟨q, -⟩ | ⟨q, -⟩ | ⟨-, -, -, -, -, e2⟩
    · exact absurd q g1
    · exact absurd q g2
    · cases e2
  case invokestatic i =>
    obtain ⟨rfl, g1, g2⟩ := hr
    rcases iv_inv (len := 3) (x := x) (y := y) he with ⟨q, -⟩ | ⟨q, e2⟩ | ⟨-, -, -, -, -, e2⟩
    · exact absurd q g1
    · obtain ⟨f1, f2, f3, f4, f5, f6⟩ := g2 q
      obtain ⟨n, dp, b, sp, a, rfl, ⟨q1, q2, q3, q4, q5, q6, q7, q8, q9⟩, e3⟩ := iv_acopy (len := 3) (x := x) (y := y) e2
      cases e3
      exact sm_copy hx hb hml hown hts hK hdg f1 f2 f3 f4 f5 f6 q1 q2 q3 q4 q5 q6 q7 q8 q9 k
    · cases e2
  case invokespecial i =>
    obtain ⟨rfl, g1, g2⟩ := hr
    rcases iv_inv (len := 3) (x := x) (y := y) he with ⟨q, a, rfl, e2⟩ | ⟨q, -⟩ | ⟨-, -, -, -, -, e2⟩
    · obtain ⟨f1, f2, f3, f4, f5⟩ := g2 q
      cases e2
      exact sm_obj hx hb hml hown hts hdg f1 f2 f3 f4 f5 k
    · exact absurd q g1
    · cases e2
  case ireturn =>
    obtain ⟨v, -, -, e2⟩ := iv_ret (len := len) (x := x) (y := y) he
    cases e2
  case lreturn =>
    obtain ⟨v, -, -, e2⟩ := iv_ret (len := len) (x := x) (y := y) he
    cases e2
  case return_ =>
    obtain ⟨-, e2⟩ := iv_retv (len := len) (x := x) (y := y) he
    cases e2
  all_goals exact absurd hr id
end SM
