/-! Every step, by its instruction. -/
/-- the array classes over the claim's classes and over int[] -/
def am_AO (U : State) : Prop := va_AO "StrandBoxes$Boxes" U ∧ va_AO "StrandBoxes$Halves" U ∧ va_AO "StrandBoxes$Sum" U ∧ va_AOA .int U
theorem am_AO.at {U : State} {x : Nat} {C : String} (h : am_AO U) (h4 : 4 ≤ x) (h7 : x < 7) (hC : am_ty x = .object C) : va_AO C U := by
  rcases (show x = 4 ∨ x = 5 ∨ x = 6 by omega) with rfl | rfl | rfl
  · cases hC
    exact h.1
  · cases hC
    exact h.2.1
  · cases hC
    exact h.2.2.1
theorem am_ao_vm {ty : FieldType} {u U : State} (e : u.vm = U.vm) (h : (Cond.arrayOver ty).before #[] u = true) : (Cond.arrayOver ty).before #[] U = true := by
  unfold Cond.before Cond.holds at h ⊢
  simp only [Cond.value] at h ⊢
  rw [← e]
  exact h
theorem am_ao_warm {ty : FieldType} {s U : State} (hW : s.WarmedH U.vm) (h : (Cond.arrayOver ty).before #[] s = true) : (Cond.arrayOver ty).before #[] U = true := am_ao_vm (u := s.setVm U.vm) rfl (by rw [Cond.arrayOver_setVmC hW.alike]; exact h)
theorem am_AO.warm {s U : State} (hW : s.WarmedH U.vm) (h : am_AO s) : am_AO U := ⟨am_ao_warm hW h.1, am_ao_warm hW h.2.1, am_ao_warm hW h.2.2.1, am_ao_warm hW h.2.2.2⟩
theorem am_AO.same {u U : State} (e : u.vm = U.vm) (h : am_AO u) : am_AO U := ⟨am_ao_vm e h.1, am_ao_vm e h.2.1, am_ao_vm e h.2.2.1, am_ao_vm e h.2.2.2⟩
theorem am_is0 {v : am_V} (h : am_is 0 v = true) : ∃ x, v = vI x := by
  rcases v with (x | x) | _ | _ | a
  · exact ⟨x, rfl⟩
  · cases h
  · cases h
  · cases h
  · cases h
theorem am_is1 {v : am_V} (h : am_is 1 v = true) : ∃ x, v = vL x := by
  rcases v with (x | x) | _ | _ | a
  · cases h
  · exact ⟨x, rfl⟩
  · cases h
  · cases h
  · cases h
theorem am_is2 {v : am_V} (h : am_is 2 v = true) : ∃ a, v = vR a := by
  rcases v with (x | x) | _ | _ | a
  · cases h
  · cases h
  · cases h
  · cases h
  · exact ⟨a, rfl⟩
theorem am_is02 {ad : Nat → Nat} {v : am_V} (h : (am_is 0 v || am_is 2 v) = true) : (am_cv ad v).category = 1 := by
  rcases v with (x | x) | _ | _ | a
  · rfl
  · cases h
  · cases h
  · cases h
  · rfl
theorem am_div_inv {a b z : Int} (h : am_div a b = some z) : b ≠ 0 ∧ z = am_w (a.tdiv b) := by
  unfold am_div at h
  split at h
  · cases h
  · rename_i q
    exact ⟨q, (Option.some.inj h).symm⟩
theorem am_rem_inv {a b z : Int} (h : am_rem a b = some z) : b ≠ 0 ∧ z = a.tmod b := by
  unfold am_rem at h
  split at h
  · cases h
  · rename_i q
    exact ⟨q, (Option.some.inj h).symm⟩
theorem am_divl_inv {a b z : Int} (h : am_divl a b = some z) : b ≠ 0 ∧ z = am_wl (a.tdiv b) := by
  unfold am_divl at h
  split at h
  · cases h
  · rename_i q
    exact ⟨q, (Option.some.inj h).symm⟩
/-- what a row of code says beside its instruction, and what it needs of the tables -/
def am_rk (ft : am_ft) (own : String) (ini : Prop) (Ts : List Cond) (R : Room) (pc : Nat) (row : am_I) : Prop := match row with
  | (.iconst n, len, _, _) => len = 1 ∧ am_r32 n
  | (.bipush n, len, _, _) => len = 2 ∧ am_r32 n ∧ (Int8.ofInt n).toInt32 = Int32.ofInt n
  | (.sipush n, len, _, _) => len = 3 ∧ am_r32 n ∧ (Int16.ofInt n).toInt32 = Int32.ofInt n
  | (.lconst _, len, _, _) => len = 1
  | (.ldc i, len, x, y) => len = 2 ∧ am_r32 (am_cst x y) ∧ Cond.constant own i (Int32.ofInt (am_cst x y)) ∈ Ts
  | (.ldc2_w i, len, x, y) => len = 3 ∧ am_r64 (am_cst x y) ∧ Cond.constantLong own i (Int64.ofInt (am_cst x y)) ∈ Ts
  | (.iload_n _, len, _, _) => len = 1
  | (.iload _, len, _, _) => len = 2
  | (.lload_n _, len, _, _) => len = 1
  | (.lload _, len, _, _) => len = 2
  | (.aload_n _, len, _, _) => len = 1
  | (.aload _, len, _, _) => len = 2
  | (.istore_n _, len, _, _) => len = 1
  | (.istore _, len, _, _) => len = 2
  | (.lstore_n _, len, _, _) => len = 1
  | (.lstore _, len, _, _) => len = 2
  | (.astore_n _, len, _, _) => len = 1
  | (.astore _, len, _, _) => len = 2
  | (.iinc _ _, len, _, _) => len = 3
  | (.ifCond _ off, len, x, _) => len = 3 ∧ (pc : Int) + off = (x : Int)
  | (.if_icmp _ off, len, x, _) => len = 3 ∧ (pc : Int) + off = (x : Int)
  | (.goto off, len, x, _) => len = 3 ∧ (pc : Int) + off = (x : Int)
  | (.tableswitch d _ _ offs, _, _, _) => 0 ≤ (pc : Int) + d ∧ ∀ o ∈ offs.toList, 0 ≤ (pc : Int) + o
  | (.getfield i, len, x, y) => len = 3 ∧ am_fl own i x y Ts
  | (.putfield i, len, x, y) => len = 3 ∧ ∃ (C : String) (T : u_T) (N : Nat) (tyf : Nat → FieldType), vwCl[x]? = some (C, T, N) ∧ y < N ∧ Cond.fieldLink own i (T y).1 (T y).2.1 (T y).2.2.1 ∈ Ts ∧ (∀ w ∈ u_ws C T N, w ∈ Ts) ∧ (∀ k, k < N → parseFieldDescriptor (T k).2.2.1 = some (tyf k)) ∧ (∀ a, a < N → ∀ b, b < N → a ≠ b → (T a).2.1 ≠ (T b).2.1) ∧ am_tk (ft x y) (tyf y) = true ∧ ((T y).2.2.2 = false ∨ ((T y).2.2.2 = true ∧ ini ∧ (T y).1 = own))
  | (.new i, len, x, y) => len = 3 ∧ ∃ (C : String) (T : u_T) (tyf : Nat → FieldType), vwCl[x]? = some (C, T, y) ∧ (∀ w ∈ u_ws C T y, w ∈ Ts) ∧ (∀ k, k < y → parseFieldDescriptor (T k).2.2.1 = some (tyf k)) ∧ (∀ k, k < y → am_tk (ft x k) (tyf k) = true) ∧ Cond.classLink own i C ∈ Ts ∧ Cond.instantiable C y ∈ Ts ∧ Cond.initialized C ∈ Ts
  | (.newarray at9, len, x, _) => len = 2 ∧ newarray.typeOf at9 = am_ty x ∧ Cond.arrayClass (newarray.typeOf at9) ∈ Ts
  | (.anewarray i, len, x, _) => len = 3 ∧ ∃ C, am_ty x = .object C ∧ Cond.classLink own i C ∈ Ts
  | (.multianewarray i d, len, _, _) => len = 4 ∧ d = 2 ∧ Cond.classLink own i ("[" ++ (FieldType.array .int).toString) ∈ Ts ∧ Cond.arrayClass .int ∈ Ts
  | (.invokevirtual _, len, x, _) => len = 3 ∧ x ≠ 900 ∧ x ≠ 901
  | (.invokestatic i, len, x, _) => len = 3 ∧ x ≠ 900 ∧ (x = 901 → Cond.methodLink own i arraycopyName ∈ Ts ∧ Cond.native arraycopyName ∈ Ts ∧ Cond.static arraycopyName ∈ Ts ∧ Cond.initialized "java/lang/System" ∈ Ts ∧ 1 ≤ R.frames ∧ nativeFrameWords "java/lang/System" "arraycopy" 5 + 11 ≤ R.locals)
  | (.invokespecial i, len, x, _) => len = 3 ∧ x ≠ 901 ∧ (x = 900 → Cond.methodLink own i Lib.objectInit ∈ Ts ∧ Cond.instanceMethod Lib.objectInit ∈ Ts ∧ Cond.code Lib.objectInit ⟨#[0xb1]⟩ 1 none ∈ Ts ∧ 1 ≤ R.frames ∧ 12 ≤ R.locals)
  | (.iadd, len, _, _) => len = 1
  | (.isub, len, _, _) => len = 1
  | (.imul, len, _, _) => len = 1
  | (.idiv, len, _, _) => len = 1
  | (.irem, len, _, _) => len = 1
  | (.ineg, len, _, _) => len = 1
  | (.iand, len, _, _) => len = 1
  | (.ixor, len, _, _) => len = 1
  | (.ishl, len, _, _) => len = 1
  | (.ishr, len, _, _) => len = 1
  | (.ladd, len, _, _) => len = 1
  | (.lmul, len, _, _) => len = 1
  | (.ldiv, len, _, _) => len = 1
  | (.lneg, len, _, _) => len = 1
  | (.land, len, _, _) => len = 1
  | (.lor, len, _, _) => len = 1
  | (.lshl, len, _, _) => len = 1
  | (.lshr, len, _, _) => len = 1
  | (.lushr, len, _, _) => len = 1
  | (.lcmp, len, _, _) => len = 1
  | (.i2l, len, _, _) => len = 1
  | (.l2i, len, _, _) => len = 1
  | (.iaload, len, _, _) => len = 1
  | (.baload, len, _, _) => len = 1
  | (.laload, len, _, _) => len = 1
  | (.aaload, len, _, _) => len = 1
  | (.iastore, len, _, _) => len = 1
  | (.bastore, len, _, _) => len = 1
  | (.lastore, len, _, _) => len = 1
  | (.aastore, len, _, _) => len = 1
  | (.arraylength, len, _, _) => len = 1
  | (.dup, len, _, _) => len = 1
  | (.dup2, len, _, _) => len = 1
  | (.pop, len, _, _) => len = 1
  | (.pop2, len, _, _) => len = 1
  | (.ireturn, len, _, _) => len = 1
  | (.lreturn, len, _, _) => len = 1
  | (.return_, len, _, _) => len = 1
  | _ => False
section SM
variable {p : Program} {l : Launch} {e : Env} {R : Room} {s : State} {m : MethodId} {args : Array Value} {below : List Frame} {meth : Method} {c : Code} {Q : State → Prop} {D : va_G} {ca : Nat → ClassId} {ft : am_ft} {A : Nat → Prop} {n0 z0 : Nat} {ad0 : Nat → Nat} {nL : Nat} {cc : ByteArray}
set_option maxHeartbeats 4000000 in
theorem am_sim {own : String} {Ts : List Cond} {ins : Instr} {len x y pc : Nat} {ls st : List am_V} {h : am_H} {t : am_S} (hx : p.tables.exec = Jvm.exec) (hb : c.code = cc) (hml : c.maxLocals = nL) (hown : s.vm.findClass own = some m.cls) (hts : ∀ w ∈ Ts, w.before args s = true) (hK : va_K D vwCl (am_tys ca) s) (hO : am_AO s) (hA : ∀ q, s.heap.size ≤ q → A q) (hdg : decode cc pc = .ok (ins, len)) (hr : am_rk ft own (meth.name = "<init>") Ts R pc (ins, len, x, y))
    (he : am_sem ft ins len x y (pc, ls, st, h) = some (.inl t)) (hrc : t.2.2.2.1 - n0 ≤ R.cells) (hrs : t.2.2.2.2.1 - z0 ≤ R.slots) (k : am_G p l e R s m args below meth c Q D ca ft A n0 z0 ad0 nL t) : am_G p l e R s m args below meth c Q D ca ft A n0 z0 ad0 nL (pc, ls, st, h) := by
  cases ins
  case iconst n =>
    obtain ⟨rfl, hn⟩ := hr
    cases he
    exact sm_push (v := vI n) hn (fun ad H locs LS k z rest w => lv_iconst hx hb hdg rfl w) k
  case bipush n =>
    obtain ⟨rfl, hn, h8⟩ := hr
    cases he
    exact sm_push (v := vI n) hn (fun ad H locs LS k z rest w => lv_bipush hx hb hdg h8 w) k
  case sipush n =>
    obtain ⟨rfl, hn, h8⟩ := hr
    cases he
    exact sm_push (v := vI n) hn (fun ad H locs LS k z rest w => lv_sipush hx hb hdg h8 w) k
  case lconst n =>
    subst hr
    cases he
    refine sm_push (v := vL (n.val : Int)) (show am_r64 (n.val : Int) by unfold am_r64; have := n.isLt; omega) (fun ad H locs LS k z rest w => lv_lconst hx hb hdg (v := Int64.ofInt (n.val : Int)) ?_ w) k
    rcases n with ⟨n, hn⟩
    rcases (show n = 0 ∨ n = 1 by omega) with rfl | rfl
    · exact (by decide : Int64.ofNat 0 = Int64.ofInt 0)
    · exact (by decide : Int64.ofNat 1 = Int64.ofInt 1)
  case ldc i =>
    obtain ⟨rfl, hn, h8⟩ := hr
    cases he
    exact sm_push (v := vI (am_cst x y)) hn (fun ad H locs LS k z rest w => lv_ldc hx hb hown (hts _ h8) hdg w) k
  case ldc2_w i =>
    obtain ⟨rfl, hn, h8⟩ := hr
    cases he
    exact sm_push (v := vL (am_cst x y)) hn (fun ad H locs LS k z rest w => lv_ldc2 hx hb hown (hts _ h8) hdg w) k
  case iload_n i =>
    subst hr
    obtain ⟨v, h1, h2, e2⟩ := iv_load (len := 1) (x := x) (y := y) he
    obtain ⟨z, rfl⟩ := am_is0 h2
    cases e2
    exact sm_load h1 (fun q => by cases q) (fun ad H locs LS k z rest q w => lv_iload_n hx hb hdg rfl q w) k
  case iload i =>
    subst hr
    obtain ⟨v, h1, h2, e2⟩ := iv_load (len := 2) (x := x) (y := y) he
    obtain ⟨z, rfl⟩ := am_is0 h2
    cases e2
    exact sm_load h1 (fun q => by cases q) (fun ad H locs LS k z rest q w => lv_iload hx hb hdg q w) k
  case lload_n i =>
    subst hr
    obtain ⟨v, h1, h2, e2⟩ := iv_load (len := 1) (x := x) (y := y) he
    obtain ⟨z, rfl⟩ := am_is1 h2
    cases e2
    exact sm_load h1 (fun q => by cases q) (fun ad H locs LS k z rest q w => lv_lload_n hx hb hdg rfl q w) k
  case lload i =>
    subst hr
    obtain ⟨v, h1, h2, e2⟩ := iv_load (len := 2) (x := x) (y := y) he
    obtain ⟨z, rfl⟩ := am_is1 h2
    cases e2
    exact sm_load h1 (fun q => by cases q) (fun ad H locs LS k z rest q w => lv_lload hx hb hdg q w) k
  case aload_n i =>
    subst hr
    obtain ⟨v, h1, h2, e2⟩ := iv_load (len := 1) (x := x) (y := y) he
    obtain ⟨z, rfl⟩ := am_is2 h2
    cases e2
    exact sm_load h1 (fun q => by cases q) (fun ad H locs LS k z rest q w => lv_aload_n hx hb hdg rfl q w) k
  case aload i =>
    subst hr
    obtain ⟨v, h1, h2, e2⟩ := iv_load (len := 2) (x := x) (y := y) he
    obtain ⟨z, rfl⟩ := am_is2 h2
    cases e2
    exact sm_load h1 (fun q => by cases q) (fun ad H locs LS k z rest q w => lv_aload hx hb hdg q w) k
  case istore_n i =>
    subst hr
    obtain ⟨v, st2, rfl, h2, h3, e2⟩ := iv_stor (len := 1) (x := x) (y := y) he
    obtain ⟨z, rfl⟩ := am_is0 h2
    cases e2
    exact sm_stor h3 (fun ad H locs LS k z rest q w => lv_istore_n hx hb hdg rfl q h3 rfl w) k
  case istore i =>
    subst hr
    obtain ⟨v, st2, rfl, h2, h3, e2⟩ := iv_stor (len := 2) (x := x) (y := y) he
    obtain ⟨z, rfl⟩ := am_is0 h2
    cases e2
    exact sm_stor h3 (fun ad H locs LS k z rest q w => lv_istore hx hb hdg q h3 rfl w) k
  case astore_n i =>
    subst hr
    obtain ⟨v, st2, rfl, h2, h3, e2⟩ := iv_stor (len := 1) (x := x) (y := y) he
    obtain ⟨z, rfl⟩ := am_is2 h2
    cases e2
    exact sm_stor h3 (fun ad H locs LS k z rest q w => lv_astore_n hx hb hdg rfl q h3 rfl w) k
  case astore i =>
    subst hr
    obtain ⟨v, st2, rfl, h2, h3, e2⟩ := iv_stor (len := 2) (x := x) (y := y) he
    obtain ⟨z, rfl⟩ := am_is2 h2
    cases e2
    exact sm_stor h3 (fun ad H locs LS k z rest q w => lv_astore hx hb hdg q h3 rfl w) k
  case lstore_n i =>
    subst hr
    obtain ⟨z, st2, rfl, h3, e2⟩ := iv_storl (len := 1) (x := x) (y := y) he
    cases e2
    exact sm_storl h3 (fun ad H locs LS k z rest q w => lv_lstore_n hx hb hdg rfl q h3 rfl w) k
  case lstore i =>
    subst hr
    obtain ⟨z, st2, rfl, h3, e2⟩ := iv_storl (len := 2) (x := x) (y := y) he
    cases e2
    exact sm_storl h3 (fun ad H locs LS k z rest q w => lv_lstore hx hb hdg q h3 rfl w) k
  case iinc i n =>
    subst hr
    obtain ⟨z, h1, e2⟩ := iv_iinc (len := 3) (x := x) (y := y) he
    cases e2
    exact sm_iinc hx hb hdg h1 k
  case iadd =>
    subst hr
    obtain ⟨a, b, z, st2, rfl, hf, e2⟩ := iv_bin (len := 1) (x := x) (y := y) he
    cases hf
    cases e2
    exact sm_bin (g := fun x y => x + y) (fun _ _ => ⟨am_w_r _, am_o_add _ _⟩) (fun H locs LS k z rest _ _ w => lv_iadd hx hb hdg w) k
  case isub =>
    subst hr
    obtain ⟨a, b, z, st2, rfl, hf, e2⟩ := iv_bin (len := 1) (x := x) (y := y) he
    cases hf
    cases e2
    exact sm_bin (g := fun x y => x - y) (fun _ _ => ⟨am_w_r _, am_o_sub _ _⟩) (fun H locs LS k z rest _ _ w => lv_isub hx hb hdg w) k
  case imul =>
    subst hr
    obtain ⟨a, b, z, st2, rfl, hf, e2⟩ := iv_bin (len := 1) (x := x) (y := y) he
    cases hf
    cases e2
    exact sm_bin (g := fun x y => x * y) (fun _ _ => ⟨am_w_r _, am_o_mul _ _⟩) (fun H locs LS k z rest _ _ w => lv_imul hx hb hdg w) k
  case iand =>
    subst hr
    obtain ⟨a, b, z, st2, rfl, hf, e2⟩ := iv_bin (len := 1) (x := x) (y := y) he
    cases hf
    cases e2
    exact sm_bin (g := fun x y => x &&& y) (fun _ _ => ⟨am_rI _, Int32.ofInt_toInt _⟩) (fun H locs LS k z rest _ _ w => lv_iand hx hb hdg w) k
  case ixor =>
    subst hr
    obtain ⟨a, b, z, st2, rfl, hf, e2⟩ := iv_bin (len := 1) (x := x) (y := y) he
    cases hf
    cases e2
    exact sm_bin (g := fun x y => x ^^^ y) (fun _ _ => ⟨am_rI _, Int32.ofInt_toInt _⟩) (fun H locs LS k z rest _ _ w => lv_ixor hx hb hdg w) k
  case ishl =>
    subst hr
    obtain ⟨a, b, z, st2, rfl, hf, e2⟩ := iv_bin (len := 1) (x := x) (y := y) he
    cases hf
    cases e2
    exact sm_bin (g := fun x y => x <<< (y &&& 31)) (fun _ _ => ⟨am_rI _, Int32.ofInt_toInt _⟩) (fun H locs LS k z rest _ _ w => lv_ishl hx hb hdg w) k
  case ishr =>
    subst hr
    obtain ⟨a, b, z, st2, rfl, hf, e2⟩ := iv_bin (len := 1) (x := x) (y := y) he
    cases hf
    cases e2
    exact sm_bin (g := fun x y => x >>> (y &&& 31)) (fun _ _ => ⟨am_rI _, Int32.ofInt_toInt _⟩) (fun H locs LS k z rest _ _ w => lv_ishr hx hb hdg w) k
  case idiv =>
    subst hr
    obtain ⟨a, b, z, st2, rfl, hf, e2⟩ := iv_bin (len := 1) (x := x) (y := y) he
    obtain ⟨hne, rfl⟩ := am_div_inv hf
    cases e2
    exact sm_bin (g := fun x y => x / y) (fun q1 q2 => ⟨am_w_r _, am_o_div q1 q2⟩) (fun H locs LS k z rest q1 q2 w => lv_idiv hx hb hdg (fun q => hne ((am_o_eq q2 am_0r).mp q)) w) k
  case irem =>
    subst hr
    obtain ⟨a, b, z, st2, rfl, hf, e2⟩ := iv_bin (len := 1) (x := x) (y := y) he
    obtain ⟨hne, rfl⟩ := am_rem_inv hf
    cases e2
    exact sm_bin (g := fun x y => x - x / y * y) (fun q1 q2 => ⟨am_tmod_r q1, am_o_rem q1 q2⟩) (fun H locs LS k z rest q1 q2 w => lv_irem hx hb hdg (fun q => hne ((am_o_eq q2 am_0r).mp q)) w) k
  case ineg =>
    subst hr
    obtain ⟨a, st2, rfl, e2⟩ := iv_un (len := 1) (x := x) (y := y) he
    cases e2
    exact sm_stk (us := [vI a]) (us2 := [vI (am_w (-a))]) (fun _ w hw => by rw [List.mem_singleton.mp hw]; exact am_w_r _) (fun ad H locs LS k z rest q w => lv_ineg hx hb hdg (by rw [← am_o_neg]; exact w)) k
  case ladd =>
    subst hr
    obtain ⟨a, b, z, st2, rfl, hf, e2⟩ := iv_binl (len := 1) (x := x) (y := y) he
    cases hf
    cases e2
    exact sm_binl (g := fun x y => x + y) (fun _ _ => ⟨am_wl_r _, am_l_add _ _⟩) (fun H locs LS k z rest _ _ w => lv_ladd hx hb hdg w) k
  case lmul =>
    subst hr
    obtain ⟨a, b, z, st2, rfl, hf, e2⟩ := iv_binl (len := 1) (x := x) (y := y) he
    cases hf
    cases e2
    exact sm_binl (g := fun x y => x * y) (fun _ _ => ⟨am_wl_r _, am_l_mul _ _⟩) (fun H locs LS k z rest _ _ w => lv_lmul hx hb hdg w) k
  case land =>
    subst hr
    obtain ⟨a, b, z, st2, rfl, hf, e2⟩ := iv_binl (len := 1) (x := x) (y := y) he
    cases hf
    cases e2
    exact sm_binl (g := fun x y => x &&& y) (fun _ _ => ⟨am_rL _, Int64.ofInt_toInt _⟩) (fun H locs LS k z rest _ _ w => lv_land hx hb hdg w) k
  case lor =>
    subst hr
    obtain ⟨a, b, z, st2, rfl, hf, e2⟩ := iv_binl (len := 1) (x := x) (y := y) he
    cases hf
    cases e2
    exact sm_binl (g := fun x y => x ||| y) (fun _ _ => ⟨am_rL _, Int64.ofInt_toInt _⟩) (fun H locs LS k z rest _ _ w => lv_lor hx hb hdg w) k
  case ldiv =>
    subst hr
    obtain ⟨a, b, z, st2, rfl, hf, e2⟩ := iv_binl (len := 1) (x := x) (y := y) he
    obtain ⟨hne, rfl⟩ := am_divl_inv hf
    cases e2
    exact sm_binl (g := fun x y => x / y) (fun q1 q2 => ⟨am_wl_r _, am_l_div q1 q2⟩) (fun H locs LS k z rest q1 q2 w => lv_ldiv hx hb hdg (fun q => hne ((am_l_eq q2 am_0l).mp q)) w) k
  case lneg =>
    subst hr
    obtain ⟨a, st2, rfl, e2⟩ := iv_unl (len := 1) (x := x) (y := y) he
    cases e2
    exact sm_stk (us := [vL a]) (us2 := [vL (am_wl (-a))]) (fun _ w hw => by rw [List.mem_singleton.mp hw]; exact am_wl_r _) (fun ad H locs LS k z rest q w => lv_lneg hx hb hdg (by rw [← am_l_neg]; exact w)) k
  case lshl =>
    subst hr
    obtain ⟨a, b, z, st2, rfl, hf, e2⟩ := iv_shl (len := 1) (x := x) (y := y) he
    cases hf
    cases e2
    exact sm_shl (g := fun x y => x <<< (y.toInt64 &&& 63)) (Int64.ofInt_toInt _) (am_rL _) (fun H locs LS k z rest w => lv_lshl hx hb hdg rfl w) k
  case lshr =>
    subst hr
    obtain ⟨a, b, z, st2, rfl, hf, e2⟩ := iv_shl (len := 1) (x := x) (y := y) he
    cases hf
    cases e2
    exact sm_shl (g := fun x y => x >>> (y.toInt64 &&& 63)) (Int64.ofInt_toInt _) (am_rL _) (fun H locs LS k z rest w => lv_lshr hx hb hdg rfl w) k
  case lushr =>
    subst hr
    obtain ⟨a, b, z, st2, rfl, hf, e2⟩ := iv_shl (len := 1) (x := x) (y := y) he
    cases hf
    cases e2
    exact sm_shl (g := fun x y => (x.toUInt64 >>> (y.toInt64.toUInt64 &&& Int64.toUInt64 63)).toInt64) (Int64.ofInt_toInt _) (am_rL _) (fun H locs LS k z rest w => lv_lushr hx hb hdg rfl w) k
  case lcmp =>
    subst hr
    obtain ⟨b, a, st2, rfl, e2⟩ := iv_lcmp (len := 1) (x := x) (y := y) he
    cases e2
    exact sm_stk (us := [vL b, vL a]) (us2 := [vI (if a < b then -1 else if a = b then 0 else 1)]) (fun _ w hw => by rw [List.mem_singleton.mp hw]; show am_r32 _; unfold am_r32; split <;> (try split) <;> omega) (fun ad H locs LS k z rest q w => W.lcmp hx hb hdg (by rw [← am_o_cmp (q (vL a) (by simp)) (q (vL b) (by simp))]; exact w)) k
  case i2l =>
    subst hr
    obtain ⟨a, st2, rfl, e2⟩ := iv_i2l (len := 1) (x := x) (y := y) he
    cases e2
    exact sm_stk (us := [vI a]) (us2 := [vL a]) (fun q w hw => by rw [List.mem_singleton.mp hw]; exact am_32_64 (q (vI a) (by simp))) (fun ad H locs LS k z rest q w => lv_i2l hx hb hdg (am_o_i2l (q (vI a) (by simp))) w) k
  case l2i =>
    subst hr
    obtain ⟨a, st2, rfl, e2⟩ := iv_l2i (len := 1) (x := x) (y := y) he
    cases e2
    exact sm_stk (us := [vL a]) (us2 := [vI (am_w a)]) (fun q w hw => by rw [List.mem_singleton.mp hw]; exact am_w_r _) (fun ad H locs LS k z rest q w => lv_l2i hx hb hdg (am_o_l2i a) w) k
  case ifCond cnd off =>
    obtain ⟨rfl, ht⟩ := hr
    obtain ⟨a, st2, rfl, e2⟩ := iv_if (len := 3) (x := x) (y := y) he
    cases e2
    exact sm_if hx hb hdg ht k
  case if_icmp cnd off =>
    obtain ⟨rfl, ht⟩ := hr
    obtain ⟨b, a, st2, rfl, e2⟩ := iv_icmp (len := 3) (x := x) (y := y) he
    cases e2
    exact sm_icmp hx hb hdg ht k
  case goto off =>
    obtain ⟨rfl, ht⟩ := hr
    cases he
    exact sm_goto hx hb hdg ht k
  case tableswitch d lo hi offs =>
    obtain ⟨h0, h8⟩ := hr
    obtain ⟨a, st2, rfl, e2⟩ := iv_sw (len := len) (x := x) (y := y) he
    rcases e2 with ⟨q, e2⟩ | ⟨q, o, ho, e2⟩
    · cases e2
      exact sm_sw1 hx hb hdg q h0 k
    · cases e2
      exact sm_sw2 hx hb hdg q ho (h8 o (by rw [← Array.getElem?_toList] at ho; exact List.mem_of_getElem? ho)) k
  case getfield i =>
    obtain ⟨rfl, hf⟩ := hr
    obtain ⟨a, st2, rfl, ⟨q1, q2, q3⟩, e2⟩ := iv_gf (len := 3) (x := x) (y := y) he
    cases e2
    exact sm_gf hx hb hown hts hK hdg hf q1 q2 q3 k
  case putfield i =>
    obtain ⟨rfl, C, T, N, tyf, f1, f2, f3, f4, f5, f6, f7, f8⟩ := hr
    obtain ⟨v, a, st2, rfl, ⟨q1, q2, q3, q4⟩, e2⟩ := iv_pf (len := 3) (x := x) (y := y) he
    cases e2
    exact sm_pf tyf hx hb hown hts hK hdg f1 f2 f3 f4 f5 f6 f7 f8 q1 q2 q3 q4 k
  case iaload =>
    subst hr
    obtain ⟨i, a, st2, rfl, ⟨q1, q2, q3, q4⟩, e2⟩ := iv_ald (len := 1) (x := x) (y := y) (ok := fun k => k == 0) he
    cases e2
    exact sm_iald hx hb hK hdg q1 (by simpa using q2) q3 q4 k
  case baload =>
    subst hr
    obtain ⟨i, a, st2, rfl, ⟨q1, q2, q3, q4⟩, e2⟩ := iv_ald (len := 1) (x := x) (y := y) (ok := fun k => k == 1) he
    cases e2
    exact sm_zald hx hb hK hdg q1 (by simpa using q2) q3 q4 k
  case laload =>
    subst hr
    obtain ⟨i, a, st2, rfl, ⟨q1, q2, q3, q4⟩, e2⟩ := iv_ald (len := 1) (x := x) (y := y) (ok := fun k => k == 2) he
    cases e2
    exact sm_lald hx hb hK hdg q1 (by simpa using q2) q3 q4 k
  case aaload =>
    subst hr
    obtain ⟨i, a, st2, rfl, ⟨q1, q2, q3, q4⟩, e2⟩ := iv_ald (len := 1) (x := x) (y := y) (ok := fun k => decide (3 ≤ k) && decide (k < 7)) he
    cases e2
    simp only [Bool.and_eq_true, decide_eq_true_eq] at q2
    exact sm_aald hx hb hK hdg q1 q2.1 q2.2 q3 q4 k
  case iastore =>
    subst hr
    obtain ⟨v, i, a, st2, rfl, ⟨q1, q2, q3, q4, q5⟩, e2⟩ := iv_ast (len := 1) (x := x) (y := y) he
    cases e2
    exact sm_iast hx hb hK hdg q1 q2 q3 q4 q5 k
  case bastore =>
    subst hr
    obtain ⟨v, i, a, st2, rfl, ⟨q1, q2, q3, q4, q5⟩, e2⟩ := iv_ast (len := 1) (x := x) (y := y) he
    cases e2
    exact sm_zast hx hb hK hdg q1 q2 q3 q4 q5 k
  case lastore =>
    subst hr
    obtain ⟨v, i, a, st2, rfl, ⟨q1, q2, q3, q4, q5⟩, e2⟩ := iv_ast (len := 1) (x := x) (y := y) he
    cases e2
    exact sm_last hx hb hK hdg q1 q2 q3 q4 q5 k
  case aastore =>
    subst hr
    obtain ⟨b, i, a, st2, rfl, ⟨q1, q2, q3, q4, q5, q6, q7⟩, e2⟩ := iv_aast (len := 1) (x := x) (y := y) he
    cases e2
    rcases (show (h.2.2 a).1 = 4 ∨ (h.2.2 a).1 = 5 ∨ (h.2.2 a).1 = 6 by omega) with g | g | g
    · exact sm_aast (ci := 0) (r := (RX0, TX0, 11)) hx hb hK hdg q1 q2 (by omega) q4 rfl (by rw [g]; rfl) (by rw [q5, g]; rfl) q6 q7 k
    · exact sm_aast (ci := 2) (r := (RX2, TX2, 7)) hx hb hK hdg q1 q2 (by omega) q4 rfl (by rw [g]; rfl) (by rw [q5, g]; rfl) q6 q7 k
    · exact sm_aast (ci := 3) (r := (RX3, TX3, 5)) hx hb hK hdg q1 q2 (by omega) q4 rfl (by rw [g]; rfl) (by rw [q5, g]; rfl) q6 q7 k
  case arraylength =>
    subst hr
    obtain ⟨a, st2, rfl, ⟨q1, q2⟩, e2⟩ := iv_len (len := 1) (x := x) (y := y) he
    cases e2
    exact sm_len hx hb hK hdg q1 q2 k
  case new i =>
    obtain ⟨rfl, C, T, tyf, f1, f4, f5, f7, f8, f9, f10⟩ := hr
    cases he
    exact sm_new tyf hx hb hown hts hK hA hdg f1 f4 f5 f7 f8 f9 f10 hrc hrs k
  case newarray at9 =>
    obtain ⟨rfl, f1, f2⟩ := hr
    obtain ⟨n, st2, rfl, ⟨q1, q2, q3, q4⟩, e2⟩ := iv_newa (len := 2) (x := x) (y := y) he
    cases e2
    exact sm_newa hx hb hts hK hA hdg (by omega) f1 f2 q1 q2 hrc hrs k
  case anewarray i =>
    obtain ⟨rfl, C, f1, f2⟩ := hr
    obtain ⟨n, st2, rfl, ⟨q1, q2, q3, q4⟩, e2⟩ := iv_newa (len := 3) (x := x) (y := y) he
    cases e2
    exact sm_newq hx hb hown hts hK hA hdg q3 (by omega) f1 f2 (am_AO.at hO q3 (by omega) f1) q1 q2 hrc hrs k
  case multianewarray i d =>
    obtain ⟨rfl, rfl, f1, f3⟩ := hr
    obtain ⟨k9, n, st2, rfl, ⟨q1, q2, q3, q4⟩, e2⟩ := iv_mna (len := 4) (x := x) (y := y) he
    cases e2
    exact sm_mna hx hb hown hts hK hA hdg f1 hO.2.2.2 f3 q1 q2 q3 q4 hrc hrs k
  case dup =>
    subst hr
    obtain ⟨v, st2, rfl, q, e2⟩ := iv_dup (len := 1) (x := x) (y := y) he
    cases e2
    exact sm_stk (us := [v]) (us2 := [v, v]) (fun q w hw => q w (by simpa using hw)) (fun ad H locs LS k z rest _ w => lv_dup hx hb hdg (am_is02 q) w) k
  case dup2 =>
    subst hr
    obtain ⟨v, w9, st2, rfl, q, e2⟩ := iv_dup2 (len := 1) (x := x) (y := y) he
    cases e2
    rw [Bool.and_eq_true] at q
    exact sm_stk (us := [v, w9]) (us2 := [v, w9, v, w9]) (fun q w hw => q w (by simp at hw ⊢; rcases hw with h | h | h | h <;> simp [h])) (fun ad H locs LS k z rest _ w => lv_dup2_11 hx hb hdg (am_is02 q.1) (am_is02 q.2) w) k
  case pop =>
    subst hr
    obtain ⟨v, st2, rfl, q, e2⟩ := iv_pop (len := 1) (x := x) (y := y) he
    obtain ⟨z, rfl⟩ := am_is0 q
    cases e2
    exact sm_stk (us := [vI z]) (us2 := []) (fun _ w hw => by simp at hw) (fun ad H locs LS k z rest _ w => lv_pop hx hb hdg rfl w) k
  case pop2 =>
    subst hr
    obtain ⟨v, st2, rfl, q, e2⟩ := iv_pop (len := 1) (x := x) (y := y) he
    obtain ⟨z, rfl⟩ := am_is1 q
    cases e2
    exact sm_stk (us := [vL z]) (us2 := []) (fun _ w hw => by simp at hw) (fun ad H locs LS k z rest _ w => lv_pop2_2 hx hb hdg rfl w) k
  case invokevirtual i =>
    obtain ⟨rfl, g1, g2⟩ := hr
    rcases iv_inv (len := 3) (x := x) (y := y) he with ⟨q, -⟩ | ⟨q, -⟩ | ⟨-, -, -, -, -, e2⟩
    · exact absurd q g1
    · exact absurd q g2
    · cases e2
  case invokestatic i =>
    obtain ⟨rfl, g1, g2⟩ := hr
    rcases iv_inv (len := 3) (x := x) (y := y) he with ⟨q, -⟩ | ⟨q, e2⟩ | ⟨-, -, -, -, -, e2⟩
    · exact absurd q g1
    · obtain ⟨f1, f2, f3, f4, f5, f6⟩ := g2 q
      obtain ⟨n, dp, b, sp, a, rfl, ⟨q1, q2, q3, q4, q5, q6, q7, q8, q9⟩, e3⟩ := iv_acopy (len := 3) (x := x) (y := y) e2
      cases e3
      exact sm_copy hx hb hml hown hts hK hdg f1 f2 f3 f4 f5 f6 q1 q2 q3 q4 q5 q6 q7 q8 q9 k
    · cases e2
  case invokespecial i =>
    obtain ⟨rfl, g1, g2⟩ := hr
    rcases iv_inv (len := 3) (x := x) (y := y) he with ⟨q, a, rfl, e2⟩ | ⟨q, -⟩ | ⟨-, -, -, -, -, e2⟩
    · obtain ⟨f1, f2, f3, f4, f5⟩ := g2 q
      cases e2
      exact sm_obj hx hb hml hown hts hdg f1 f2 f3 f4 f5 k
    · exact absurd q g1
    · cases e2
  case ireturn =>
    obtain ⟨v, -, -, e2⟩ := iv_ret (len := len) (x := x) (y := y) he
    cases e2
  case lreturn =>
    obtain ⟨v, -, -, e2⟩ := iv_ret (len := len) (x := x) (y := y) he
    cases e2
  case return_ =>
    obtain ⟨-, e2⟩ := iv_retv (len := len) (x := x) (y := y) he
    cases e2
  all_goals exact absurd hr id
end SM
/-- a step makes cells, takes none away -/
def am_mr (h : am_H) (r : am_S ⊕ ((Nat × List am_V × am_S) ⊕ (Option am_V × am_H))) : Prop := match r with
  | .inl t => h.1 ≤ t.2.2.2.1 ∧ h.2.1 ≤ t.2.2.2.2.1
  | .inr (.inl q) => q.2.2.2.2.2 = h
  | .inr (.inr q) => q.2 = h
theorem mn_load {k i : Nat} {len x y pc : Nat} {ls st : List am_V} {h : am_H} {r} (e : am_load k i len x y (pc, ls, st, h) = some r) : am_mr h r := by
  obtain ⟨_, _, _, e2⟩ := iv_load e
  rw [e2]
  exact ⟨Nat.le_refl _, Nat.le_refl _⟩
theorem mn_stor {k i : Nat} {len x y pc : Nat} {ls st : List am_V} {h : am_H} {r} (e : am_stor k i len x y (pc, ls, st, h) = some r) : am_mr h r := by
  obtain ⟨_, _, _, _, _, e2⟩ := iv_stor e
  rw [e2]
  exact ⟨Nat.le_refl _, Nat.le_refl _⟩
theorem mn_storl {i : Nat} {len x y pc : Nat} {ls st : List am_V} {h : am_H} {r} (e : am_storl i len x y (pc, ls, st, h) = some r) : am_mr h r := by
  obtain ⟨_, _, _, _, e2⟩ := iv_storl e
  rw [e2]
  exact ⟨Nat.le_refl _, Nat.le_refl _⟩
theorem mn_iinc {i : Nat} {n : Int} {len x y pc : Nat} {ls st : List am_V} {h : am_H} {r} (e : am_iinc i n len x y (pc, ls, st, h) = some r) : am_mr h r := by
  obtain ⟨_, _, e2⟩ := iv_iinc e
  rw [e2]
  exact ⟨Nat.le_refl _, Nat.le_refl _⟩
theorem mn_bin {f : Int → Int → Option Int} {len x y pc : Nat} {ls st : List am_V} {h : am_H} {r} (e : am_bin f len x y (pc, ls, st, h) = some r) : am_mr h r := by
  obtain ⟨_, _, _, _, _, _, e2⟩ := iv_bin e
  rw [e2]
  exact ⟨Nat.le_refl _, Nat.le_refl _⟩
theorem mn_binl {f : Int → Int → Option Int} {len x y pc : Nat} {ls st : List am_V} {h : am_H} {r} (e : am_binl f len x y (pc, ls, st, h) = some r) : am_mr h r := by
  obtain ⟨_, _, _, _, _, _, e2⟩ := iv_binl e
  rw [e2]
  exact ⟨Nat.le_refl _, Nat.le_refl _⟩
theorem mn_shl {f : Int → Int → Option Int} {len x y pc : Nat} {ls st : List am_V} {h : am_H} {r} (e : am_shl f len x y (pc, ls, st, h) = some r) : am_mr h r := by
  obtain ⟨_, _, _, _, _, _, e2⟩ := iv_shl e
  rw [e2]
  exact ⟨Nat.le_refl _, Nat.le_refl _⟩
theorem mn_un {f : Int → Int} {len x y pc : Nat} {ls st : List am_V} {h : am_H} {r} (e : am_un f len x y (pc, ls, st, h) = some r) : am_mr h r := by
  obtain ⟨_, _, _, e2⟩ := iv_un e
  rw [e2]
  exact ⟨Nat.le_refl _, Nat.le_refl _⟩
theorem mn_unl {f : Int → Int} {len x y pc : Nat} {ls st : List am_V} {h : am_H} {r} (e : am_unl f len x y (pc, ls, st, h) = some r) : am_mr h r := by
  obtain ⟨_, _, _, e2⟩ := iv_unl e
  rw [e2]
  exact ⟨Nat.le_refl _, Nat.le_refl _⟩
theorem mn_lcmp {len x y pc : Nat} {ls st : List am_V} {h : am_H} {r} (e : am_lcmp len x y (pc, ls, st, h) = some r) : am_mr h r := by
  obtain ⟨_, _, _, _, e2⟩ := iv_lcmp e
  rw [e2]
  exact ⟨Nat.le_refl _, Nat.le_refl _⟩
theorem mn_i2l {len x y pc : Nat} {ls st : List am_V} {h : am_H} {r} (e : am_i2l len x y (pc, ls, st, h) = some r) : am_mr h r := by
  obtain ⟨_, _, _, e2⟩ := iv_i2l e
  rw [e2]
  exact ⟨Nat.le_refl _, Nat.le_refl _⟩
theorem mn_l2i {len x y pc : Nat} {ls st : List am_V} {h : am_H} {r} (e : am_l2i len x y (pc, ls, st, h) = some r) : am_mr h r := by
  obtain ⟨_, _, _, e2⟩ := iv_l2i e
  rw [e2]
  exact ⟨Nat.le_refl _, Nat.le_refl _⟩
theorem mn_if {cnd : Jvm.ClassFile.Cond} {len x y pc : Nat} {ls st : List am_V} {h : am_H} {r} (e : am_if cnd len x y (pc, ls, st, h) = some r) : am_mr h r := by
  obtain ⟨_, _, _, e2⟩ := iv_if e
  rw [e2]
  exact ⟨Nat.le_refl _, Nat.le_refl _⟩
theorem mn_icmp {cnd : Jvm.ClassFile.Cond} {len x y pc : Nat} {ls st : List am_V} {h : am_H} {r} (e : am_icmp cnd len x y (pc, ls, st, h) = some r) : am_mr h r := by
  obtain ⟨_, _, _, _, e2⟩ := iv_icmp e
  rw [e2]
  exact ⟨Nat.le_refl _, Nat.le_refl _⟩
theorem mn_gf {len x y pc : Nat} {ls st : List am_V} {h : am_H} {r} (e : am_gf len x y (pc, ls, st, h) = some r) : am_mr h r := by
  obtain ⟨_, _, _, _, e2⟩ := iv_gf e
  rw [e2]
  exact ⟨Nat.le_refl _, Nat.le_refl _⟩
theorem mn_pf {ft : am_ft} {len x y pc : Nat} {ls st : List am_V} {h : am_H} {r} (e : am_pf ft len x y (pc, ls, st, h) = some r) : am_mr h r := by
  obtain ⟨_, _, _, _, _, e2⟩ := iv_pf e
  rw [e2]
  exact ⟨Nat.le_refl _, Nat.le_refl _⟩
theorem mn_ald {ok : Nat → Bool} {len x y pc : Nat} {ls st : List am_V} {h : am_H} {r} (e : am_ald ok len x y (pc, ls, st, h) = some r) : am_mr h r := by
  obtain ⟨_, _, _, _, _, e2⟩ := iv_ald e
  rw [e2]
  exact ⟨Nat.le_refl _, Nat.le_refl _⟩
theorem mn_ast {k vk : Nat} {len x y pc : Nat} {ls st : List am_V} {h : am_H} {r} (e : am_ast k vk len x y (pc, ls, st, h) = some r) : am_mr h r := by
  obtain ⟨_, _, _, _, _, _, e2⟩ := iv_ast e
  rw [e2]
  exact ⟨Nat.le_refl _, Nat.le_refl _⟩
theorem mn_aast {len x y pc : Nat} {ls st : List am_V} {h : am_H} {r} (e : am_aast len x y (pc, ls, st, h) = some r) : am_mr h r := by
  obtain ⟨_, _, _, _, _, _, e2⟩ := iv_aast e
  rw [e2]
  exact ⟨Nat.le_refl _, Nat.le_refl _⟩
theorem mn_len {len x y pc : Nat} {ls st : List am_V} {h : am_H} {r} (e : am_len len x y (pc, ls, st, h) = some r) : am_mr h r := by
  obtain ⟨_, _, _, _, e2⟩ := iv_len e
  rw [e2]
  exact ⟨Nat.le_refl _, Nat.le_refl _⟩
theorem mn_dup {len x y pc : Nat} {ls st : List am_V} {h : am_H} {r} (e : am_dup len x y (pc, ls, st, h) = some r) : am_mr h r := by
  obtain ⟨_, _, _, _, e2⟩ := iv_dup e
  rw [e2]
  exact ⟨Nat.le_refl _, Nat.le_refl _⟩
theorem mn_dup2 {len x y pc : Nat} {ls st : List am_V} {h : am_H} {r} (e : am_dup2 len x y (pc, ls, st, h) = some r) : am_mr h r := by
  obtain ⟨_, _, _, _, _, e2⟩ := iv_dup2 e
  rw [e2]
  exact ⟨Nat.le_refl _, Nat.le_refl _⟩
theorem mn_pop {k : Nat} {len x y pc : Nat} {ls st : List am_V} {h : am_H} {r} (e : am_pop k len x y (pc, ls, st, h) = some r) : am_mr h r := by
  obtain ⟨_, _, _, _, e2⟩ := iv_pop e
  rw [e2]
  exact ⟨Nat.le_refl _, Nat.le_refl _⟩
theorem mn_newa {lo hi : Nat} {len x y pc : Nat} {ls st : List am_V} {h : am_H} {r} (e : am_newa lo hi len x y (pc, ls, st, h) = some r) : am_mr h r := by
  obtain ⟨_, _, _, _, e2⟩ := iv_newa e
  rw [e2]
  exact ⟨Nat.le_succ _, Nat.le_add_right _ _⟩
theorem mn_mna {len x y pc : Nat} {ls st : List am_V} {h : am_H} {r} (e : am_mna len x y (pc, ls, st, h) = some r) : am_mr h r := by
  obtain ⟨_, _, _, _, _, e2⟩ := iv_mna e
  rw [e2]
  exact ⟨by show h.1 ≤ h.1 + 1 + _; omega, by show h.2.1 ≤ h.2.1 + _ + _; omega⟩
theorem mn_sem {ft : am_ft} {ins : Instr} {len x y pc : Nat} {ls st : List am_V} {h : am_H} {r} (he : am_sem ft ins len x y (pc, ls, st, h) = some r) : am_mr h r := by
  cases ins
  case iload_n _ => exact mn_load (len := len) (x := x) (y := y) he
  case iload _ => exact mn_load (len := len) (x := x) (y := y) he
  case lload_n _ => exact mn_load (len := len) (x := x) (y := y) he
  case lload _ => exact mn_load (len := len) (x := x) (y := y) he
  case aload_n _ => exact mn_load (len := len) (x := x) (y := y) he
  case aload _ => exact mn_load (len := len) (x := x) (y := y) he
  case istore_n _ => exact mn_stor (len := len) (x := x) (y := y) he
  case istore _ => exact mn_stor (len := len) (x := x) (y := y) he
  case astore_n _ => exact mn_stor (len := len) (x := x) (y := y) he
  case astore _ => exact mn_stor (len := len) (x := x) (y := y) he
  case lstore_n _ => exact mn_storl (len := len) (x := x) (y := y) he
  case lstore _ => exact mn_storl (len := len) (x := x) (y := y) he
  case iinc _ _ => exact mn_iinc (len := len) (x := x) (y := y) he
  case iadd => exact mn_bin (len := len) (x := x) (y := y) he
  case isub => exact mn_bin (len := len) (x := x) (y := y) he
  case imul => exact mn_bin (len := len) (x := x) (y := y) he
  case idiv => exact mn_bin (len := len) (x := x) (y := y) he
  case irem => exact mn_bin (len := len) (x := x) (y := y) he
  case iand => exact mn_bin (len := len) (x := x) (y := y) he
  case ixor => exact mn_bin (len := len) (x := x) (y := y) he
  case ishl => exact mn_bin (len := len) (x := x) (y := y) he
  case ishr => exact mn_bin (len := len) (x := x) (y := y) he
  case ladd => exact mn_binl (len := len) (x := x) (y := y) he
  case lmul => exact mn_binl (len := len) (x := x) (y := y) he
  case ldiv => exact mn_binl (len := len) (x := x) (y := y) he
  case land => exact mn_binl (len := len) (x := x) (y := y) he
  case lor => exact mn_binl (len := len) (x := x) (y := y) he
  case lshl => exact mn_shl (len := len) (x := x) (y := y) he
  case lshr => exact mn_shl (len := len) (x := x) (y := y) he
  case lushr => exact mn_shl (len := len) (x := x) (y := y) he
  case ineg => exact mn_un (len := len) (x := x) (y := y) he
  case lneg => exact mn_unl (len := len) (x := x) (y := y) he
  case lcmp => exact mn_lcmp (len := len) (x := x) (y := y) he
  case i2l => exact mn_i2l (len := len) (x := x) (y := y) he
  case l2i => exact mn_l2i (len := len) (x := x) (y := y) he
  case ifCond _ _ => exact mn_if (len := len) (x := x) (y := y) he
  case if_icmp _ _ => exact mn_icmp (len := len) (x := x) (y := y) he
  case getfield _ => exact mn_gf (len := len) (x := x) (y := y) he
  case putfield _ => exact mn_pf (len := len) (x := x) (y := y) he
  case iaload => exact mn_ald (len := len) (x := x) (y := y) (ok := fun k => k == 0) he
  case baload => exact mn_ald (len := len) (x := x) (y := y) (ok := fun k => k == 1) he
  case laload => exact mn_ald (len := len) (x := x) (y := y) (ok := fun k => k == 2) he
  case aaload => exact mn_ald (len := len) (x := x) (y := y) (ok := fun k => decide (3 ≤ k) && decide (k < 7)) he
  case iastore => exact mn_ast (len := len) (x := x) (y := y) he
  case bastore => exact mn_ast (len := len) (x := x) (y := y) he
  case lastore => exact mn_ast (len := len) (x := x) (y := y) he
  case aastore => exact mn_aast (len := len) (x := x) (y := y) he
  case arraylength => exact mn_len (len := len) (x := x) (y := y) he
  case dup => exact mn_dup (len := len) (x := x) (y := y) he
  case dup2 => exact mn_dup2 (len := len) (x := x) (y := y) he
  case pop => exact mn_pop (len := len) (x := x) (y := y) he
  case pop2 => exact mn_pop (len := len) (x := x) (y := y) he
  case newarray _ => exact mn_newa (len := len) (x := x) (y := y) he
  case anewarray _ => exact mn_newa (len := len) (x := x) (y := y) he
  case multianewarray _ _ => exact mn_mna (len := len) (x := x) (y := y) he
  case iconst _ => cases he; exact ⟨Nat.le_refl _, Nat.le_refl _⟩
  case bipush _ => cases he; exact ⟨Nat.le_refl _, Nat.le_refl _⟩
  case sipush _ => cases he; exact ⟨Nat.le_refl _, Nat.le_refl _⟩
  case lconst _ => cases he; exact ⟨Nat.le_refl _, Nat.le_refl _⟩
  case ldc _ => cases he; exact ⟨Nat.le_refl _, Nat.le_refl _⟩
  case ldc2_w _ => cases he; exact ⟨Nat.le_refl _, Nat.le_refl _⟩
  case goto _ => cases he; exact ⟨Nat.le_refl _, Nat.le_refl _⟩
  case new _ => cases he; exact ⟨Nat.le_succ _, Nat.le_add_right _ _⟩
  case tableswitch d lo hi offs =>
    obtain ⟨a, st2, -, q | ⟨-, o, -, q⟩⟩ := iv_sw (len := len) (x := x) (y := y) he
    · rw [q.2]; exact ⟨Nat.le_refl _, Nat.le_refl _⟩
    · rw [q]; exact ⟨Nat.le_refl _, Nat.le_refl _⟩
  case ireturn => obtain ⟨v, -, -, e2⟩ := iv_ret (len := len) (x := x) (y := y) he; rw [e2]; rfl
  case lreturn => obtain ⟨v, -, -, e2⟩ := iv_ret (len := len) (x := x) (y := y) he; rw [e2]; rfl
  case return_ => obtain ⟨-, e2⟩ := iv_retv (len := len) (x := x) (y := y) he; rw [e2]; rfl
  case invokevirtual _ =>
    rcases iv_inv (len := len) (x := x) (y := y) he with ⟨-, a, -, e2⟩ | ⟨-, e2⟩ | ⟨-, -, -, -, -, e2⟩
    · rw [e2]; exact ⟨Nat.le_refl _, Nat.le_refl _⟩
    · obtain ⟨_, _, _, _, _, -, -, e3⟩ := iv_acopy (len := len) (x := x) (y := y) e2
      rw [e3]; exact ⟨Nat.le_refl _, Nat.le_refl _⟩
    · rw [e2]; rfl
  case invokestatic _ =>
    rcases iv_inv (len := len) (x := x) (y := y) he with ⟨-, a, -, e2⟩ | ⟨-, e2⟩ | ⟨-, -, -, -, -, e2⟩
    · rw [e2]; exact ⟨Nat.le_refl _, Nat.le_refl _⟩
    · obtain ⟨_, _, _, _, _, -, -, e3⟩ := iv_acopy (len := len) (x := x) (y := y) e2
      rw [e3]; exact ⟨Nat.le_refl _, Nat.le_refl _⟩
    · rw [e2]; rfl
  case invokespecial _ =>
    rcases iv_inv (len := len) (x := x) (y := y) he with ⟨-, a, -, e2⟩ | ⟨-, e2⟩ | ⟨-, -, -, -, -, e2⟩
    · rw [e2]; exact ⟨Nat.le_refl _, Nat.le_refl _⟩
    · obtain ⟨_, _, _, _, _, -, -, e3⟩ := iv_acopy (len := len) (x := x) (y := y) e2
      rw [e3]; exact ⟨Nat.le_refl _, Nat.le_refl _⟩
    · rw [e2]; rfl
  all_goals cases he
theorem mn_1 {ft : am_ft} {C : am_C} {t : am_S} {r} (h : am_1 ft C t = some r) : ∃ row, am_row C t.1 = some row ∧ am_sem ft row.1 row.2.1 row.2.2.1 row.2.2.2 t = some r := by
  unfold am_1 at h
  split at h
  · rename_i row hrow
    exact ⟨row, hrow, h⟩
  · cases h
theorem mn_x {P : am_P} : ∀ (n : Nat) {C : am_C} {t : am_S} {r : Option am_V} {h2 : am_H}, am_x P n C t = some (r, h2) → t.2.2.2.1 ≤ h2.1 ∧ t.2.2.2.2.1 ≤ h2.2.1
  | 0, C, t, r, h2, h => by cases h
  | n + 1, C, t, r, h2, h => by
    obtain ⟨pc, ls, st, hp⟩ := t
    unfold am_x at h
    split at h
    · cases h
    · rename_i t2 e1
      obtain ⟨row, -, e2⟩ := mn_1 e1
      have m1 := mn_sem e2
      have m2 := mn_x n h
      exact ⟨Nat.le_trans m1.1 m2.1, Nat.le_trans m1.2 m2.2⟩
    · rename_i q e1
      obtain ⟨row, -, e2⟩ := mn_1 e1
      have m1 : q.2.2.2.2.2 = hp := mn_sem e2
      split at h
      · cases h
      · rename_i M hM
        split at h
        · split at h
          · cases h
          · rename_i r2 h3
            obtain ⟨r2, h4⟩ := r2
            have m2 := mn_x n h3
            have m3 := mn_x n h
            rw [m1] at m2
            exact ⟨Nat.le_trans m2.1 m3.1, Nat.le_trans m2.2 m3.2⟩
        · cases h
    · rename_i q e1
      obtain ⟨row, -, e2⟩ := mn_1 e1
      have m1 : q.2 = hp := mn_sem e2
      have := Option.some.inj h
      subst this
      have m1 : h2 = hp := m1
      subst m1
      exact ⟨Nat.le_refl _, Nat.le_refl _⟩
theorem kd_load {k i : Nat} {len x y pc : Nat} {ls st : List am_V} {h : am_H} {r} (e : am_load k i len x y (pc, ls, st, h) = some r) : ∃ t : am_S, r = .inl t := by
  obtain ⟨_, _, _, e2⟩ := iv_load e
  exact ⟨_, e2⟩
theorem kd_stor {k i : Nat} {len x y pc : Nat} {ls st : List am_V} {h : am_H} {r} (e : am_stor k i len x y (pc, ls, st, h) = some r) : ∃ t : am_S, r = .inl t := by
  obtain ⟨_, _, _, _, _, e2⟩ := iv_stor e
  exact ⟨_, e2⟩
theorem kd_storl {i : Nat} {len x y pc : Nat} {ls st : List am_V} {h : am_H} {r} (e : am_storl i len x y (pc, ls, st, h) = some r) : ∃ t : am_S, r = .inl t := by
  obtain ⟨_, _, _, _, e2⟩ := iv_storl e
  exact ⟨_, e2⟩
theorem kd_iinc {i : Nat} {n : Int} {len x y pc : Nat} {ls st : List am_V} {h : am_H} {r} (e : am_iinc i n len x y (pc, ls, st, h) = some r) : ∃ t : am_S, r = .inl t := by
  obtain ⟨_, _, e2⟩ := iv_iinc e
  exact ⟨_, e2⟩
theorem kd_bin {f : Int → Int → Option Int} {len x y pc : Nat} {ls st : List am_V} {h : am_H} {r} (e : am_bin f len x y (pc, ls, st, h) = some r) : ∃ t : am_S, r = .inl t := by
  obtain ⟨_, _, _, _, _, _, e2⟩ := iv_bin e
  exact ⟨_, e2⟩
theorem kd_binl {f : Int → Int → Option Int} {len x y pc : Nat} {ls st : List am_V} {h : am_H} {r} (e : am_binl f len x y (pc, ls, st, h) = some r) : ∃ t : am_S, r = .inl t := by
  obtain ⟨_, _, _, _, _, _, e2⟩ := iv_binl e
  exact ⟨_, e2⟩
theorem kd_shl {f : Int → Int → Option Int} {len x y pc : Nat} {ls st : List am_V} {h : am_H} {r} (e : am_shl f len x y (pc, ls, st, h) = some r) : ∃ t : am_S, r = .inl t := by
  obtain ⟨_, _, _, _, _, _, e2⟩ := iv_shl e
  exact ⟨_, e2⟩
theorem kd_un {f : Int → Int} {len x y pc : Nat} {ls st : List am_V} {h : am_H} {r} (e : am_un f len x y (pc, ls, st, h) = some r) : ∃ t : am_S, r = .inl t := by
  obtain ⟨_, _, _, e2⟩ := iv_un e
  exact ⟨_, e2⟩
theorem kd_unl {f : Int → Int} {len x y pc : Nat} {ls st : List am_V} {h : am_H} {r} (e : am_unl f len x y (pc, ls, st, h) = some r) : ∃ t : am_S, r = .inl t := by
  obtain ⟨_, _, _, e2⟩ := iv_unl e
  exact ⟨_, e2⟩
theorem kd_lcmp {len x y pc : Nat} {ls st : List am_V} {h : am_H} {r} (e : am_lcmp len x y (pc, ls, st, h) = some r) : ∃ t : am_S, r = .inl t := by
  obtain ⟨_, _, _, _, e2⟩ := iv_lcmp e
  exact ⟨_, e2⟩
theorem kd_i2l {len x y pc : Nat} {ls st : List am_V} {h : am_H} {r} (e : am_i2l len x y (pc, ls, st, h) = some r) : ∃ t : am_S, r = .inl t := by
  obtain ⟨_, _, _, e2⟩ := iv_i2l e
  exact ⟨_, e2⟩
theorem kd_l2i {len x y pc : Nat} {ls st : List am_V} {h : am_H} {r} (e : am_l2i len x y (pc, ls, st, h) = some r) : ∃ t : am_S, r = .inl t := by
  obtain ⟨_, _, _, e2⟩ := iv_l2i e
  exact ⟨_, e2⟩
theorem kd_if {cnd : Jvm.ClassFile.Cond} {len x y pc : Nat} {ls st : List am_V} {h : am_H} {r} (e : am_if cnd len x y (pc, ls, st, h) = some r) : ∃ t : am_S, r = .inl t := by
  obtain ⟨_, _, _, e2⟩ := iv_if e
  exact ⟨_, e2⟩
theorem kd_icmp {cnd : Jvm.ClassFile.Cond} {len x y pc : Nat} {ls st : List am_V} {h : am_H} {r} (e : am_icmp cnd len x y (pc, ls, st, h) = some r) : ∃ t : am_S, r = .inl t := by
  obtain ⟨_, _, _, _, e2⟩ := iv_icmp e
  exact ⟨_, e2⟩
theorem kd_gf {len x y pc : Nat} {ls st : List am_V} {h : am_H} {r} (e : am_gf len x y (pc, ls, st, h) = some r) : ∃ t : am_S, r = .inl t := by
  obtain ⟨_, _, _, _, e2⟩ := iv_gf e
  exact ⟨_, e2⟩
theorem kd_pf {ft : am_ft} {len x y pc : Nat} {ls st : List am_V} {h : am_H} {r} (e : am_pf ft len x y (pc, ls, st, h) = some r) : ∃ t : am_S, r = .inl t := by
  obtain ⟨_, _, _, _, _, e2⟩ := iv_pf e
  exact ⟨_, e2⟩
theorem kd_ald {ok : Nat → Bool} {len x y pc : Nat} {ls st : List am_V} {h : am_H} {r} (e : am_ald ok len x y (pc, ls, st, h) = some r) : ∃ t : am_S, r = .inl t := by
  obtain ⟨_, _, _, _, _, e2⟩ := iv_ald e
  exact ⟨_, e2⟩
theorem kd_ast {k vk : Nat} {len x y pc : Nat} {ls st : List am_V} {h : am_H} {r} (e : am_ast k vk len x y (pc, ls, st, h) = some r) : ∃ t : am_S, r = .inl t := by
  obtain ⟨_, _, _, _, _, _, e2⟩ := iv_ast e
  exact ⟨_, e2⟩
theorem kd_aast {len x y pc : Nat} {ls st : List am_V} {h : am_H} {r} (e : am_aast len x y (pc, ls, st, h) = some r) : ∃ t : am_S, r = .inl t := by
  obtain ⟨_, _, _, _, _, _, e2⟩ := iv_aast e
  exact ⟨_, e2⟩
theorem kd_len {len x y pc : Nat} {ls st : List am_V} {h : am_H} {r} (e : am_len len x y (pc, ls, st, h) = some r) : ∃ t : am_S, r = .inl t := by
  obtain ⟨_, _, _, _, e2⟩ := iv_len e
  exact ⟨_, e2⟩
theorem kd_dup {len x y pc : Nat} {ls st : List am_V} {h : am_H} {r} (e : am_dup len x y (pc, ls, st, h) = some r) : ∃ t : am_S, r = .inl t := by
  obtain ⟨_, _, _, _, e2⟩ := iv_dup e
  exact ⟨_, e2⟩
theorem kd_dup2 {len x y pc : Nat} {ls st : List am_V} {h : am_H} {r} (e : am_dup2 len x y (pc, ls, st, h) = some r) : ∃ t : am_S, r = .inl t := by
  obtain ⟨_, _, _, _, _, e2⟩ := iv_dup2 e
  exact ⟨_, e2⟩
theorem kd_pop {k : Nat} {len x y pc : Nat} {ls st : List am_V} {h : am_H} {r} (e : am_pop k len x y (pc, ls, st, h) = some r) : ∃ t : am_S, r = .inl t := by
  obtain ⟨_, _, _, _, e2⟩ := iv_pop e
  exact ⟨_, e2⟩
theorem kd_newa {lo hi : Nat} {len x y pc : Nat} {ls st : List am_V} {h : am_H} {r} (e : am_newa lo hi len x y (pc, ls, st, h) = some r) : ∃ t : am_S, r = .inl t := by
  obtain ⟨_, _, _, _, e2⟩ := iv_newa e
  exact ⟨_, e2⟩
theorem kd_mna {len x y pc : Nat} {ls st : List am_V} {h : am_H} {r} (e : am_mna len x y (pc, ls, st, h) = some r) : ∃ t : am_S, r = .inl t := by
  obtain ⟨_, _, _, _, _, e2⟩ := iv_mna e
  exact ⟨_, e2⟩
/-- a step goes on, calls or ends -/
theorem am_kind {ft : am_ft} {ins : Instr} {len x y pc : Nat} {ls st : List am_V} {h : am_H} {r} (he : am_sem ft ins len x y (pc, ls, st, h) = some r) : (∃ t : am_S, r = .inl t) ∨ (∃ i, (ins = .invokevirtual i ∨ ins = .invokestatic i ∨ ins = .invokespecial i) ∧ am_inv len x y (pc, ls, st, h) = some r) ∨ ((ins = .ireturn ∨ ins = .lreturn) ∧ am_ret len x y (pc, ls, st, h) = some r) ∨ (ins = .return_ ∧ am_retv len x y (pc, ls, st, h) = some r) := by
  cases ins
  case iload_n _ => exact Or.inl (kd_load (len := len) (x := x) (y := y) he)
  case iload _ => exact Or.inl (kd_load (len := len) (x := x) (y := y) he)
  case lload_n _ => exact Or.inl (kd_load (len := len) (x := x) (y := y) he)
  case lload _ => exact Or.inl (kd_load (len := len) (x := x) (y := y) he)
  case aload_n _ => exact Or.inl (kd_load (len := len) (x := x) (y := y) he)
  case aload _ => exact Or.inl (kd_load (len := len) (x := x) (y := y) he)
  case istore_n _ => exact Or.inl (kd_stor (len := len) (x := x) (y := y) he)
  case istore _ => exact Or.inl (kd_stor (len := len) (x := x) (y := y) he)
  case astore_n _ => exact Or.inl (kd_stor (len := len) (x := x) (y := y) he)
  case astore _ => exact Or.inl (kd_stor (len := len) (x := x) (y := y) he)
  case lstore_n _ => exact Or.inl (kd_storl (len := len) (x := x) (y := y) he)
  case lstore _ => exact Or.inl (kd_storl (len := len) (x := x) (y := y) he)
  case iinc _ _ => exact Or.inl (kd_iinc (len := len) (x := x) (y := y) he)
  case iadd => exact Or.inl (kd_bin (len := len) (x := x) (y := y) he)
  case isub => exact Or.inl (kd_bin (len := len) (x := x) (y := y) he)
  case imul => exact Or.inl (kd_bin (len := len) (x := x) (y := y) he)
  case idiv => exact Or.inl (kd_bin (len := len) (x := x) (y := y) he)
  case irem => exact Or.inl (kd_bin (len := len) (x := x) (y := y) he)
  case iand => exact Or.inl (kd_bin (len := len) (x := x) (y := y) he)
  case ixor => exact Or.inl (kd_bin (len := len) (x := x) (y := y) he)
  case ishl => exact Or.inl (kd_bin (len := len) (x := x) (y := y) he)
  case ishr => exact Or.inl (kd_bin (len := len) (x := x) (y := y) he)
  case ladd => exact Or.inl (kd_binl (len := len) (x := x) (y := y) he)
  case lmul => exact Or.inl (kd_binl (len := len) (x := x) (y := y) he)
  case ldiv => exact Or.inl (kd_binl (len := len) (x := x) (y := y) he)
  case land => exact Or.inl (kd_binl (len := len) (x := x) (y := y) he)
  case lor => exact Or.inl (kd_binl (len := len) (x := x) (y := y) he)
  case lshl => exact Or.inl (kd_shl (len := len) (x := x) (y := y) he)
  case lshr => exact Or.inl (kd_shl (len := len) (x := x) (y := y) he)
  case lushr => exact Or.inl (kd_shl (len := len) (x := x) (y := y) he)
  case ineg => exact Or.inl (kd_un (len := len) (x := x) (y := y) he)
  case lneg => exact Or.inl (kd_unl (len := len) (x := x) (y := y) he)
  case lcmp => exact Or.inl (kd_lcmp (len := len) (x := x) (y := y) he)
  case i2l => exact Or.inl (kd_i2l (len := len) (x := x) (y := y) he)
  case l2i => exact Or.inl (kd_l2i (len := len) (x := x) (y := y) he)
  case ifCond _ _ => exact Or.inl (kd_if (len := len) (x := x) (y := y) he)
  case if_icmp _ _ => exact Or.inl (kd_icmp (len := len) (x := x) (y := y) he)
  case getfield _ => exact Or.inl (kd_gf (len := len) (x := x) (y := y) he)
  case putfield _ => exact Or.inl (kd_pf (len := len) (x := x) (y := y) he)
  case iaload => exact Or.inl (kd_ald (len := len) (x := x) (y := y) (ok := fun k => k == 0) he)
  case baload => exact Or.inl (kd_ald (len := len) (x := x) (y := y) (ok := fun k => k == 1) he)
  case laload => exact Or.inl (kd_ald (len := len) (x := x) (y := y) (ok := fun k => k == 2) he)
  case aaload => exact Or.inl (kd_ald (len := len) (x := x) (y := y) (ok := fun k => decide (3 ≤ k) && decide (k < 7)) he)
  case iastore => exact Or.inl (kd_ast (len := len) (x := x) (y := y) he)
  case bastore => exact Or.inl (kd_ast (len := len) (x := x) (y := y) he)
  case lastore => exact Or.inl (kd_ast (len := len) (x := x) (y := y) he)
  case aastore => exact Or.inl (kd_aast (len := len) (x := x) (y := y) he)
  case arraylength => exact Or.inl (kd_len (len := len) (x := x) (y := y) he)
  case dup => exact Or.inl (kd_dup (len := len) (x := x) (y := y) he)
  case dup2 => exact Or.inl (kd_dup2 (len := len) (x := x) (y := y) he)
  case pop => exact Or.inl (kd_pop (len := len) (x := x) (y := y) he)
  case pop2 => exact Or.inl (kd_pop (len := len) (x := x) (y := y) he)
  case newarray _ => exact Or.inl (kd_newa (len := len) (x := x) (y := y) he)
  case anewarray _ => exact Or.inl (kd_newa (len := len) (x := x) (y := y) he)
  case multianewarray _ _ => exact Or.inl (kd_mna (len := len) (x := x) (y := y) he)
  case iconst _ => cases he; exact Or.inl ⟨_, rfl⟩
  case bipush _ => cases he; exact Or.inl ⟨_, rfl⟩
  case sipush _ => cases he; exact Or.inl ⟨_, rfl⟩
  case lconst _ => cases he; exact Or.inl ⟨_, rfl⟩
  case ldc _ => cases he; exact Or.inl ⟨_, rfl⟩
  case ldc2_w _ => cases he; exact Or.inl ⟨_, rfl⟩
  case goto _ => cases he; exact Or.inl ⟨_, rfl⟩
  case new _ => cases he; exact Or.inl ⟨_, rfl⟩
  case tableswitch d lo hi offs =>
    obtain ⟨a, st2, -, q | ⟨-, o, -, q⟩⟩ := iv_sw (len := len) (x := x) (y := y) he
    · exact Or.inl ⟨_, q.2⟩
    · exact Or.inl ⟨_, q⟩
  case invokevirtual i => exact Or.inr (Or.inl ⟨i, Or.inl rfl, he⟩)
  case invokestatic i => exact Or.inr (Or.inl ⟨i, Or.inr (Or.inl rfl), he⟩)
  case invokespecial i => exact Or.inr (Or.inl ⟨i, Or.inr (Or.inr rfl), he⟩)
  case ireturn => exact Or.inr (Or.inr (Or.inl ⟨Or.inl rfl, he⟩))
  case lreturn => exact Or.inr (Or.inr (Or.inl ⟨Or.inr rfl, he⟩))
  case return_ => exact Or.inr (Or.inr (Or.inr ⟨rfl, he⟩))
  all_goals cases he
/-! Calls and returns. -/
/-- a method's start and end, over the small machine's cells -/
def am_Pc (D : va_G) (ca : Nat → ClassId) (KK : State → Prop) (ad : Nat → Nat) (as : List am_V) (h : am_H) (sz : Nat) : Array Value → State → Prop := va_Pc (as.map (am_cv ad)) (fun U => U.heap.size = sz ∧ va_P D vwCl (am_ws ad ca h) U.heap ∧ KK U ∧ va_D (fun _ => True) (am_ws ad ca h))
def am_Qc (D : va_G) (ca : Nat → ClassId) (ft : am_ft) (ad : Nat → Nat) (h : am_H) (r : Option am_V) (h2 : am_H) (sz : Nat) : Array Value → State → Outcome → State → Prop := fun _ st oc t =>
  (∃ ad2 : Nat → Nat, (∀ k, k < h.1 → ad2 k = ad k) ∧ oc = .returned (r.map (am_cv ad2)) ∧ am_gd ft h2 ∧ (∀ v, r = some v → am_vk h2.1 v) ∧ h.1 ≤ h2.1 ∧ h.2.1 ≤ h2.2.1 ∧ va_P D vwCl (am_ws ad2 ca h2) t.heap ∧ va_D (va_A (am_ws ad ca h) sz) (am_ws ad2 ca h2)) ∧ va_F (va_A (am_ws ad ca h) sz) st t
/-- what the tables say of the claim's classes, and goes with every state -/
def am_KK (D : va_G) (ca : Nat → ClassId) (U : State) : Prop := va_K D vwCl (am_tys ca) U ∧ va_Nw (.methodLinkNest "StrandBoxes" 27 yX3_init "StrandBoxes") U ∧ va_Nw (.methodLinkNest "StrandBoxes" 34 yX1_init "StrandBoxes") U ∧ am_AO U
theorem am_KK.warm {D : va_G} {ca : Nat → ClassId} {s U : State} (hW : s.WarmedH U.vm) (h : am_KK D ca s) : am_KK D ca U := ⟨va_K.moved hW.alike h.1, va_Nw.warmM hW h.2.1, va_Nw.warmM hW h.2.2.1, h.2.2.2.warm hW⟩
theorem am_KK.call {D : va_G} {ca : Nat → ClassId} {U : State} {g : JFrame} {mk : MethodId} {a : Array Value} (h : am_KK D ca U) : am_KK D ca (U.calling g mk a) := ⟨va_K.moved (u := U) (U := U.calling g mk a) (Vm.Alike.refl U.vm) h.1, va_Nw.same (u := U) (U := U.calling g mk a) rfl rfl h.2.1, va_Nw.same (u := U) (U := U.calling g mk a) rfl rfl h.2.2.1, h.2.2.2.same (u := U) (U := U.calling g mk a) rfl⟩
theorem am_Pc.blind {D : va_G} {ca : Nat → ClassId} {ad : Nat → Nat} {as : List am_V} {h : am_H} {sz : Nat} : FrameBlind (am_Pc D ca (am_KK D ca) ad as h sz) := fun a U g mk q => by
  obtain ⟨q0, q1, qP, qK, qD⟩ := q
  exact ⟨q0, q1, qP, qK.call, qD⟩
theorem am_Pc.at {D : va_G} {ca : Nat → ClassId} {ad : Nat → Nat} {as : List am_V} {h : am_H} {s : State} {H : Heap} {A : Nat → Prop} (hK : am_KK D ca s) (hP : va_P D vwCl (am_ws ad ca h) H) (hD : va_D A (am_ws ad ca h)) : ∀ U : State, U.heap = H → s.WarmedH U.vm → am_Pc D ca (am_KK D ca) ad as h H.size (as.map (am_cv ad)).toArray U := fun U hU hW => ⟨rfl, by rw [hU], by rw [hU]; exact hP, hK.warm hW, hD.weaken (fun _ _ _ _ => trivial)⟩
theorem am_cat_cv {ad : Nat → Nat} (v : am_V) : (am_cv ad v).category = am_cat v := by
  rcases v with (x | x) | _ | _ | a <;> rfl
theorem am_cat_sum {ad : Nat → Nat} (st : List am_V) : ((st.map (am_cv ad)).map fun v => v.category).sum = (st.map am_cat).sum := by
  rw [List.map_map]
  congr 1
  exact List.map_congr_left fun v _ => am_cat_cv v
section SM
variable {p : Program} {l : Launch} {e : Env} {R : Room} {s : State} {m : MethodId} {args : Array Value} {below : List Frame} {meth : Method} {c : Code} {Q : State → Prop} {D : va_G} {ca : Nat → ClassId} {ft : am_ft} {A : Nat → Prop} {n0 z0 : Nat} {ad0 : Nat → Nat} {nL : Nat} {cc : ByteArray}
/-- behind a call: as = its arguments, rest = what lies below them -/
theorem sm_back {pc : Nat} {ls as rest : List am_V} {h h2 : am_H} {r : Option am_V} {a : Array Value} {mc ms : Nat} (hA : ∀ q, s.heap.size ≤ q → A q) (hmc : mc = h2.1 - h.1) (hms : ms = h2.2.1 - h.2.1)
    (hrun : ∀ (ad : Nat → Nat) (H : Heap) (locs : List Loc) (LS : Array Slot), n0 ≤ h.1 → z0 ≤ h.2.1 → am_gd ft h → (∀ v ∈ as.reverse ++ rest, am_vk h.1 v) → va_P D vwCl (am_ws ad ca h) H → va_D A (am_ws ad ca h) → LS.size = nL →
      va_Run p l e R s m args below meth c H locs (h.1 - n0) (h.2.1 - z0) mc ms (F0 m pc LS ((as.reverse ++ rest).map (am_cv ad))) (rest.map (am_cv ad)) (am_Qc D ca ft ad h r h2 H.size ((as.map (am_cv ad)).toArray)) (va_A (am_ws ad ca h) H.size))
    (k : am_G p l e R s m args below meth c Q D ca ft A n0 z0 ad0 nL (pc + 3, ls, r.toList ++ rest, h2)) : am_G p l e R s m args below meth c Q D ca ft A n0 z0 ad0 nL (pc, ls, as.reverse ++ rest, h) := by
  intro ad H locs LS h1 h2_ h3 h4 h5 h6 h7 h8 h9 h10 h11
  have h2_ : n0 ≤ h.1 := h2_
  have h3 : z0 ≤ h.2.1 := h3
  have h6 : ∀ v ∈ ls, v = vU ∨ am_vk h.1 v := h6
  have hs5 : ∀ w ∈ rest, am_vk h.1 w := fun w hw => h5 w (List.mem_append_right _ hw)
  have hfree : ∀ q, va_A (am_ws ad ca h) H.size q → A q := fun q hq => by
    rcases hq with ⟨j, e9, hj⟩ | hq
    · exact h8.2 j _ hj
    · exact hA q (Nat.le_trans h9.1 hq)
  intro T hT X
  obtain ⟨v, st₀, t, T', L, g0, X', hL, e1, e2, ⟨⟨ad2, q1, q2, q3, q4, q5, q6, qP, qD⟩, qz, qk⟩, st⟩ := hrun ad H locs LS h2_ h3 h4 h5 h7 h8 (h10.1.trans h11) T hT X
  have q2 : v = r.map (am_cv ad2) := Outcome.returned.inj q2
  rw [g0] at qz qk
  rw [← e1] at qP qz qk
  have hS' : va_S A s.heap T'.heap (locs ++ L) := ⟨Nat.le_trans h9.1 qz, fun q j1 j2 => by
      rw [qk q (Nat.lt_of_lt_of_le j1 h9.1) (fun z => j2 (hfree q z))]
      exact h9.2.1 q j1 j2, fun q hq => (List.mem_append.mp hq).elim (h9.2.2 q) (fun z => hfree _ (hL q z))⟩
  have K := k ad2 T'.heap (locs ++ L) LS (fun j hj => (q1 j (by omega)).trans (h1 j hj)) (show n0 ≤ h2.1 by omega) (show z0 ≤ h2.2.1 by omega) q3
    (fun w hw => (List.mem_append.mp hw).elim (fun z => q4 w (Option.mem_toList.mp z)) (fun z => (hs5 w z).mono q5))
    (fun w hw => (h6 w hw).elim Or.inl (fun z => Or.inr (z.mono q5))) qP (qD.weaken (fun _ q _ z => hfree q.1 z)) hS' (h10.cg q1 h6) h11
  have e3 : (r.toList ++ rest).map (am_cv ad2) = v.toList ++ rest.map (am_cv ad) := by
    rw [List.map_append, am_st_cg q1 hs5, q2]
    congr 1
    cases r <;> rfl
  rw [e3] at K
  have K2 := W.cs (show h.1 - n0 + mc = h2.1 - n0 by omega) (show h.2.1 - z0 + ms = h2.2.1 - z0 by omega) K
  obtain ⟨t2, a1, b1⟩ := K2 T' rfl X'
  exact ⟨t2, st t2 a1, b1⟩
/-- the end of a method -/
theorem sm_ret {pc x len : Nat} {ins : Instr} {ls : List am_V} {h0 h : am_H} {v : am_V} {ret : Option FieldType} {sz : Nat} (hx : p.tables.exec = Jvm.exec) (hb : c.code = cc) (hr : meth.sig.returnType = ret) (hlocks : meth.locks = false) (hdg : decode cc pc = .ok (ins, 1)) (hsz : s.heap.size = sz)
    (hrt : (ins = .ireturn ∧ x = 0 ∧ ret = some .int) ∨ (ins = .ireturn ∧ x = 1 ∧ ret = some .boolean) ∨ (ins = .lreturn ∧ x = 2 ∧ ret = some .long)) (hv : am_fok x v = true) :
    am_G p l e R s m args below meth c (MQ below (am_Qc D ca ft ad0 h0 (some v) h sz) args s (h.1 - h0.1) (h.2.1 - h0.2.1) (va_A (am_ws ad0 ca h0) sz)) D ca ft (va_A (am_ws ad0 ca h0) sz) h0.1 h0.2.1 ad0 nL (pc, ls, [v], h) := by
  intro ad H locs LS h1 h2 h3 h4 h5 h6 h7 h8 h9 h10 h11
  have h4 : am_gd ft h := h4
  have hvk : am_vk h.1 v := h5 v (by simp)
  have fin : ∀ (t : State) (z : Value), z = am_cv ad v → t.heap = H → am_Qc D ca ft ad0 h0 (some v) h sz args s (.returned (some z)) t := fun t z hz ht => ⟨⟨ad, h1, by rw [hz]; rfl, h4, fun w hw => by cases hw; exact hvk, h2, h3, by rw [ht]; exact h7, h8⟩, h9.F ht⟩
  rcases hrt with ⟨rfl, rfl, rfl⟩ | ⟨rfl, rfl, rfl⟩ | ⟨rfl, rfl, rfl⟩
  · have e9 := am_cv_iald (ad := ad) ⟨hvk, hv⟩
    show W p l e R s m args below meth c H locs _ _ _ (F0 m pc LS [am_cv ad v])
    rw [e9]
    exact W.iret hx hb hr (fun t ht hW => fin t _ e9.symm ht) h9.2.2 hdg hlocks
  · have e9 := am_cv_zald (ad := ad) ⟨hvk, hv⟩
    have e8 := (am_fit (ad := ad) (ty := .boolean) hvk hv rfl).1
    rw [e9] at e8
    show W p l e R s m args below meth c H locs _ _ _ (F0 m pc LS [am_cv ad v])
    rw [e9]
    exact W.zret hx hb hr e8 (fun t ht hW => fin t _ e9.symm ht) h9.2.2 hdg hlocks
  · have e9 := am_cv_lald (ad := ad) ⟨hvk, hv⟩
    show W p l e R s m args below meth c H locs _ _ _ (F0 m pc LS [am_cv ad v])
    rw [e9]
    exact W.lret hx hb hr (fun t ht hW => fin t _ e9.symm ht) h9.2.2 hdg hlocks
theorem sm_retv {pc : Nat} {ls : List am_V} {h0 h : am_H} {sz : Nat} (hx : p.tables.exec = Jvm.exec) (hb : c.code = cc) (hr : meth.sig.returnType = none) (hlocks : meth.locks = false) (hdg : decode cc pc = .ok (.return_, 1)) (hsz : s.heap.size = sz) :
    am_G p l e R s m args below meth c (MQ below (am_Qc D ca ft ad0 h0 none h sz) args s (h.1 - h0.1) (h.2.1 - h0.2.1) (va_A (am_ws ad0 ca h0) sz)) D ca ft (va_A (am_ws ad0 ca h0) sz) h0.1 h0.2.1 ad0 nL (pc, ls, [], h) := by
  intro ad H locs LS h1 h2 h3 h4 h5 h6 h7 h8 h9 h10 h11
  have h4 : am_gd ft h := h4
  exact W.vret hx hb hr (fun t ht hW => ⟨⟨ad, h1, rfl, h4, fun w hw => by (cases hw), h2, h3, by rw [ht]; exact h7, h8⟩, h9.F ht⟩) h9.2.2 hdg hlocks
end SM
theorem am_pad_len : ∀ (n : Nat) (as : List am_V), (am_pad n as).length = n
  | 0, _ => rfl
  | n + 1, [] => congrArg Nat.succ (am_pad_len n [])
  | n + 1, .inl (.inl x) :: l => congrArg Nat.succ (am_pad_len n l)
  | n + 1, .inr x :: l => congrArg Nat.succ (am_pad_len n l)
  | 1, .inl (.inr x) :: l => rfl
  | n + 2, .inl (.inr x) :: l => congrArg (fun z => Nat.succ (Nat.succ z)) (am_pad_len n l)
theorem am_pad_nil : ∀ (n i : Nat) (v : am_V), (am_pad n [])[i]? = some v → v = vU
  | 0, i, v, h => by simp [am_pad] at h
  | n + 1, 0, v, h => by
    have : some vU = some v := h
    exact (Option.some.inj this).symm
  | n + 1, i + 1, v, h => am_pad_nil n i v h
theorem am_pad_at {ad : Nat → Nat} : ∀ (n : Nat) (as : List am_V) (i0 i : Nat) (v : am_V), (am_pad n as)[i]? = some v → v ≠ vU → (i0 + i, am_cv ad v) ∈ lv_args i0 (as.map (am_cv ad))
  | 0, as, i0, i, v, h, hv => by simp [am_pad] at h
  | n + 1, [], i0, i, v, h, hv => absurd (am_pad_nil (n + 1) i v h) hv
  | n + 1, .inl (.inl x) :: l, i0, 0, v, h, hv => by
    have : some (vI x) = some v := h
    cases this
    exact List.mem_cons_self
  | n + 1, .inr x :: l, i0, 0, v, h, hv => by
    have : some (Sum.inr x : am_V) = some v := h
    cases this
    exact List.mem_cons_self
  | n + 1, .inl (.inl x) :: l, i0, i + 1, v, h, hv => by
    have := am_pad_at (ad := ad) n l (i0 + 1) i v h hv
    rw [show i0 + (i + 1) = i0 + 1 + i by omega]
    exact List.mem_cons_of_mem _ this
  | n + 1, .inr x :: l, i0, i + 1, v, h, hv => by
    have := am_pad_at (ad := ad) n l (i0 + 1) i v h hv
    rw [show i0 + (i + 1) = i0 + 1 + i by omega]
    refine List.mem_cons_of_mem _ ?_
    rcases x with _ | _ | k <;> exact this
  | 1, .inl (.inr x) :: l, i0, 0, v, h, hv => by
    have : some (vL x) = some v := h
    cases this
    exact List.mem_cons_self
  | 1, .inl (.inr x) :: l, i0, i + 1, v, h, hv => by
    have : ([] : List am_V)[i]? = some v := h
    simp at this
  | n + 2, .inl (.inr x) :: l, i0, 0, v, h, hv => by
    have : some (vL x) = some v := h
    cases this
    exact List.mem_cons_self
  | n + 2, .inl (.inr x) :: l, i0, 1, v, h, hv => by
    have : some vU = some v := h
    exact absurd (Option.some.inj this).symm hv
  | n + 2, .inl (.inr x) :: l, i0, i + 2, v, h, hv => by
    have := am_pad_at (ad := ad) n l (i0 + 2) i v h hv
    rw [show i0 + (i + 2) = i0 + 2 + i by omega]
    exact List.mem_cons_of_mem _ this
theorem am_pad_mem : ∀ (n : Nat) (as : List am_V) (v : am_V), v ∈ am_pad n as → v = vU ∨ v ∈ as
  | 0, as, v, h => by simp [am_pad] at h
  | n + 1, [], v, h => by
    obtain ⟨i, hi⟩ := List.getElem?_of_mem h
    exact Or.inl (am_pad_nil (n + 1) i v hi)
  | n + 1, .inl (.inl x) :: l, v, h => by
    have h : v ∈ vI x :: am_pad n l := h
    rcases List.mem_cons.mp h with rfl | h
    · exact Or.inr List.mem_cons_self
    · exact (am_pad_mem n l v h).imp id (List.mem_cons_of_mem _)
  | n + 1, .inr x :: l, v, h => by
    have h : v ∈ (.inr x : am_V) :: am_pad n l := h
    rcases List.mem_cons.mp h with rfl | h
    · exact Or.inr List.mem_cons_self
    · exact (am_pad_mem n l v h).imp id (List.mem_cons_of_mem _)
  | 1, .inl (.inr x) :: l, v, h => by
    have h : v ∈ [vL x] := h
    exact Or.inr (by rw [List.mem_singleton.mp h]; exact List.mem_cons_self)
  | n + 2, .inl (.inr x) :: l, v, h => by
    have h : v ∈ vL x :: vU :: am_pad n l := h
    rcases List.mem_cons.mp h with rfl | h
    · exact Or.inr List.mem_cons_self
    · rcases List.mem_cons.mp h with rfl | h
      · exact Or.inl rfl
      · exact (am_pad_mem n l v h).imp id (List.mem_cons_of_mem _)
theorem am_sl_len {ad : Nat → Nat} : ∀ as : List am_V, (lg_sl (as.map (am_cv ad))).length = (as.map am_cat).sum
  | [] => rfl
  | v :: l => by
    have ih := am_sl_len (ad := ad) l
    show (lg_sl (am_cv ad v :: l.map (am_cv ad))).length = am_cat v + (l.map am_cat).sum
    unfold lg_sl at ih ⊢
    rw [List.flatMap_cons, List.length_append, ih]
    congr 1
    rcases v with (x | x) | _ | _ | a <;> rfl
/-- Met.ofW, for a method that no entry runs instead -/
theorem am_ofW {l : Launch} {y : MethodName} {ws ws' : List Cond} {rm : Room} {Pc : Array Value → State → Prop} {Qc : Array Value → State → Outcome → State → Prop} {mc ms : Nat} {free : Addr → Prop} {cc : ByteArray} {maxL : Nat} {ret : Option FieldType}
    (hy : plainFor y = true) (hw : ws = Cond.code y cc maxL ret :: ws')
    (body : ∀ p e s m args below meth c s₁, BodyLoose p l y (headSpec ws rm) cc maxL ret e s m args below meth c s₁ → c.maxLocals = maxL → Pc args s →
      W p l e (headSpec ws rm).room s m args below meth c s.heap [] 0 0 (MQ below Qc args s mc ms free) (entryFrame m args maxL)) : Met l y ws rm Pc Qc mc ms free := by
  refine MetFree.of_bodySF (code := cc) (maxLocals := maxL) (ret := ret) hy ?_ ?_
  · intro args s m h hn
    obtain ⟨meth, c, h1, h2, h3, h4, h5, h6, -, -⟩ := Cond.code_spec hn (atoms_spec (ws := ws) h _ (by rw [hw]; exact List.mem_cons_self))
    exact ⟨meth, c, h1, h2, h3, h4, h5, h6⟩
  · intro p e s m args below meth c s₁ B hml hP _
    have hh0 : s₁.heap = s.heap := by rw [B.state]; rfl
    obtain ⟨t, a1, o, b1, b2, b3⟩ := body p e s m args below meth c s₁ B hml hP s₁ hh0 (Stand.of_body B)
    exact ⟨t, o, a1, b1, b2, ⟨b3.1, b3.2⟩⟩
/-- a method: its name, its bytes, what it returns, its frames and locals -/
abbrev am_N : Type := MethodName × ByteArray × Option FieldType × Nat × Nat
def am_cb (Tb : List Cond) (fr lo : Nat) (mL : Nat) (N : am_N) (n : Nat) : Prop := Cond.code N.1 N.2.1 mL N.2.2.1 ∈ Tb ∧ Cond.initialized N.1.cls ∈ Tb ∧ (N.1.cls ≠ "java/lang/invoke/MethodHandle" ∧ N.1.cls ≠ "java/lang/invoke/VarHandle" ∧ (parseMethodDescriptor N.1.desc).map (fun d => d.parameters.length) = some n) ∧ N.2.2.2.1 + 1 ≤ fr ∧ 8 + (mL + 11) + N.2.2.2.2 ≤ lo
/-- what a call needs of the tables -/
def am_ck (P : am_P) (Ns : List am_N) (Tb : List Cond) (own : String) (fr lo : Nat) (row : am_I) : Prop := match row with
  | (.invokevirtual i, _, x, y) => ∃ (C : am_C) (mL : Nat) (N : am_N) (n : Nat), P.2[x % 1000]? = some (C, mL) ∧ Ns[x % 1000]? = some N ∧ am_cb Tb fr lo mL N n ∧ n + 1 = y ∧ 1000 ≤ x ∧ (∃ (T : u_T) (z : Nat), vwCl[x / 1000 - 1]? = some (N.1.cls, T, z)) ∧ Cond.methodLink own i N.1 ∈ Tb ∧ Cond.instanceMethod N.1 ∈ Tb ∧ Cond.selects N.1.cls N.1 N.1 ∈ Tb
  | (.invokestatic i, _, x, y) => x = 901 ∨ ∃ (C : am_C) (mL : Nat) (N : am_N) (n : Nat), P.2[x % 1000]? = some (C, mL) ∧ Ns[x % 1000]? = some N ∧ am_cb Tb fr lo mL N n ∧ n = y ∧ Cond.methodLink own i N.1 ∈ Tb ∧ Cond.static N.1 ∈ Tb
  | (.invokespecial i, _, x, y) => x = 900 ∨ ∃ (C : am_C) (mL : Nat) (N : am_N) (n : Nat), P.2[x % 1000]? = some (C, mL) ∧ Ns[x % 1000]? = some N ∧ am_cb Tb fr lo mL N n ∧ n + 1 = y ∧ 1000 ≤ x ∧ N.2.2.1 = none ∧ N.1.name = "<init>" ∧ Cond.instanceMethod N.1 ∈ Tb ∧ (Cond.methodLink own i N.1 ∈ Tb ∨ (own = "StrandBoxes" ∧ ((i = 27 ∧ N.1 = yX3_init) ∨ (i = 34 ∧ N.1 = yX1_init))))
  | _ => True
/-- what a return needs -/
def am_rt (ret : Option FieldType) (row : am_I) : Prop := match row with
  | (.ireturn, _, x, _) => (x = 0 ∧ ret = some .int) ∨ (x = 1 ∧ ret = some .boolean)
  | (.lreturn, _, x, _) => x = 2 ∧ ret = some .long
  | (.return_, _, _, _) => ret = none
  | _ => True
/-- the code tables are the bytes', the tables have what they need -/
def am_Ok (P : am_P) (Ns : List am_N) (Tb : List Cond) : Prop := (∀ w ∈ Tb, (w.onTables && w.keeps) = true ∨ ∃ ty, w = .arrayClass ty) ∧
  ∀ (j : Nat) (C : am_C) (mL : Nat) (N : am_N), P.2[j]? = some (C, mL) → Ns[j]? = some N → plainFor N.1 = true ∧ ∀ (pc : Nat) (row : am_I), am_row C pc = some row → decode N.2.1 pc = .ok (row.1, row.2.1) ∧ (∀ mc ms : Nat, am_rk P.1 N.1.cls (N.1.name = "<init>") Tb { frames := N.2.2.2.1, cells := mc, slots := ms, locals := N.2.2.2.2 } pc row) ∧ am_ck P Ns Tb N.1.cls N.2.2.2.1 N.2.2.2.2 row ∧ am_rt N.2.2.1 row
/-- from any state of a method, by a run of at most n steps -/
def am_GS (P : am_P) (Ns : List am_N) (Tb : List Cond) (l : Launch) (D : va_G) (ca : Nat → ClassId) (n : Nat) : Prop :=
  ∀ (j : Nat) (C : am_C) (mL : Nat) (y : MethodName) (bytes : ByteArray) (ret : Option FieldType) (fr lo : Nat), P.2[j]? = some (C, mL) → Ns[j]? = some (y, bytes, ret, fr, lo) →
  ∀ (p : Program) (e : Env) (s : State) (m : MethodId) (args : Array Value) (below : List Frame) (meth : Method) (c : Code), p.tables.exec = Jvm.exec → c.code = bytes → c.maxLocals = mL → s.vm.findClass y.cls = some m.cls → (∀ w ∈ Tb, w.before args s = true) → am_KK D ca s → meth.sig.returnType = ret → meth.locks = false → meth.name = y.name →
  ∀ (ad0 : Nat → Nat) (h0 h2 : am_H) (r : Option am_V) (t : am_S), am_x P n C t = some (r, h2) → h0.1 ≤ t.2.2.2.1 → h0.2.1 ≤ t.2.2.2.2.1 → am_G p l e ({ frames := fr, cells := h2.1 - h0.1, slots := h2.2.1 - h0.2.1, locals := lo } : Room) s m args below meth c (MQ below (am_Qc D ca P.1 ad0 h0 r h2 s.heap.size) args s (h2.1 - h0.1) (h2.2.1 - h0.2.1) (va_A (am_ws ad0 ca h0) s.heap.size)) D ca P.1 (va_A (am_ws ad0 ca h0) s.heap.size) h0.1 h0.2.1 ad0 mL t
/-- a method's contract, by a run of at most n steps -/
def am_SS (P : am_P) (Ns : List am_N) (Tb : List Cond) (l : Launch) (D : va_G) (ca : Nat → ClassId) (n : Nat) : Prop :=
  ∀ (j : Nat) (C : am_C) (mL : Nat) (N : am_N), P.2[j]? = some (C, mL) → Ns[j]? = some N → ∀ (as : List am_V) (h0 h2 : am_H) (r : Option am_V), am_x P n C (0, am_pad mL as, [], h0) = some (r, h2) → am_gd P.1 h0 → (∀ v ∈ as, am_vk h0.1 v) → (as.map am_cat).sum ≤ mL → ∀ (ad : Nat → Nat) (sz : Nat),
    Met l N.1 (Cond.code N.1 N.2.1 mL N.2.2.1 :: Tb) { frames := N.2.2.2.1, cells := h2.1 - h0.1, slots := h2.2.1 - h0.2.1, locals := N.2.2.2.2 } (am_Pc D ca (am_KK D ca) ad as h0 sz) (am_Qc D ca P.1 ad h0 r h2 sz) (h2.1 - h0.1) (h2.2.1 - h0.2.1) (va_A (am_ws ad ca h0) sz)
theorem am_SS_of {P : am_P} {Ns : List am_N} {Tb : List Cond} {l : Launch} {D : va_G} {ca : Nat → ClassId} {n : Nat} (ok : am_Ok P Ns Tb) (hG : am_GS P Ns Tb l D ca n) : am_SS P Ns Tb l D ca n := by
  intro j C mL N hj hN as h0 h2 r hx0 hg hv hcat ad sz
  obtain ⟨y, bytes, ret, fr, lo⟩ := N
  refine am_ofW (cc := bytes) (maxL := mL) (ret := ret) (ok.2 j C mL _ hj hN).1 rfl ?_
  intro p e s m args below meth c s₁ B hml hv0
  obtain ⟨rfl, hsz, hP, hK, hD0⟩ := hv0
  have hts := atoms_spec (ws := Cond.code y bytes mL ret :: Tb) B.pre
  subst hsz
  have hl := lv_entry (as.map (am_cv ad)) (n := mL) (by rw [am_sl_len]; exact hcat)
  rw [lg_entry_eq]
  generalize (lg_sl (as.map (am_cv ad)) ++ List.replicate (mL - (lg_sl (as.map (am_cv ad))).length) Slot.unset).toArray = LS at hl ⊢
  have K := hG j C mL y bytes ret fr lo hj hN p e s m _ below meth c B.exec B.bytes hml (findClass_of_methodNamed B.named) (fun w hw => hts w (List.mem_cons_of_mem _ hw)) hK B.returns B.notSynchronized (name_of_methodNamed B.named B.method).1 ad h0 h2 r (0, am_pad mL as, [], h0) hx0 (Nat.le_refl _) (Nat.le_refl _)
  have K2 := K ad s.heap [] LS (fun _ _ => rfl) (Nat.le_refl _) (Nat.le_refl _) hg (fun v hv => by simp at hv) (fun v hv9 => (am_pad_mem mL as v hv9).imp id (hv v)) hP hD0.self va_S.rf ?_ (am_pad_len mL as)
  · exact W.cs (show 0 = h0.1 - h0.1 by omega) (show 0 = h0.2.1 - h0.2.1 by omega) K2
  · refine ⟨by rw [am_pad_len]; exact hl.1, hl.2.1, fun q hq => hl.2.2 q ?_⟩
    obtain ⟨v, q1, q2, q3⟩ := am_lvl_mem.mp hq
    have := am_pad_at (ad := ad) mL as 0 q.1 v q1 q2
    rw [Nat.zero_add, ← q3] at this
    exact this
theorem am_cw {R : Room} {s : State} {args : Array Value} {Tb : List Cond} {own : String} {i mL n mc ms fr lo : Nat} {N : am_N} (hg : ∀ w ∈ Tb, (w.onTables && w.keeps) = true ∨ ∃ ty, w = .arrayClass ty) (hts : ∀ w ∈ Tb, w.before args s = true) (hR1 : R.frames = fr) (hR2 : R.locals = lo) (h : am_cb Tb fr lo mL N n) (hl : (Cond.methodLink own i N.1).before args s = true) :
    CallB R s args own i N.1 N.2.1 mL N.2.2.1 (Cond.code N.1 N.2.1 mL N.2.2.1 :: Tb) { frames := N.2.2.2.1, cells := mc, slots := ms, locals := N.2.2.2.2 } mc ms n := by
  obtain ⟨h1, h2, h3, h4, h5⟩ := h
  exact callB_of n hts (fun w hw => (List.mem_cons.mp hw).elim (fun q => by rw [q]; exact ⟨h1, hg _ h1⟩) (fun q => ⟨q, hg w q⟩)) rfl rfl rfl (hts _ h2) hl h3 ⟨by rw [hR1]; exact h4, by rw [hR2]; exact h5⟩
theorem am_cn {R : Room} {s : State} {args : Array Value} {Tb : List Cond} {own host : String} {i mL n mc ms fr lo : Nat} {N : am_N} (hg : ∀ w ∈ Tb, (w.onTables && w.keeps) = true ∨ ∃ ty, w = .arrayClass ty) (hts : ∀ w ∈ Tb, w.before args s = true) (hR1 : R.frames = fr) (hR2 : R.locals = lo) (h : am_cb Tb fr lo mL N n) (hl : va_Nw (.methodLinkNest own i N.1 host) s) :
    va_CN R s args own i N.1 host N.2.1 mL N.2.2.1 (Cond.code N.1 N.2.1 mL N.2.2.1 :: Tb) { frames := N.2.2.2.1, cells := mc, slots := ms, locals := N.2.2.2.2 } mc ms n := by
  obtain ⟨h1, h2, h3, h4, h5⟩ := h
  exact va_cnB n hts (fun w hw => (List.mem_cons.mp hw).elim (fun q => by rw [q]; exact ⟨h1, hg _ h1⟩) (fun q => ⟨q, hg w q⟩)) rfl rfl rfl hl (hts _ h2) h3 ⟨by rw [hR1]; exact h4, by rw [hR2]; exact h5⟩
theorem am_rcv_inv {h : am_H} {x : Nat} {as : List am_V} (hx : 1000 ≤ x) (h9 : am_rcv h x as = true) : ∃ a as2, as = vR a :: as2 ∧ a < h.1 ∧ (h.2.2 a).1 = 9 + x / 1000 := by
  unfold am_rcv at h9
  rw [if_neg (by omega)] at h9
  split at h9
  · rename_i a as2
    simp only [Bool.and_eq_true, decide_eq_true_eq] at h9
    exact ⟨a, as2, rfl, h9.1, h9.2⟩
  · cases h9
theorem am_st_rev {ad : Nat → Nat} {a : Nat} {as2 rest : List am_V} : ((vR a :: as2).reverse ++ rest).map (am_cv ad) = (as2.map (am_cv ad)).reverse ++ .ref (ad a) :: rest.map (am_cv ad) := by
  rw [List.reverse_cons, List.append_assoc, List.map_append, List.map_reverse]
  rfl
set_option maxHeartbeats 4000000 in
theorem am_GS_succ {P : am_P} {Ns : List am_N} {Tb : List Cond} {l : Launch} {D : va_G} {ca : Nat → ClassId} {n : Nat} (ok : am_Ok P Ns Tb) (hG : am_GS P Ns Tb l D ca n) : am_GS P Ns Tb l D ca (n + 1) := by
  have hS := am_SS_of ok hG
  intro j C mL y bytes ret fr lo hj hN p e s m args below meth c hx hb hml hown hts hK hr hlocks hnm ad0 h0 h2 r t hrun ht1 ht2
  obtain ⟨hgood, hok⟩ := ok
  obtain ⟨-, hrow⟩ := hok j C mL _ hj hN
  obtain ⟨pc, ls, st, h⟩ := t
  have ht1 : h0.1 ≤ h.1 := ht1
  have ht2 : h0.2.1 ≤ h.2.1 := ht2
  have hA : ∀ q, s.heap.size ≤ q → va_A (am_ws ad0 ca h0) s.heap.size q := fun q hq => Or.inr hq
  unfold am_x at hrun
  split at hrun
  · cases hrun
  · rename_i t2 e1
    obtain ⟨row, g1, g2⟩ := mn_1 e1
    obtain ⟨ins, len, x, z⟩ := row
    obtain ⟨r1, r2, -, -⟩ := hrow pc _ g1
    have m1 := mn_sem g2
    have m2 := mn_x n hrun
    have r3 := r2 (h2.1 - h0.1) (h2.2.1 - h0.2.1)
    rw [← hnm] at r3
    exact am_sim hx hb hml hown hts hK.1 hK.2.2.2 hA r1 r3 g2 (show t2.2.2.2.1 - h0.1 ≤ h2.1 - h0.1 by have := m2.1; omega) (show t2.2.2.2.2.1 - h0.2.1 ≤ h2.2.1 - h0.2.1 by have := m2.2; omega)
      (hG j C mL y bytes ret fr lo hj hN p e s m args below meth c hx hb hml hown hts hK hr hlocks hnm ad0 h0 h2 r t2 hrun (Nat.le_trans ht1 m1.1) (Nat.le_trans ht2 m1.2))
  · rename_i q e1
    obtain ⟨row, g1, g2⟩ := mn_1 e1
    obtain ⟨ins, len, x, z⟩ := row
    obtain ⟨r1, r2, r3, -⟩ := hrow pc _ g1
    have r2 := r2 (h2.1 - h0.1) (h2.2.1 - h0.2.1)
    split at hrun
    · cases hrun
    · rename_i M hM
      obtain ⟨C3, mL3⟩ := M
      split at hrun
      · rename_i hcat
        split at hrun
        · cases hrun
        · rename_i rr hcal
          obtain ⟨r4, h4⟩ := rr
          obtain ⟨i9, hins, nx1, nx2, hz, hc8, hrcv, hq⟩ : ∃ i9, (ins = .invokevirtual i9 ∨ ins = .invokestatic i9 ∨ ins = .invokespecial i9) ∧ x ≠ 900 ∧ x ≠ 901 ∧ z ≤ st.length ∧ ((st.drop z).map am_cat).sum ≤ 8 ∧ am_rcv h x (st.take z).reverse = true ∧ q = (x % 1000, (st.take z).reverse, pc + len, ls, st.drop z, h) := by
            rcases am_kind g2 with ⟨t9, q9⟩ | ⟨i9, q8, q9⟩ | ⟨-, q9⟩ | ⟨-, q9⟩
            · cases q9
            · rcases iv_inv q9 with ⟨-, a, -, e2⟩ | ⟨-, e2⟩ | ⟨q1, q2, q3, q4, q5, e2⟩
              · cases e2
              · obtain ⟨_, _, _, _, _, -, -, e3⟩ := iv_acopy e2
                cases e3
              · cases e2
                exact ⟨i9, q8, q1, q2, q3, q4, q5, rfl⟩
            · obtain ⟨v, -, -, e2⟩ := iv_ret q9
              cases e2
            · obtain ⟨-, e2⟩ := iv_retv q9
              cases e2
          subst hq
          have hlen : len = 3 := by
            rcases hins with rfl | rfl | rfl <;> exact r2.1
          subst hlen
          have hM : P.2[x % 1000]? = some (C3, mL3) := hM
          have m3 := mn_x n hcal
          have m4 := mn_x n hrun
          have m3a : h.1 ≤ h4.1 := m3.1
          have m3b : h.2.1 ≤ h4.2.1 := m3.2
          have m4a : h4.1 ≤ h2.1 := m4.1
          have m4b : h4.2.1 ≤ h2.2.1 := m4.2
          have kont := hG j C mL y bytes ret fr lo hj hN p e s m args below meth c hx hb hml hown hts hK hr hlocks hnm ad0 h0 h2 r _ hrun (show h0.1 ≤ h4.1 by omega) (show h0.2.1 ≤ h4.2.1 by omega)
          have hst : st = (st.take z).reverse.reverse ++ st.drop z := by rw [List.reverse_reverse, List.take_append_drop]
          have hzl : ((st.take z).reverse).length = z := by rw [List.length_reverse, List.length_take]; omega
          generalize hasd : (st.take z).reverse = as at hst hrcv hcal hzl
          generalize hrsd : st.drop z = rest at hst hc8 kont
          rw [hst]
          have hcal : am_x P n C3 (0, am_pad mL3 as, [], h) = some (r4, h4) := hcal
          have hcat : (as.map am_cat).sum ≤ mL3 := by rw [← hasd]; exact hcat
          refine sm_back (a := #[]) (mc := h4.1 - h.1) (ms := h4.2.1 - h.2.1) hA rfl rfl (fun ad H locs LS k1 k2 k3 k4 k5 k6 k7 => ?_) kont
          have hva : ∀ v ∈ as, am_vk h.1 v := fun v hv => k4 v (List.mem_append_left _ (List.mem_reverse.mpr hv))
          have hW8 : 2 * (F0 m pc LS ((as.reverse ++ rest).map (am_cv ad))).monitorRoom + ((rest.map (am_cv ad)).map fun v => v.category).sum ≤ 8 := lv_room (by rw [am_cat_sum]; exact hc8)
          have hf8 : h.1 - h0.1 + (h4.1 - h.1) ≤ h2.1 - h0.1 ∧ h.2.1 - h0.2.1 + (h4.2.1 - h.2.1) ≤ h2.2.1 - h0.2.1 := ⟨by omega, by omega⟩
          rcases hins with rfl | rfl | rfl
          · obtain ⟨C5, mL5, N5, n5, c1, c2, c3, c4, c5, ⟨T5, z5, c6⟩, c7, c8, c9⟩ := r3
            rw [hM] at c1
            cases c1
            obtain ⟨a, as2, rfl, b1, b2⟩ := am_rcv_inv c5 hrcv
            have hMet := hS _ _ _ _ hM c2 _ _ _ _ hcal k3 hva hcat ad H.size
            have cw := am_cw (R := { frames := fr, cells := h2.1 - h0.1, slots := h2.2.1 - h0.2.1, locals := lo }) (own := y.cls) (i := i9) (mc := h4.1 - h.1) (ms := h4.2.1 - h.2.1) hgood hts rfl rfl c3 (hts _ c7)
            rw [am_st_rev] at hW8 ⊢
            exact va_runV (As := as2.map (am_cv ad)) (b := ad a) (C := N5.1.cls) ⟨hx, hb, hml, hown, hts⟩ hMet ⟨cw, hts _ c8, hts _ c9⟩ ⟨am_Pc.blind, va_recv hK.1 k5 c6 ((am_ws_at b1).trans (by rw [am_ce_obj (x := x / 1000 - 1) (by omega)])), am_Pc.at (as := vR a :: as2) hK k5 k6⟩ rfl (by rw [List.length_map]; simp at hzl; omega) k7 rfl hW8 r1 hf8
          · rcases r3 with r3 | ⟨C5, mL5, N5, n5, c1, c2, c3, c4, c7, c8⟩
            · exact absurd r3 nx2
            · rw [hM] at c1
              cases c1
              have hMet := hS _ _ _ _ hM c2 _ _ _ _ hcal k3 hva hcat ad H.size
              have cw := am_cw (R := { frames := fr, cells := h2.1 - h0.1, slots := h2.2.1 - h0.2.1, locals := lo }) (own := y.cls) (i := i9) (mc := h4.1 - h.1) (ms := h4.2.1 - h.2.1) hgood hts rfl rfl c3 (hts _ c7)
              rw [List.map_append, List.map_reverse] at hW8 ⊢
              exact va_runS (As := as.map (am_cv ad)) ⟨hx, hb, hml, hown, hts⟩ hMet ⟨cw, hts _ c8⟩ ⟨am_Pc.blind, am_Pc.at hK k5 k6⟩ rfl (by rw [List.length_map]; omega) k7 rfl hW8 r1 hf8
          · rcases r3 with r3 | ⟨C5, mL5, N5, n5, c1, c2, c3, c4, c5, c6, c7, c8, c9⟩
            · exact absurd r3 nx1
            · rw [hM] at c1
              cases c1
              obtain ⟨a, as2, rfl, b1, b2⟩ := am_rcv_inv c5 hrcv
              have hMet := hS _ _ _ _ hM c2 _ _ _ _ hcal k3 hva hcat ad H.size
              obtain ⟨y5, b5, ret5, fr5, lo5⟩ := N5
              have c6 : ret5 = none := c6
              subst c6
              rw [am_st_rev] at hW8 ⊢
              rcases c9 with c9 | ⟨o1, o2⟩
              · have cw := am_cw (R := { frames := fr, cells := h2.1 - h0.1, slots := h2.2.1 - h0.2.1, locals := lo }) (own := y.cls) (i := i9) (mc := h4.1 - h.1) (ms := h4.2.1 - h.2.1) hgood hts rfl rfl c3 (hts _ c9)
                exact va_runI (As := as2.map (am_cv ad)) (b := ad a) ⟨hx, hb, hml, hown, hts⟩ hMet ⟨cw, c7, hts _ c8⟩ ⟨am_Pc.blind, am_Pc.at (as := vR a :: as2) hK k5 k6⟩ rfl (by rw [List.length_map]; simp at hzl; omega) k7 rfl hW8 r1 hf8
              · have hnest : va_Nw (.methodLinkNest y.cls i9 y5 "StrandBoxes") s := by
                  rw [o1]
                  rcases o2 with ⟨rfl, o3⟩ | ⟨rfl, o3⟩
                  · have o3 : y5 = yX3_init := o3
                    rw [o3]
                    exact hK.2.1
                  · have o3 : y5 = yX1_init := o3
                    rw [o3]
                    exact hK.2.2.1
                have cw := am_cn (R := { frames := fr, cells := h2.1 - h0.1, slots := h2.2.1 - h0.2.1, locals := lo }) (own := y.cls) (i := i9) (mc := h4.1 - h.1) (ms := h4.2.1 - h.2.1) hgood hts rfl rfl c3 hnest
                exact va_runIN (As := as2.map (am_cv ad)) (b := ad a) ⟨hx, hb, hml, hown, hts⟩ hMet ⟨cw, c7, hts _ c8⟩ ⟨am_Pc.blind, am_Pc.at (as := vR a :: as2) hK k5 k6⟩ rfl (by rw [List.length_map]; simp at hzl; omega) k7 rfl hW8 r1 hf8
      · cases hrun
  · rename_i q e1
    obtain ⟨row, g1, g2⟩ := mn_1 e1
    obtain ⟨ins, len, x, z⟩ := row
    obtain ⟨r1, r2, -, r4⟩ := hrow pc _ g1
    have r2 := r2 0 0
    have hq := Option.some.inj hrun
    subst hq
    rcases am_kind g2 with ⟨t9, q9⟩ | ⟨i9, q8, q9⟩ | ⟨q8, q9⟩ | ⟨rfl, q9⟩
    · cases q9
    · rcases iv_inv q9 with ⟨-, a, -, e2⟩ | ⟨-, e2⟩ | ⟨q1, q2, q3, q4, q5, e2⟩
      · cases e2
      · obtain ⟨_, _, _, _, _, -, -, e3⟩ := iv_acopy e2
        cases e3
      · cases e2
    · obtain ⟨v, rfl, q1, e2⟩ := iv_ret q9
      cases e2
      have hlen : len = 1 := by
        rcases q8 with rfl | rfl <;> exact r2
      subst hlen
      refine sm_ret (x := x) (len := 1) hx hb hr hlocks r1 rfl ?_ q1
      rcases q8 with rfl | rfl
      · exact r4.elim (fun g => Or.inl ⟨rfl, g.1, g.2⟩) (fun g => Or.inr (Or.inl ⟨rfl, g.1, g.2⟩))
      · exact Or.inr (Or.inr ⟨rfl, r4.1, r4.2⟩)
    · obtain ⟨rfl, e2⟩ := iv_retv q9
      cases e2
      have hlen : len = 1 := r2
      subst hlen
      have r4 : ret = none := r4
      subst r4
      exact sm_retv hx hb hr hlocks r1 rfl
theorem am_GS_all {P : am_P} {Ns : List am_N} {Tb : List Cond} {l : Launch} {D : va_G} {ca : Nat → ClassId} (ok : am_Ok P Ns Tb) : ∀ n, am_GS P Ns Tb l D ca n
  | 0 => fun j C mL y bytes ret fr lo hj hN p e s m args below meth c hx hb hml hown hts hK hr hlocks hnm ad0 h0 h2 r t hrun => by cases hrun
  | n + 1 => am_GS_succ ok (am_GS_all ok n)
/-- A RUN OF THE SMALL MACHINE IS A CONTRACT OF THE METHOD -/
theorem am_sound {P : am_P} {Ns : List am_N} {Tb : List Cond} {l : Launch} {D : va_G} {ca : Nat → ClassId} (ok : am_Ok P Ns Tb) (n : Nat) : am_SS P Ns Tb l D ca n := am_SS_of ok (am_GS_all ok n)
