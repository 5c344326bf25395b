/-! The tables' check, as a computation, and what it says. -/
def am_Tb : List Cond := lw_tbl.filter goodWord
def ck_w (hs : List Nat) (i : Nat) (w : Cond) : Bool := (match hs[i]? with
  | some k => decide (lw_tbl[k]? = some w)
  | none => false) && goodWord w
theorem ck_w_ok {hs : List Nat} {i : Nat} {w : Cond} (h : ck_w hs i w = true) : w ∈ am_Tb := by
  unfold ck_w at h
  rw [Bool.and_eq_true] at h
  obtain ⟨h1, h2⟩ := h
  split at h1
  · rename_i k hk
    exact List.mem_filter.mpr ⟨List.mem_of_getElem? (of_decide_eq_true h1), h2⟩
  · cases h1
theorem am_Tb_good : ∀ w ∈ am_Tb, (w.onTables && w.keeps) = true ∨ ∃ ty, w = .arrayClass ty := fun w hw => good_of_word (List.mem_filter.mp hw).2
def am_tyf (x : Nat) : Nat → FieldType := [tyX0, tyX1, tyX2, tyX3, tyX4].getD x tyX5
def ck_32 (n : Int) : Bool := decide (-2147483648 ≤ n) && decide (n < 2147483648)
theorem ck_32_ok {n : Int} (h : ck_32 n = true) : am_r32 n := by
  unfold ck_32 at h
  simp only [Bool.and_eq_true, decide_eq_true_eq] at h
  exact h
def ck_64 (n : Int) : Bool := decide (-9223372036854775808 ≤ n) && decide (n < 9223372036854775808)
theorem ck_64_ok {n : Int} (h : ck_64 n = true) : am_r64 n := by
  unfold ck_64 at h
  simp only [Bool.and_eq_true, decide_eq_true_eq] at h
  exact h
def ck_cls (x : Nat) (f : String → u_T → Nat → Bool) : Bool := match vwCl[x]? with
  | some (C, T, N) => f C T N
  | none => false
theorem ck_cls_ok {x : Nat} {f : String → u_T → Nat → Bool} (h : ck_cls x f = true) : ∃ C T N, vwCl[x]? = some (C, T, N) ∧ f C T N = true := by
  unfold ck_cls at h
  split at h
  · rename_i C T N e
    exact ⟨C, T, N, e, h⟩
  · cases h
def ck_rk (own : String) (ini : Bool) (fr lo : Nat) (pc : Nat) (row : am_I) (hs : List Nat) : Bool := match row with
  | (.iconst n, len, _, _) => len == 1 && ck_32 n
  | (.bipush n, len, _, _) => len == 2 && (ck_32 n && decide ((Int8.ofInt n).toInt32 = Int32.ofInt n))
  | (.sipush n, len, _, _) => len == 3 && (ck_32 n && decide ((Int16.ofInt n).toInt32 = Int32.ofInt n))
  | (.lconst _, len, _, _) => len == 1
  | (.ldc i, len, x, y) => len == 2 && (ck_32 (am_cst x y) && ck_w hs 0 (.constant own i (Int32.ofInt (am_cst x y))))
  | (.ldc2_w i, len, x, y) => len == 3 && (ck_64 (am_cst x y) && ck_w hs 0 (.constantLong own i (Int64.ofInt (am_cst x y))))
  | (.iload_n _, len, _, _) => len == 1
  | (.iload _, len, _, _) => len == 2
  | (.lload_n _, len, _, _) => len == 1
  | (.lload _, len, _, _) => len == 2
  | (.aload_n _, len, _, _) => len == 1
  | (.aload _, len, _, _) => len == 2
  | (.istore_n _, len, _, _) => len == 1
  | (.istore _, len, _, _) => len == 2
  | (.lstore_n _, len, _, _) => len == 1
  | (.lstore _, len, _, _) => len == 2
  | (.astore_n _, len, _, _) => len == 1
  | (.astore _, len, _, _) => len == 2
  | (.iinc _ _, len, _, _) => len == 3
  | (.ifCond _ off, len, x, _) => len == 3 && decide ((pc : Int) + off = (x : Int))
  | (.if_icmp _ off, len, x, _) => len == 3 && decide ((pc : Int) + off = (x : Int))
  | (.goto off, len, x, _) => len == 3 && decide ((pc : Int) + off = (x : Int))
  | (.tableswitch d _ _ offs, _, _, _) => decide (0 ≤ (pc : Int) + d) && offs.toList.all (fun o => decide (0 ≤ (pc : Int) + o))
  | (.getfield i, len, x, y) => len == 3 && ck_cls x (fun _ T N => decide (y < N) && ck_w hs 0 (.fieldLink own i (T y).1 (T y).2.1 (T y).2.2.1))
  | (.putfield i, len, x, y) => len == 3 && ck_cls x (fun _ T N => decide (y < N) && (ck_w hs 0 (.fieldLink own i (T y).1 (T y).2.1 (T y).2.2.1) && (am_tk (ac_ft x y) (am_tyf x y) && (!(T y).2.2.2 || ((T y).2.2.2 && (ini && decide ((T y).1 = own)))))))
  | (.new i, len, x, y) => len == 3 && ck_cls x (fun C _ N => N == y && (ck_w hs 0 (.classLink own i C) && (ck_w hs 1 (.instantiable C y) && ck_w hs 2 (.initialized C))))
  | (.newarray at9, len, x, _) => len == 2 && (decide (newarray.typeOf at9 = am_ty x) && ck_w hs 0 (.arrayClass (newarray.typeOf at9)))
  | (.anewarray i, len, x, _) => len == 3 && (match am_ty x with
    | .object C => ck_w hs 0 (.classLink own i C)
    | _ => false)
  | (.multianewarray i d, len, _, _) => len == 4 && (d == 2 && (ck_w hs 0 (.classLink own i ("[" ++ (FieldType.array .int).toString)) && ck_w hs 1 (.arrayClass .int)))
  | (.invokevirtual _, len, x, _) => len == 3 && (x != 900 && x != 901)
  | (.invokestatic i, len, x, _) => len == 3 && (x != 900 && (x != 901 || (ck_w hs 0 (.methodLink own i arraycopyName) && (ck_w hs 1 (.native arraycopyName) && (ck_w hs 2 (.static arraycopyName) && (ck_w hs 3 (.initialized "java/lang/System") && (decide (1 ≤ fr) && decide (nativeFrameWords "java/lang/System" "arraycopy" 5 + 11 ≤ lo))))))))
  | (.invokespecial i, len, x, _) => len == 3 && (x != 901 && (x != 900 || (ck_w hs 0 (.methodLink own i Lib.objectInit) && (ck_w hs 1 (.instanceMethod Lib.objectInit) && (ck_w hs 2 (.code Lib.objectInit ⟨#[0xb1]⟩ 1 none) && (decide (1 ≤ fr) && decide (12 ≤ lo)))))))
  | (.iadd, len, _, _) => len == 1
  | (.isub, len, _, _) => len == 1
  | (.imul, len, _, _) => len == 1
  | (.idiv, len, _, _) => len == 1
  | (.irem, len, _, _) => len == 1
  | (.ineg, len, _, _) => len == 1
  | (.iand, len, _, _) => len == 1
  | (.ixor, len, _, _) => len == 1
  | (.ishl, len, _, _) => len == 1
  | (.ishr, len, _, _) => len == 1
  | (.ladd, len, _, _) => len == 1
  | (.lmul, len, _, _) => len == 1
  | (.ldiv, len, _, _) => len == 1
  | (.lneg, len, _, _) => len == 1
  | (.land, len, _, _) => len == 1
  | (.lor, len, _, _) => len == 1
  | (.lshl, len, _, _) => len == 1
  | (.lshr, len, _, _) => len == 1
  | (.lushr, len, _, _) => len == 1
  | (.lcmp, len, _, _) => len == 1
  | (.i2l, len, _, _) => len == 1
  | (.l2i, len, _, _) => len == 1
  | (.iaload, len, _, _) => len == 1
  | (.baload, len, _, _) => len == 1
  | (.laload, len, _, _) => len == 1
  | (.aaload, len, _, _) => len == 1
  | (.iastore, len, _, _) => len == 1
  | (.bastore, len, _, _) => len == 1
  | (.lastore, len, _, _) => len == 1
  | (.aastore, len, _, _) => len == 1
  | (.arraylength, len, _, _) => len == 1
  | (.dup, len, _, _) => len == 1
  | (.dup2, len, _, _) => len == 1
  | (.pop, len, _, _) => len == 1
  | (.pop2, len, _, _) => len == 1
  | (.ireturn, len, _, _) => len == 1
  | (.lreturn, len, _, _) => len == 1
  | (.return_, len, _, _) => len == 1
  | _ => false
/-- what is said of each class once -/
def am_cl6 : Prop := ∀ (x : Nat) (C : String) (T : u_T) (N : Nat), vwCl[x]? = some (C, T, N) → (∀ w ∈ u_ws C T N, w ∈ am_Tb) ∧ (∀ k, k < N → parseFieldDescriptor (T k).2.2.1 = some (am_tyf x k)) ∧ (∀ a, a < N → ∀ b, b < N → a ≠ b → (T a).2.1 ≠ (T b).2.1) ∧ (∀ k, k < N → am_tk (ac_ft x k) (am_tyf x k) = true)
set_option maxHeartbeats 4000000 in
theorem ck_rk_ok (hcl : am_cl6) {own : String} {ini : Bool} {fr lo pc : Nat} {row : am_I} {hs : List Nat} (hc : ck_rk own ini fr lo pc row hs = true) : ∀ mc ms : Nat, am_rk ac_ft own (ini = true) am_Tb { frames := fr, cells := mc, slots := ms, locals := lo } pc row := by
  obtain ⟨ins, len, x, y⟩ := row
  cases ins
  case iconst n =>
    have hc := (Bool.and_eq_true _ _ ▸ hc : (len == 1) = true ∧ ck_32 n = true)
    exact fun mc ms => ⟨eq_of_beq hc.1, ck_32_ok hc.2⟩
  case bipush n =>
    have hc : (len == 2 && (ck_32 n && decide ((Int8.ofInt n).toInt32 = Int32.ofInt n))) = true := hc
    simp only [Bool.and_eq_true, decide_eq_true_eq] at hc
    exact fun mc ms => ⟨eq_of_beq hc.1, ck_32_ok hc.2.1, hc.2.2⟩
  case sipush n =>
    have hc : (len == 3 && (ck_32 n && decide ((Int16.ofInt n).toInt32 = Int32.ofInt n))) = true := hc
    simp only [Bool.and_eq_true, decide_eq_true_eq] at hc
    exact fun mc ms => ⟨eq_of_beq hc.1, ck_32_ok hc.2.1, hc.2.2⟩
  case ldc i =>
    have hc : (len == 2 && (ck_32 (am_cst x y) && ck_w hs 0 (.constant own i (Int32.ofInt (am_cst x y))))) = true := hc
    simp only [Bool.and_eq_true] at hc
    exact fun mc ms => ⟨eq_of_beq hc.1, ck_32_ok hc.2.1, ck_w_ok hc.2.2⟩
  case ldc2_w i =>
    have hc : (len == 3 && (ck_64 (am_cst x y) && ck_w hs 0 (.constantLong own i (Int64.ofInt (am_cst x y))))) = true := hc
    simp only [Bool.and_eq_true] at hc
    exact fun mc ms => ⟨eq_of_beq hc.1, ck_64_ok hc.2.1, ck_w_ok hc.2.2⟩
  case lconst _ =>
    exact fun mc ms => eq_of_beq hc
  case iload_n _ =>
    exact fun mc ms => eq_of_beq hc
  case iload _ =>
    exact fun mc ms => eq_of_beq hc
  case lload_n _ =>
    exact fun mc ms => eq_of_beq hc
  case lload _ =>
    exact fun mc ms => eq_of_beq hc
  case aload_n _ =>
    exact fun mc ms => eq_of_beq hc
  case aload _ =>
    exact fun mc ms => eq_of_beq hc
  case istore_n _ =>
    exact fun mc ms => eq_of_beq hc
  case istore _ =>
    exact fun mc ms => eq_of_beq hc
  case lstore_n _ =>
    exact fun mc ms => eq_of_beq hc
  case lstore _ =>
    exact fun mc ms => eq_of_beq hc
  case astore_n _ =>
    exact fun mc ms => eq_of_beq hc
  case astore _ =>
    exact fun mc ms => eq_of_beq hc
  case iinc _ _ =>
    exact fun mc ms => eq_of_beq hc
  case ifCond c off =>
    have hc : (len == 3 && decide ((pc : Int) + off = (x : Int))) = true := hc
    simp only [Bool.and_eq_true, decide_eq_true_eq] at hc
    exact fun mc ms => ⟨eq_of_beq hc.1, hc.2⟩
  case if_icmp c off =>
    have hc : (len == 3 && decide ((pc : Int) + off = (x : Int))) = true := hc
    simp only [Bool.and_eq_true, decide_eq_true_eq] at hc
    exact fun mc ms => ⟨eq_of_beq hc.1, hc.2⟩
  case goto off =>
    have hc : (len == 3 && decide ((pc : Int) + off = (x : Int))) = true := hc
    simp only [Bool.and_eq_true, decide_eq_true_eq] at hc
    exact fun mc ms => ⟨eq_of_beq hc.1, hc.2⟩
  case tableswitch d lo9 hi9 offs =>
    have hc : (decide (0 ≤ (pc : Int) + d) && offs.toList.all (fun o => decide (0 ≤ (pc : Int) + o))) = true := hc
    simp only [Bool.and_eq_true, decide_eq_true_eq, List.all_eq_true] at hc
    exact fun mc ms => ⟨hc.1, hc.2⟩
  case getfield i =>
    have hc : (len == 3 && ck_cls x (fun _ T N => decide (y < N) && ck_w hs 0 (.fieldLink own i (T y).1 (T y).2.1 (T y).2.2.1))) = true := hc
    rw [Bool.and_eq_true] at hc
    obtain ⟨C, T, N, e, hf⟩ := ck_cls_ok hc.2
    simp only [Bool.and_eq_true, decide_eq_true_eq] at hf
    exact fun mc ms => ⟨eq_of_beq hc.1, C, T, N, e, hf.1, ck_w_ok hf.2, (hcl x C T N e).1⟩
  case putfield i =>
    have hc : (len == 3 && ck_cls x (fun _ T N => decide (y < N) && (ck_w hs 0 (.fieldLink own i (T y).1 (T y).2.1 (T y).2.2.1) && (am_tk (ac_ft x y) (am_tyf x y) && (!(T y).2.2.2 || ((T y).2.2.2 && (ini && decide ((T y).1 = own)))))))) = true := hc
    rw [Bool.and_eq_true] at hc
    obtain ⟨C, T, N, e, hf⟩ := ck_cls_ok hc.2
    simp only [Bool.and_eq_true, Bool.or_eq_true, Bool.not_eq_true', decide_eq_true_eq] at hf
    obtain ⟨q1, q2, q3, -⟩ := hcl x C T N e
    exact fun mc ms => ⟨eq_of_beq hc.1, C, T, N, am_tyf x, e, hf.1, ck_w_ok hf.2.1, q1, q2, q3, hf.2.2.1, hf.2.2.2⟩
  case new i =>
    have hc : (len == 3 && ck_cls x (fun C _ N => N == y && (ck_w hs 0 (.classLink own i C) && (ck_w hs 1 (.instantiable C y) && ck_w hs 2 (.initialized C))))) = true := hc
    rw [Bool.and_eq_true] at hc
    obtain ⟨C, T, N, e, hf⟩ := ck_cls_ok hc.2
    simp only [Bool.and_eq_true] at hf
    have hN : N = y := eq_of_beq hf.1
    subst hN
    obtain ⟨q1, q2, q3, q4⟩ := hcl x C T N e
    exact fun mc ms => ⟨eq_of_beq hc.1, C, T, am_tyf x, e, q1, q2, q4, ck_w_ok hf.2.1, ck_w_ok hf.2.2.1, ck_w_ok hf.2.2.2⟩
  case newarray at9 =>
    have hc : (len == 2 && (decide (newarray.typeOf at9 = am_ty x) && ck_w hs 0 (.arrayClass (newarray.typeOf at9)))) = true := hc
    simp only [Bool.and_eq_true, decide_eq_true_eq] at hc
    exact fun mc ms => ⟨eq_of_beq hc.1, hc.2.1, ck_w_ok hc.2.2⟩
  case anewarray i =>
    have hc : (len == 3 && (match am_ty x with
      | .object C => ck_w hs 0 (.classLink own i C)
      | _ => false)) = true := hc
    rw [Bool.and_eq_true] at hc
    obtain ⟨h1, h2⟩ := hc
    split at h2
    · rename_i C e
      exact fun mc ms => ⟨eq_of_beq h1, C, e, ck_w_ok h2⟩
    · cases h2
  case multianewarray i d =>
    have hc : (len == 4 && (d == 2 && (ck_w hs 0 (.classLink own i ("[" ++ (FieldType.array .int).toString)) && ck_w hs 1 (.arrayClass .int)))) = true := hc
    simp only [Bool.and_eq_true] at hc
    exact fun mc ms => ⟨eq_of_beq hc.1, eq_of_beq hc.2.1, ck_w_ok hc.2.2.1, ck_w_ok hc.2.2.2⟩
  case invokevirtual i =>
    have hc : (len == 3 && (x != 900 && x != 901)) = true := hc
    simp only [Bool.and_eq_true, bne_iff_ne] at hc
    exact fun mc ms => ⟨eq_of_beq hc.1, hc.2.1, hc.2.2⟩
  case invokestatic i =>
    have hc : (len == 3 && (x != 900 && (x != 901 || (ck_w hs 0 (.methodLink own i arraycopyName) && (ck_w hs 1 (.native arraycopyName) && (ck_w hs 2 (.static arraycopyName) && (ck_w hs 3 (.initialized "java/lang/System") && (decide (1 ≤ fr) && decide (nativeFrameWords "java/lang/System" "arraycopy" 5 + 11 ≤ lo))))))))) = true := hc
    simp only [Bool.and_eq_true, Bool.or_eq_true, bne_iff_ne, decide_eq_true_eq] at hc
    exact fun mc ms => ⟨eq_of_beq hc.1, hc.2.1, fun q => hc.2.2.elim (fun z => absurd q z) (fun z => ⟨ck_w_ok z.1, ck_w_ok z.2.1, ck_w_ok z.2.2.1, ck_w_ok z.2.2.2.1, z.2.2.2.2.1, z.2.2.2.2.2⟩)⟩
  case invokespecial i =>
    have hc : (len == 3 && (x != 901 && (x != 900 || (ck_w hs 0 (.methodLink own i Lib.objectInit) && (ck_w hs 1 (.instanceMethod Lib.objectInit) && (ck_w hs 2 (.code Lib.objectInit ⟨#[0xb1]⟩ 1 none) && (decide (1 ≤ fr) && decide (12 ≤ lo)))))))) = true := hc
    simp only [Bool.and_eq_true, Bool.or_eq_true, bne_iff_ne, decide_eq_true_eq] at hc
    exact fun mc ms => ⟨eq_of_beq hc.1, hc.2.1, fun q => hc.2.2.elim (fun z => absurd q z) (fun z => ⟨ck_w_ok z.1, ck_w_ok z.2.1, ck_w_ok z.2.2.1, z.2.2.2.1, z.2.2.2.2⟩)⟩
  case iadd =>
    exact fun mc ms => eq_of_beq hc
  case isub =>
    exact fun mc ms => eq_of_beq hc
  case imul =>
    exact fun mc ms => eq_of_beq hc
  case idiv =>
    exact fun mc ms => eq_of_beq hc
  case irem =>
    exact fun mc ms => eq_of_beq hc
  case ineg =>
    exact fun mc ms => eq_of_beq hc
  case iand =>
    exact fun mc ms => eq_of_beq hc
  case ixor =>
    exact fun mc ms => eq_of_beq hc
  case ishl =>
    exact fun mc ms => eq_of_beq hc
  case ishr =>
    exact fun mc ms => eq_of_beq hc
  case ladd =>
    exact fun mc ms => eq_of_beq hc
  case lmul =>
    exact fun mc ms => eq_of_beq hc
  case ldiv =>
    exact fun mc ms => eq_of_beq hc
  case lneg =>
    exact fun mc ms => eq_of_beq hc
  case land =>
    exact fun mc ms => eq_of_beq hc
  case lor =>
    exact fun mc ms => eq_of_beq hc
  case lshl =>
    exact fun mc ms => eq_of_beq hc
  case lshr =>
    exact fun mc ms => eq_of_beq hc
  case lushr =>
    exact fun mc ms => eq_of_beq hc
  case lcmp =>
    exact fun mc ms => eq_of_beq hc
  case i2l =>
    exact fun mc ms => eq_of_beq hc
  case l2i =>
    exact fun mc ms => eq_of_beq hc
  case iaload =>
    exact fun mc ms => eq_of_beq hc
  case baload =>
    exact fun mc ms => eq_of_beq hc
  case laload =>
    exact fun mc ms => eq_of_beq hc
  case aaload =>
    exact fun mc ms => eq_of_beq hc
  case iastore =>
    exact fun mc ms => eq_of_beq hc
  case bastore =>
    exact fun mc ms => eq_of_beq hc
  case lastore =>
    exact fun mc ms => eq_of_beq hc
  case aastore =>
    exact fun mc ms => eq_of_beq hc
  case arraylength =>
    exact fun mc ms => eq_of_beq hc
  case dup =>
    exact fun mc ms => eq_of_beq hc
  case dup2 =>
    exact fun mc ms => eq_of_beq hc
  case pop =>
    exact fun mc ms => eq_of_beq hc
  case pop2 =>
    exact fun mc ms => eq_of_beq hc
  case ireturn =>
    exact fun mc ms => eq_of_beq hc
  case lreturn =>
    exact fun mc ms => eq_of_beq hc
  case return_ =>
    exact fun mc ms => eq_of_beq hc
  all_goals cases hc
