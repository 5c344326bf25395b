/-! What a run leaves as it was: a field that no code of its methods writes. -/
def fr_k (bd : Nat → Nat → Bool) (h h2 : am_H) : Prop := h.1 ≤ h2.1 ∧ ∀ a, a < h.1 → 10 ≤ (h.2.2 a).1 → (h2.2.2 a).1 = (h.2.2 a).1 ∧ ∀ y, bd ((h.2.2 a).1 - 10) y = true → (h2.2.2 a).2.2 y = (h.2.2 a).2.2 y
theorem fr_0 {bd : Nat → Nat → Bool} {h : am_H} : fr_k bd h h := ⟨Nat.le_refl _, fun _ _ _ => ⟨rfl, fun _ _ => rfl⟩⟩
theorem fr_t {bd : Nat → Nat → Bool} {h h2 h3 : am_H} (a : fr_k bd h h2) (b : fr_k bd h2 h3) : fr_k bd h h3 := by
  refine ⟨Nat.le_trans a.1 b.1, fun x hx hk => ?_⟩
  obtain ⟨a1, a2⟩ := a.2 x hx hk
  obtain ⟨b1, b2⟩ := b.2 x (Nat.lt_of_lt_of_le hx a.1) (by omega)
  exact ⟨by omega, fun y hy => by rw [b2 y (by rw [a1]; exact hy)]; exact a2 y hy⟩
theorem fr_w {bd : Nat → Nat → Bool} {h : am_H} {a i : Nat} {v : am_V} (hw : (h.2.2 a).1 < 10 ∨ bd ((h.2.2 a).1 - 10) i = false) : fr_k bd h (am_wr h a i v) := by
  refine ⟨Nat.le_refl _, fun b hb hk => ?_⟩
  show (am_up h.2.2 a _ b).1 = _ ∧ ∀ y, _ → (am_up h.2.2 a _ b).2.2 y = _
  by_cases e : b = a
  · subst e
    rw [am_up_s]
    refine ⟨rfl, fun y hy => ?_⟩
    show am_up (h.2.2 b).2.2 i v y = _
    by_cases e2 : y = i
    · subst e2
      rcases hw with hw | hw
      · omega
      · rw [hw] at hy
        cases hy
    · rw [am_up_n e2]
  · rw [am_up_n e]
    exact ⟨rfl, fun _ _ => rfl⟩
theorem fr_m {bd : Nat → Nat → Bool} {h : am_H} {kd n : Nat} {f : Nat → am_V} : fr_k bd h (am_mk h kd n f) := by
  refine ⟨Nat.le_succ _, fun b hb hk => ?_⟩
  show (am_up h.2.2 h.1 _ b).1 = _ ∧ ∀ y, _ → (am_up h.2.2 h.1 _ b).2.2 y = _
  rw [am_up_n (by omega)]
  exact ⟨rfl, fun _ _ => rfl⟩
theorem fr_g {bd : Nat → Nat → Bool} {h : am_H} {n k : Nat} : fr_k bd h (am_grid h n k) := by
  refine ⟨by show h.1 ≤ h.1 + 1 + n; omega, fun b hb hk => ?_⟩
  unfold am_grid
  dsimp only
  rw [if_neg (by omega), if_neg (by omega)]
  exact ⟨rfl, fun _ _ => rfl⟩
theorem fr_c {bd : Nat → Nat → Bool} {h : am_H} {b n : Nat} {s : Nat} {f : Nat → am_V} (hk : (h.2.2 b).1 < 10) : fr_k bd h (h.1, s, am_up h.2.2 b ((h.2.2 b).1, n, f)) := by
  refine ⟨Nat.le_refl _, fun x hx hk2 => ?_⟩
  show (am_up h.2.2 b _ x).1 = _ ∧ ∀ y, _ → (am_up h.2.2 b _ x).2.2 y = _
  rw [am_up_n (by intro q; rw [q] at hk2; omega)]
  exact ⟨rfl, fun _ _ => rfl⟩
def fr_r (bd : Nat → Nat → Bool) (h : am_H) (r : am_S ⊕ ((Nat × List am_V × am_S) ⊕ (Option am_V × am_H))) : Prop := match r with
  | .inl t => fr_k bd h t.2.2.2
  | .inr (.inl q) => q.2.2.2.2.2 = h
  | .inr (.inr q) => q.2 = h
theorem fr_load {bd : Nat → Nat → Bool} {k i : Nat} {len x y pc : Nat} {ls st : List am_V} {h : am_H} {r} (e : am_load k i len x y (pc, ls, st, h) = some r) : fr_r bd h r := by
  obtain ⟨_, _, _, e2⟩ := iv_load e
  rw [e2]
  exact fr_0
theorem fr_stor {bd : Nat → Nat → Bool} {k i : Nat} {len x y pc : Nat} {ls st : List am_V} {h : am_H} {r} (e : am_stor k i len x y (pc, ls, st, h) = some r) : fr_r bd h r := by
  obtain ⟨_, _, _, _, _, e2⟩ := iv_stor e
  rw [e2]
  exact fr_0
theorem fr_storl {bd : Nat → Nat → Bool} {i : Nat} {len x y pc : Nat} {ls st : List am_V} {h : am_H} {r} (e : am_storl i len x y (pc, ls, st, h) = some r) : fr_r bd h r := by
  obtain ⟨_, _, _, _, e2⟩ := iv_storl e
  rw [e2]
  exact fr_0
theorem fr_iinc {bd : Nat → Nat → Bool} {i : Nat} {n : Int} {len x y pc : Nat} {ls st : List am_V} {h : am_H} {r} (e : am_iinc i n len x y (pc, ls, st, h) = some r) : fr_r bd h r := by
  obtain ⟨_, _, e2⟩ := iv_iinc e
  rw [e2]
  exact fr_0
theorem fr_bin {bd : Nat → Nat → Bool} {f : Int → Int → Option Int} {len x y pc : Nat} {ls st : List am_V} {h : am_H} {r} (e : am_bin f len x y (pc, ls, st, h) = some r) : fr_r bd h r := by
  obtain ⟨_, _, _, _, _, _, e2⟩ := iv_bin e
  rw [e2]
  exact fr_0
theorem fr_binl {bd : Nat → Nat → Bool} {f : Int → Int → Option Int} {len x y pc : Nat} {ls st : List am_V} {h : am_H} {r} (e : am_binl f len x y (pc, ls, st, h) = some r) : fr_r bd h r := by
  obtain ⟨_, _, _, _, _, _, e2⟩ := iv_binl e
  rw [e2]
  exact fr_0
theorem fr_shl {bd : Nat → Nat → Bool} {f : Int → Int → Option Int} {len x y pc : Nat} {ls st : List am_V} {h : am_H} {r} (e : am_shl f len x y (pc, ls, st, h) = some r) : fr_r bd h r := by
  obtain ⟨_, _, _, _, _, _, e2⟩ := iv_shl e
  rw [e2]
  exact fr_0
theorem fr_un {bd : Nat → Nat → Bool} {f : Int → Int} {len x y pc : Nat} {ls st : List am_V} {h : am_H} {r} (e : am_un f len x y (pc, ls, st, h) = some r) : fr_r bd h r := by
  obtain ⟨_, _, _, e2⟩ := iv_un e
  rw [e2]
  exact fr_0
theorem fr_unl {bd : Nat → Nat → Bool} {f : Int → Int} {len x y pc : Nat} {ls st : List am_V} {h : am_H} {r} (e : am_unl f len x y (pc, ls, st, h) = some r) : fr_r bd h r := by
  obtain ⟨_, _, _, e2⟩ := iv_unl e
  rw [e2]
  exact fr_0
theorem fr_lcmp {bd : Nat → Nat → Bool} {len x y pc : Nat} {ls st : List am_V} {h : am_H} {r} (e : am_lcmp len x y (pc, ls, st, h) = some r) : fr_r bd h r := by
  obtain ⟨_, _, _, _, e2⟩ := iv_lcmp e
  rw [e2]
  exact fr_0
theorem fr_i2l {bd : Nat → Nat → Bool} {len x y pc : Nat} {ls st : List am_V} {h : am_H} {r} (e : am_i2l len x y (pc, ls, st, h) = some r) : fr_r bd h r := by
  obtain ⟨_, _, _, e2⟩ := iv_i2l e
  rw [e2]
  exact fr_0
theorem fr_l2i {bd : Nat → Nat → Bool} {len x y pc : Nat} {ls st : List am_V} {h : am_H} {r} (e : am_l2i len x y (pc, ls, st, h) = some r) : fr_r bd h r := by
  obtain ⟨_, _, _, e2⟩ := iv_l2i e
  rw [e2]
  exact fr_0
theorem fr_if {bd : Nat → Nat → Bool} {cnd : Jvm.ClassFile.Cond} {len x y pc : Nat} {ls st : List am_V} {h : am_H} {r} (e : am_if cnd len x y (pc, ls, st, h) = some r) : fr_r bd h r := by
  obtain ⟨_, _, _, e2⟩ := iv_if e
  rw [e2]
  exact fr_0
theorem fr_icmp {bd : Nat → Nat → Bool} {cnd : Jvm.ClassFile.Cond} {len x y pc : Nat} {ls st : List am_V} {h : am_H} {r} (e : am_icmp cnd len x y (pc, ls, st, h) = some r) : fr_r bd h r := by
  obtain ⟨_, _, _, _, e2⟩ := iv_icmp e
  rw [e2]
  exact fr_0
theorem fr_gf {bd : Nat → Nat → Bool} {len x y pc : Nat} {ls st : List am_V} {h : am_H} {r} (e : am_gf len x y (pc, ls, st, h) = some r) : fr_r bd h r := by
  obtain ⟨_, _, _, _, e2⟩ := iv_gf e
  rw [e2]
  exact fr_0
theorem fr_pf {bd : Nat → Nat → Bool} {ft : am_ft} {len x y pc : Nat} {ls st : List am_V} {h : am_H} {r} (hb : bd x y = false) (e : am_pf ft len x y (pc, ls, st, h) = some r) : fr_r bd h r := by
  obtain ⟨_, a, _, _, ⟨-, q, -⟩, e2⟩ := iv_pf e
  rw [e2]
  exact fr_w (Or.inr (by rw [q, Nat.add_sub_cancel_left]; exact hb))
theorem fr_ald {bd : Nat → Nat → Bool} {ok : Nat → Bool} {len x y pc : Nat} {ls st : List am_V} {h : am_H} {r} (e : am_ald ok len x y (pc, ls, st, h) = some r) : fr_r bd h r := by
  obtain ⟨_, _, _, _, _, e2⟩ := iv_ald e
  rw [e2]
  exact fr_0
theorem fr_ast {bd : Nat → Nat → Bool} {k vk : Nat} (hk : k < 10) {len x y pc : Nat} {ls st : List am_V} {h : am_H} {r} (e : am_ast k vk len x y (pc, ls, st, h) = some r) : fr_r bd h r := by
  obtain ⟨_, _, a, _, _, ⟨-, q, -⟩, e2⟩ := iv_ast e
  rw [e2]
  exact fr_w (Or.inl (by omega))
theorem fr_aast {bd : Nat → Nat → Bool} {len x y pc : Nat} {ls st : List am_V} {h : am_H} {r} (e : am_aast len x y (pc, ls, st, h) = some r) : fr_r bd h r := by
  obtain ⟨_, _, a, _, _, ⟨-, -, -, q, -⟩, e2⟩ := iv_aast e
  rw [e2]
  exact fr_w (Or.inl (by omega))
theorem fr_len {bd : Nat → Nat → Bool} {len x y pc : Nat} {ls st : List am_V} {h : am_H} {r} (e : am_len len x y (pc, ls, st, h) = some r) : fr_r bd h r := by
  obtain ⟨_, _, _, _, e2⟩ := iv_len e
  rw [e2]
  exact fr_0
theorem fr_dup {bd : Nat → Nat → Bool} {len x y pc : Nat} {ls st : List am_V} {h : am_H} {r} (e : am_dup len x y (pc, ls, st, h) = some r) : fr_r bd h r := by
  obtain ⟨_, _, _, _, e2⟩ := iv_dup e
  rw [e2]
  exact fr_0
theorem fr_dup2 {bd : Nat → Nat → Bool} {len x y pc : Nat} {ls st : List am_V} {h : am_H} {r} (e : am_dup2 len x y (pc, ls, st, h) = some r) : fr_r bd h r := by
  obtain ⟨_, _, _, _, _, e2⟩ := iv_dup2 e
  rw [e2]
  exact fr_0
theorem fr_pop {bd : Nat → Nat → Bool} {k : Nat} {len x y pc : Nat} {ls st : List am_V} {h : am_H} {r} (e : am_pop k len x y (pc, ls, st, h) = some r) : fr_r bd h r := by
  obtain ⟨_, _, _, _, e2⟩ := iv_pop e
  rw [e2]
  exact fr_0
theorem fr_newa {bd : Nat → Nat → Bool} {lo hi : Nat} {len x y pc : Nat} {ls st : List am_V} {h : am_H} {r} (e : am_newa lo hi len x y (pc, ls, st, h) = some r) : fr_r bd h r := by
  obtain ⟨_, _, _, _, e2⟩ := iv_newa e
  rw [e2]
  exact fr_m
theorem fr_mna {bd : Nat → Nat → Bool} {len x y pc : Nat} {ls st : List am_V} {h : am_H} {r} (e : am_mna len x y (pc, ls, st, h) = some r) : fr_r bd h r := by
  obtain ⟨_, _, _, _, _, e2⟩ := iv_mna e
  rw [e2]
  exact fr_g
theorem fr_acp {bd : Nat → Nat → Bool} {len x y pc : Nat} {ls st : List am_V} {h : am_H} {r} (e : am_acopy len x y (pc, ls, st, h) = some r) : fr_r bd h r := by
  obtain ⟨_, _, b, _, a, _, ⟨-, -, q1, q2, -⟩, e2⟩ := iv_acopy e
  rw [e2]
  exact fr_c (by omega)
theorem fr_sem {bd : Nat → Nat → Bool} {ft : am_ft} {ins : Instr} {len x y pc : Nat} {ls st : List am_V} {h : am_H} {r} (hb : ∀ i, ins = .putfield i → bd x y = false) (he : am_sem ft ins len x y (pc, ls, st, h) = some r) : fr_r bd h r := by
  cases ins
  case iload_n _ => exact fr_load (len := len) (x := x) (y := y) he
  case iload _ => exact fr_load (len := len) (x := x) (y := y) he
  case lload_n _ => exact fr_load (len := len) (x := x) (y := y) he
  case lload _ => exact fr_load (len := len) (x := x) (y := y) he
  case aload_n _ => exact fr_load (len := len) (x := x) (y := y) he
  case aload _ => exact fr_load (len := len) (x := x) (y := y) he
  case istore_n _ => exact fr_stor (len := len) (x := x) (y := y) he
  case istore _ => exact fr_stor (len := len) (x := x) (y := y) he
  case astore_n _ => exact fr_stor (len := len) (x := x) (y := y) he
  case astore _ => exact fr_stor (len := len) (x := x) (y := y) he
  case lstore_n _ => exact fr_storl (len := len) (x := x) (y := y) he
  case lstore _ => exact fr_storl (len := len) (x := x) (y := y) he
  case iinc _ _ => exact fr_iinc (len := len) (x := x) (y := y) he
  case iadd => exact fr_bin (len := len) (x := x) (y := y) he
  case isub => exact fr_bin (len := len) (x := x) (y := y) he
  case imul => exact fr_bin (len := len) (x := x) (y := y) he
  case idiv => exact fr_bin (len := len) (x := x) (y := y) he
  case irem => exact fr_bin (len := len) (x := x) (y := y) he
  case iand => exact fr_bin (len := len) (x := x) (y := y) he
  case ixor => exact fr_bin (len := len) (x := x) (y := y) he
  case ishl => exact fr_bin (len := len) (x := x) (y := y) he
  case ishr => exact fr_bin (len := len) (x := x) (y := y) he
  case ladd => exact fr_binl (len := len) (x := x) (y := y) he
  case lmul => exact fr_binl (len := len) (x := x) (y := y) he
  case ldiv => exact fr_binl (len := len) (x := x) (y := y) he
  case land => exact fr_binl (len := len) (x := x) (y := y) he
  case lor => exact fr_binl (len := len) (x := x) (y := y) he
  case lshl => exact fr_shl (len := len) (x := x) (y := y) he
  case lshr => exact fr_shl (len := len) (x := x) (y := y) he
  case lushr => exact fr_shl (len := len) (x := x) (y := y) he
  case ineg => exact fr_un (len := len) (x := x) (y := y) he
  case lneg => exact fr_unl (len := len) (x := x) (y := y) he
  case lcmp => exact fr_lcmp (len := len) (x := x) (y := y) he
  case i2l => exact fr_i2l (len := len) (x := x) (y := y) he
  case l2i => exact fr_l2i (len := len) (x := x) (y := y) he
  case ifCond _ _ => exact fr_if (len := len) (x := x) (y := y) he
  case if_icmp _ _ => exact fr_icmp (len := len) (x := x) (y := y) he
  case getfield _ => exact fr_gf (len := len) (x := x) (y := y) he
  case putfield i => exact fr_pf (len := len) (x := x) (y := y) (hb i rfl) he
  case iaload => exact fr_ald (len := len) (x := x) (y := y) (ok := fun k => k == 0) he
  case baload => exact fr_ald (len := len) (x := x) (y := y) (ok := fun k => k == 1) he
  case laload => exact fr_ald (len := len) (x := x) (y := y) (ok := fun k => k == 2) he
  case aaload => exact fr_ald (len := len) (x := x) (y := y) (ok := fun k => decide (3 ≤ k) && decide (k < 7)) he
  case iastore => exact fr_ast (k := 0) (by decide) (len := len) (x := x) (y := y) he
  case bastore => exact fr_ast (k := 1) (by decide) (len := len) (x := x) (y := y) he
  case lastore => exact fr_ast (k := 2) (by decide) (len := len) (x := x) (y := y) he
  case aastore => exact fr_aast (len := len) (x := x) (y := y) he
  case arraylength => exact fr_len (len := len) (x := x) (y := y) he
  case dup => exact fr_dup (len := len) (x := x) (y := y) he
  case dup2 => exact fr_dup2 (len := len) (x := x) (y := y) he
  case pop => exact fr_pop (len := len) (x := x) (y := y) he
  case pop2 => exact fr_pop (len := len) (x := x) (y := y) he
  case newarray _ => exact fr_newa (len := len) (x := x) (y := y) he
  case anewarray _ => exact fr_newa (len := len) (x := x) (y := y) he
  case multianewarray _ _ => exact fr_mna (len := len) (x := x) (y := y) he
  case iconst _ => cases he; exact fr_0
  case bipush _ => cases he; exact fr_0
  case sipush _ => cases he; exact fr_0
  case lconst _ => cases he; exact fr_0
  case ldc _ => cases he; exact fr_0
  case ldc2_w _ => cases he; exact fr_0
  case goto _ => cases he; exact fr_0
  case new _ => cases he; exact fr_m
  case tableswitch d lo hi offs =>
    obtain ⟨a, st2, -, q | ⟨-, o, -, q⟩⟩ := iv_sw (len := len) (x := x) (y := y) he
    · rw [q.2]; exact fr_0
    · rw [q]; exact fr_0
  case ireturn => obtain ⟨v, -, -, e2⟩ := iv_ret (len := len) (x := x) (y := y) he; rw [e2]; rfl
  case lreturn => obtain ⟨v, -, -, e2⟩ := iv_ret (len := len) (x := x) (y := y) he; rw [e2]; rfl
  case return_ => obtain ⟨-, e2⟩ := iv_retv (len := len) (x := x) (y := y) he; rw [e2]; rfl
  case invokevirtual _ =>
    rcases iv_inv (len := len) (x := x) (y := y) he with ⟨-, a, -, e2⟩ | ⟨-, e2⟩ | ⟨-, -, -, -, -, e2⟩
    · rw [e2]; exact fr_0
    · exact fr_acp (len := len) (x := x) (y := y) e2
    · rw [e2]; rfl
  case invokestatic _ =>
    rcases iv_inv (len := len) (x := x) (y := y) he with ⟨-, a, -, e2⟩ | ⟨-, e2⟩ | ⟨-, -, -, -, -, e2⟩
    · rw [e2]; exact fr_0
    · exact fr_acp (len := len) (x := x) (y := y) e2
    · rw [e2]; rfl
  case invokespecial _ =>
    rcases iv_inv (len := len) (x := x) (y := y) he with ⟨-, a, -, e2⟩ | ⟨-, e2⟩ | ⟨-, -, -, -, -, e2⟩
    · rw [e2]; exact fr_0
    · exact fr_acp (len := len) (x := x) (y := y) e2
    · rw [e2]; rfl
  all_goals cases he
/-- a method's code writes no such field, and calls only methods of G -/
def fr_ok (bd : Nat → Nat → Bool) (G : Nat → Bool) (row : am_I) : Bool := match row with
  | (.putfield _, _, x, y) => !(bd x y)
  | (.invokevirtual _, _, x, _) => x == 900 || x == 901 || G (x % 1000)
  | (.invokestatic _, _, x, _) => x == 900 || x == 901 || G (x % 1000)
  | (.invokespecial _, _, x, _) => x == 900 || x == 901 || G (x % 1000)
  | _ => true
def fr_C (bd : Nat → Nat → Bool) (G : Nat → Bool) (C : am_C) : Bool := (am_en C).all (fun q => fr_ok bd G q.2)
theorem fr_call {bd : Nat → Nat → Bool} {G : Nat → Bool} {ft : am_ft} {ins : Instr} {len x y : Nat} {t : am_S} {q : Nat × List am_V × am_S} (hk : fr_ok bd G (ins, len, x, y) = true) (he : am_sem ft ins len x y t = some (.inr (.inl q))) : G q.1 = true := by
  obtain ⟨pc, ls, st, h⟩ := t
  rcases am_kind he with ⟨t9, q9⟩ | ⟨i9, q8, q9⟩ | ⟨-, q9⟩ | ⟨-, q9⟩
  · cases q9
  · rcases iv_inv q9 with ⟨-, a, -, e2⟩ | ⟨-, e2⟩ | ⟨n1, n2, -, -, -, e2⟩
    · cases e2
    · obtain ⟨_, _, _, _, _, -, -, e3⟩ := iv_acopy e2
      cases e3
    · have e3 : q.1 = x % 1000 := by cases e2; rfl
      rw [e3]
      rcases q8 with rfl | rfl | rfl <;> (have hk : (x == 900 || x == 901 || G (x % 1000)) = true := hk; simpa [n1, n2] using hk)
  · obtain ⟨v, -, -, e2⟩ := iv_ret q9
    cases e2
  · obtain ⟨-, e2⟩ := iv_retv q9
    cases e2
theorem fr_x {bd : Nat → Nat → Bool} {G : Nat → Bool} {P : am_P} (hG : ∀ j, G j = true → ∀ M, P.2[j]? = some M → fr_C bd G M.1 = true) : ∀ (n : Nat) {C : am_C} {t : am_S} {r : Option am_V} {h2 : am_H}, fr_C bd G C = true → am_x P n C t = some (r, h2) → fr_k bd t.2.2.2 h2
  | 0, C, t, r, h2, hC, h => by cases h
  | n + 1, C, t, r, h2, hC, h => by
    obtain ⟨pc, ls, st, hp⟩ := t
    unfold am_x at h
    split at h
    · cases h
    · rename_i t2 e1
      obtain ⟨row, e0, e2⟩ := mn_1 e1
      have hr := List.all_eq_true.mp hC _ (am_en_mem e0)
      have m1 := fr_sem (bd := bd) (fun i hi => by
        obtain ⟨ins, len, x, y⟩ := row
        have hi : ins = .putfield i := hi
        subst hi
        have hr : (!(bd x y)) = true := hr
        simpa using hr) e2
      have m2 := fr_x hG n hC h
      exact fr_t m1 m2
    · rename_i q e1
      obtain ⟨row, e0, e2⟩ := mn_1 e1
      have hr := List.all_eq_true.mp hC _ (am_en_mem e0)
      have m1 := fr_sem (bd := bd) (fun i hi => by
        obtain ⟨ins, len, x, y⟩ := row
        have hi : ins = .putfield i := hi
        subst hi
        have hr : (!(bd x y)) = true := hr
        simpa using hr) e2
      have m1 : q.2.2.2.2.2 = hp := m1
      have hg := fr_call (G := G) (bd := bd) hr e2
      split at h
      · cases h
      · rename_i M hM
        split at h
        · split at h
          · cases h
          · rename_i rr hcal
            have m2 := fr_x hG n (hG _ hg M hM) hcal
            have m3 := fr_x hG n hC h
            have m2 : fr_k bd q.2.2.2.2.2 rr.2 := m2
            rw [m1] at m2
            exact fr_t m2 m3
        · cases h
    · rename_i q e1
      obtain ⟨row, e0, e2⟩ := mn_1 e1
      have hr := List.all_eq_true.mp hC _ (am_en_mem e0)
      have m1 := fr_sem (bd := bd) (fun i hi => by
        obtain ⟨ins, len, x, y⟩ := row
        have hi : ins = .putfield i := hi
        subst hi
        have hr : (!(bd x y)) = true := hr
        simpa using hr) e2
      have m1 : q.2 = hp := m1
      have hq := Option.some.inj h
      subst hq
      have m1 : h2 = hp := m1
      subst m1
      exact fr_0
