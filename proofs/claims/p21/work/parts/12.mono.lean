/-! Calls, returns, the whole run. -/
/-- a step makes cells, takes none away -/
def am_mr (h : am_H) (r : am_S ⊕ ((Nat × List am_V × am_S) ⊕ (Option am_V × am_H))) : Prop := match r with
  | .inl t => h.1 ≤ t.2.2.2.1 ∧ h.2.1 ≤ t.2.2.2.2.1
  | .inr (.inl q) => q.2.2.2.2.2 = h
  | .inr (.inr q) => q.2 = h
theorem mn_load {k i : Nat} {len x y pc : Nat} {ls st : List am_V} {h : am_H} {r} (e : am_load k i len x y (pc, ls, st, h) = some r) : am_mr h r := by
  obtain ⟨_, _, _, e2⟩ := iv_load e
  rw [e2]
  exact ⟨Nat.le_refl _, Nat.le_refl _⟩
theorem mn_stor {k i : Nat} {len x y pc : Nat} {ls st : List am_V} {h : am_H} {r} (e : am_stor k i len x y (pc, ls, st, h) = some r) : am_mr h r := by
  obtain ⟨_, _, _, _, _, e2⟩ := iv_stor e
  rw [e2]
  exact ⟨Nat.le_refl _, Nat.le_refl _⟩
theorem mn_storl {i : Nat} {len x y pc : Nat} {ls st : List am_V} {h : am_H} {r} (e : am_storl i len x y (pc, ls, st, h) = some r) : am_mr h r := by
  obtain ⟨_, _, _, _, e2⟩ := iv_storl e
  rw [e2]
  exact ⟨Nat.le_refl _, Nat.le_refl _⟩
theorem mn_iinc {i : Nat} {n : Int} {len x y pc : Nat} {ls st : List am_V} {h : am_H} {r} (e : am_iinc i n len x y (pc, ls, st, h) = some r) : am_mr h r := by
  obtain ⟨_, _, e2⟩ := iv_iinc e
  rw [e2]
  exact ⟨Nat.le_refl _, Nat.le_refl _⟩
theorem mn_bin {f : Int → Int → Option Int} {len x y pc : Nat} {ls st : List am_V} {h : am_H} {r} (e : am_bin f len x y (pc, ls, st, h) = some r) : am_mr h r := by
  obtain ⟨_, _, _, _, _, _, e2⟩ := iv_bin e
  rw [e2]
  exact ⟨Nat.le_refl _, Nat.le_refl _⟩
theorem mn_binl {f : Int → Int → Option Int} {len x y pc : Nat} {ls st : List am_V} {h : am_H} {r} (e : am_binl f len x y (pc, ls, st, h) = some r) : am_mr h r := by
  obtain ⟨_, _, _, _, _, _, e2⟩ := iv_binl e
  rw [e2]
  exact ⟨Nat.le_refl _, Nat.le_refl _⟩
theorem mn_shl {f : Int → Int → Option Int} {len x y pc : Nat} {ls st : List am_V} {h : am_H} {r} (e : am_shl f len x y (pc, ls, st, h) = some r) : am_mr h r := by
  obtain ⟨_, _, _, _, _, _, e2⟩ := iv_shl e
  rw [e2]
  exact ⟨Nat.le_refl _, Nat.le_refl _⟩
theorem mn_un {f : Int → Int} {len x y pc : Nat} {ls st : List am_V} {h : am_H} {r} (e : am_un f len x y (pc, ls, st, h) = some r) : am_mr h r := by
  obtain ⟨_, _, _, e2⟩ := iv_un e
  rw [e2]
  exact ⟨Nat.le_refl _, Nat.le_refl _⟩
theorem mn_unl {f : Int → Int} {len x y pc : Nat} {ls st : List am_V} {h : am_H} {r} (e : am_unl f len x y (pc, ls, st, h) = some r) : am_mr h r := by
  obtain ⟨_, _, _, e2⟩ := iv_unl e
  rw [e2]
  exact ⟨Nat.le_refl _, Nat.le_refl _⟩
theorem mn_lcmp {len x y pc : Nat} {ls st : List am_V} {h : am_H} {r} (e : am_lcmp len x y (pc, ls, st, h) = some r) : am_mr h r := by
  obtain ⟨_, _, _, _, e2⟩ := iv_lcmp e
  rw [e2]
  exact ⟨Nat.le_refl _, Nat.le_refl _⟩
theorem mn_i2l {len x y pc : Nat} {ls st : List am_V} {h : am_H} {r} (e : am_i2l len x y (pc, ls, st, h) = some r) : am_mr h r := by
  obtain ⟨_, _, _, e2⟩ := iv_i2l e
  rw [e2]
  exact ⟨Nat.le_refl _, Nat.le_refl _⟩
theorem mn_l2i {len x y pc : Nat} {ls st : List am_V} {h : am_H} {r} (e : am_l2i len x y (pc, ls, st, h) = some r) : am_mr h r := by
  obtain ⟨_, _, _, e2⟩ := iv_l2i e
  rw [e2]
  exact ⟨Nat.le_refl _, Nat.le_refl _⟩
theorem mn_if {cnd : Jvm.ClassFile.Cond} {len x y pc : Nat} {ls st : List am_V} {h : am_H} {r} (e : am_if cnd len x y (pc, ls, st, h) = some r) : am_mr h r := by
  obtain ⟨_, _, _, e2⟩ := iv_if e
  rw [e2]
  exact ⟨Nat.le_refl _, Nat.le_refl _⟩
theorem mn_icmp {cnd : Jvm.ClassFile.Cond} {len x y pc : Nat} {ls st : List am_V} {h : am_H} {r} (e : am_icmp cnd len x y (pc, ls, st, h) = some r) : am_mr h r := by
  obtain ⟨_, _, _, _, e2⟩ := iv_icmp e
  rw [e2]
  exact ⟨Nat.le_refl _, Nat.le_refl _⟩
theorem mn_gf {len x y pc : Nat} {ls st : List am_V} {h : am_H} {r} (e : am_gf len x y (pc, ls, st, h) = some r) : am_mr h r := by
  obtain ⟨_, _, _, _, e2⟩ := iv_gf e
  rw [e2]
  exact ⟨Nat.le_refl _, Nat.le_refl _⟩
theorem mn_pf {ft : am_ft} {len x y pc : Nat} {ls st : List am_V} {h : am_H} {r} (e : am_pf ft len x y (pc, ls, st, h) = some r) : am_mr h r := by
  obtain ⟨_, _, _, _, _, e2⟩ := iv_pf e
  rw [e2]
  exact ⟨Nat.le_refl _, Nat.le_refl _⟩
theorem mn_ald {ok : Nat → Bool} {len x y pc : Nat} {ls st : List am_V} {h : am_H} {r} (e : am_ald ok len x y (pc, ls, st, h) = some r) : am_mr h r := by
  obtain ⟨_, _, _, _, _, e2⟩ := iv_ald e
  rw [e2]
  exact ⟨Nat.le_refl _, Nat.le_refl _⟩
theorem mn_ast {k vk : Nat} {len x y pc : Nat} {ls st : List am_V} {h : am_H} {r} (e : am_ast k vk len x y (pc, ls, st, h) = some r) : am_mr h r := by
  obtain ⟨_, _, _, _, _, _, e2⟩ := iv_ast e
  rw [e2]
  exact ⟨Nat.le_refl _, Nat.le_refl _⟩
theorem mn_aast {len x y pc : Nat} {ls st : List am_V} {h : am_H} {r} (e : am_aast len x y (pc, ls, st, h) = some r) : am_mr h r := by
  obtain ⟨_, _, _, _, _, _, e2⟩ := iv_aast e
  rw [e2]
  exact ⟨Nat.le_refl _, Nat.le_refl _⟩
theorem mn_len {len x y pc : Nat} {ls st : List am_V} {h : am_H} {r} (e : am_len len x y (pc, ls, st, h) = some r) : am_mr h r := by
  obtain ⟨_, _, _, _, e2⟩ := iv_len e
  rw [e2]
  exact ⟨Nat.le_refl _, Nat.le_refl _⟩
theorem mn_dup {len x y pc : Nat} {ls st : List am_V} {h : am_H} {r} (e : am_dup len x y (pc, ls, st, h) = some r) : am_mr h r := by
  obtain ⟨_, _, _, _, e2⟩ := iv_dup e
  rw [e2]
  exact ⟨Nat.le_refl _, Nat.le_refl _⟩
theorem mn_dup2 {len x y pc : Nat} {ls st : List am_V} {h : am_H} {r} (e : am_dup2 len x y (pc, ls, st, h) = some r) : am_mr h r := by
  obtain ⟨_, _, _, _, _, e2⟩ := iv_dup2 e
  rw [e2]
  exact ⟨Nat.le_refl _, Nat.le_refl _⟩
theorem mn_pop {k : Nat} {len x y pc : Nat} {ls st : List am_V} {h : am_H} {r} (e : am_pop k len x y (pc, ls, st, h) = some r) : am_mr h r := by
  obtain ⟨_, _, _, _, e2⟩ := iv_pop e
  rw [e2]
  exact ⟨Nat.le_refl _, Nat.le_refl _⟩
theorem mn_newa {lo hi : Nat} {len x y pc : Nat} {ls st : List am_V} {h : am_H} {r} (e : am_newa lo hi len x y (pc, ls, st, h) = some r) : am_mr h r := by
  obtain ⟨_, _, _, _, e2⟩ := iv_newa e
  rw [e2]
  exact ⟨Nat.le_succ _, Nat.le_add_right _ _⟩
theorem mn_mna {len x y pc : Nat} {ls st : List am_V} {h : am_H} {r} (e : am_mna len x y (pc, ls, st, h) = some r) : am_mr h r := by
  obtain ⟨_, _, _, _, _, e2⟩ := iv_mna e
  rw [e2]
  exact ⟨by show h.1 ≤ h.1 + 1 + _; omega, by show h.2.1 ≤ h.2.1 + _ + _; omega⟩
theorem mn_sem {ft : am_ft} {ins : Instr} {len x y pc : Nat} {ls st : List am_V} {h : am_H} {r} (he : am_sem ft ins len x y (pc, ls, st, h) = some r) : am_mr h r := by
  cases ins
  case iload_n _ => exact mn_load (len := len) (x := x) (y := y) he
  case iload _ => exact mn_load (len := len) (x := x) (y := y) he
  case lload_n _ => exact mn_load (len := len) (x := x) (y := y) he
  case lload _ => exact mn_load (len := len) (x := x) (y := y) he
  case aload_n _ => exact mn_load (len := len) (x := x) (y := y) he
  case aload _ => exact mn_load (len := len) (x := x) (y := y) he
  case istore_n _ => exact mn_stor (len := len) (x := x) (y := y) he
  case istore _ => exact mn_stor (len := len) (x := x) (y := y) he
  case astore_n _ => exact mn_stor (len := len) (x := x) (y := y) he
  case astore _ => exact mn_stor (len := len) (x := x) (y := y) he
  case lstore_n _ => exact mn_storl (len := len) (x := x) (y := y) he
  case lstore _ => exact mn_storl (len := len) (x := x) (y := y) he
  case iinc _ _ => exact mn_iinc (len := len) (x := x) (y := y) he
  case iadd => exact mn_bin (len := len) (x := x) (y := y) he
  case isub => exact mn_bin (len := len) (x := x) (y := y) he
  case imul => exact mn_bin (len := len) (x := x) (y := y) he
  case idiv => exact mn_bin (len := len) (x := x) (y := y) he
  case irem => exact mn_bin (len := len) (x := x) (y := y) he
  case iand => exact mn_bin (len := len) (x := x) (y := y) he
  case ixor => exact mn_bin (len := len) (x := x) (y := y) he
  case ishl => exact mn_bin (len := len) (x := x) (y := y) he
  case ishr => exact mn_bin (len := len) (x := x) (y := y) he
  case ladd => exact mn_binl (len := len) (x := x) (y := y) he
  case lmul => exact mn_binl (len := len) (x := x) (y := y) he
  case ldiv => exact mn_binl (len := len) (x := x) (y := y) he
  case land => exact mn_binl (len := len) (x := x) (y := y) he
  case lor => exact mn_binl (len := len) (x := x) (y := y) he
  case lshl => exact mn_shl (len := len) (x := x) (y := y) he
  case lshr => exact mn_shl (len := len) (x := x) (y := y) he
  case lushr => exact mn_shl (len := len) (x := x) (y := y) he
  case ineg => exact mn_un (len := len) (x := x) (y := y) he
  case lneg => exact mn_unl (len := len) (x := x) (y := y) he
  case lcmp => exact mn_lcmp (len := len) (x := x) (y := y) he
  case i2l => exact mn_i2l (len := len) (x := x) (y := y) he
  case l2i => exact mn_l2i (len := len) (x := x) (y := y) he
  case ifCond _ _ => exact mn_if (len := len) (x := x) (y := y) he
  case if_icmp _ _ => exact mn_icmp (len := len) (x := x) (y := y) he
  case getfield _ => exact mn_gf (len := len) (x := x) (y := y) he
  case putfield _ => exact mn_pf (len := len) (x := x) (y := y) he
  case iaload => exact mn_ald (len := len) (x := x) (y := y) (ok := fun k => k == 0) he
  case baload => exact mn_ald (len := len) (x := x) (y := y) (ok := fun k => k == 1) he
  case laload => exact mn_ald (len := len) (x := x) (y := y) (ok := fun k => k == 2) he
  case aaload => exact mn_ald (len := len) (x := x) (y := y) (ok := fun k => decide (3 ≤ k) && decide (k < 7)) he
  case iastore => exact mn_ast (len := len) (x := x) (y := y) he
  case bastore => exact mn_ast (len := len) (x := x) (y := y) he
  case lastore => exact mn_ast (len := len) (x := x) (y := y) he
  case aastore => exact mn_aast (len := len) (x := x) (y := y) he
  case arraylength => exact mn_len (len := len) (x := x) (y := y) he
  case dup => exact mn_dup (len := len) (x := x) (y := y) he
  case dup2 => exact mn_dup2 (len := len) (x := x) (y := y) he
  case pop => exact mn_pop (len := len) (x := x) (y := y) he
  case pop2 => exact mn_pop (len := len) (x := x) (y := y) he
  case newarray _ => exact mn_newa (len := len) (x := x) (y := y) he
  case anewarray _ => exact mn_newa (len := len) (x := x) (y := y) he
  case multianewarray _ _ => exact mn_mna (len := len) (x := x) (y := y) he
  case iconst _ => cases he; exact ⟨Nat.le_refl _, Nat.le_refl _⟩
  case bipush _ => cases he; exact ⟨Nat.le_refl _, Nat.le_refl _⟩
  case sipush _ => cases he; exact ⟨Nat.le_refl _, Nat.le_refl _⟩
  case lconst _ => cases he; exact ⟨Nat.le_refl _, Nat.le_refl _⟩
  case ldc _ => cases he; exact ⟨Nat.le_refl _, Nat.le_refl _⟩
  case ldc2_w _ => cases he; exact ⟨Nat.le_refl _, Nat.le_refl _⟩
  case goto _ => cases he; exact ⟨Nat.le_refl _, Nat.le_refl _⟩
  case new _ => cases he; exact ⟨Nat.le_succ _, Nat.le_add_right _ _⟩
  case tableswitch d lo hi offs =>
    obtain ⟨a, st2, -, q | ⟨-, o, -, q⟩⟩ := iv_sw (len := len) (x := x) (y := y) he
    · rw [q.2]; exact ⟨Nat.le_refl _, Nat.le_refl _⟩
    · rw [q]; exact ⟨Nat.le_refl _, Nat.le_refl _⟩
  case ireturn => obtain ⟨v, -, -, e2⟩ := iv_ret (len := len) (x := x) (y := y) he; rw [e2]; rfl
  case lreturn => obtain ⟨v, -, -, e2⟩ := iv_ret (len := len) (x := x) (y := y) he; rw [e2]; rfl
  case return_ => obtain ⟨-, e2⟩ := iv_retv (len := len) (x := x) (y := y) he; rw [e2]; rfl
  case invokevirtual _ =>
    rcases iv_inv (len := len) (x := x) (y := y) he with ⟨-, a, -, e2⟩ | ⟨-, e2⟩ | ⟨-, -, -, -, -, e2⟩
    · rw [e2]; exact ⟨Nat.le_refl _, Nat.le_refl _⟩
    · obtain ⟨_, _, _, _, _, -, -, e3⟩ := iv_acopy (len := len) (x := x) (y := y) e2
      rw [e3]; exact ⟨Nat.le_refl _, Nat.le_refl _⟩
    · rw [e2]; rfl
  case invokestatic _ =>
    rcases iv_inv (len := len) (x := x) (y := y) he with ⟨-, a, -, e2⟩ | ⟨-, e2⟩ | ⟨-, -, -, -, -, e2⟩
    · rw [e2]; exact ⟨Nat.le_refl _, Nat.le_refl _⟩
    · obtain ⟨_, _, _, _, _, -, -, e3⟩ := iv_acopy (len := len) (x := x) (y := y) e2
      rw [e3]; exact ⟨Nat.le_refl _, Nat.le_refl _⟩
    · rw [e2]; rfl
  case invokespecial _ =>
    rcases iv_inv (len := len) (x := x) (y := y) he with ⟨-, a, -, e2⟩ | ⟨-, e2⟩ | ⟨-, -, -, -, -, e2⟩
    · rw [e2]; exact ⟨Nat.le_refl _, Nat.le_refl _⟩
    · obtain ⟨_, _, _, _, _, -, -, e3⟩ := iv_acopy (len := len) (x := x) (y := y) e2
      rw [e3]; exact ⟨Nat.le_refl _, Nat.le_refl _⟩
    · rw [e2]; rfl
  all_goals cases he
theorem mn_1 {ft : am_ft} {C : am_C} {t : am_S} {r} (h : am_1 ft C t = some r) : ∃ row, am_row C t.1 = some row ∧ am_sem ft row.1 row.2.1 row.2.2.1 row.2.2.2 t = some r := by
  unfold am_1 at h
  split at h
  · rename_i row hrow
    exact ⟨row, hrow, h⟩
  · cases h
theorem mn_x {P : am_P} : ∀ (n : Nat) {C : am_C} {t : am_S} {r : Option am_V} {h2 : am_H}, am_x P n C t = some (r, h2) → t.2.2.2.1 ≤ h2.1 ∧ t.2.2.2.2.1 ≤ h2.2.1
  | 0, C, t, r, h2, h => by cases h
  | n + 1, C, t, r, h2, h => by
    obtain ⟨pc, ls, st, hp⟩ := t
    unfold am_x at h
    split at h
    · cases h
    · rename_i t2 e1
      obtain ⟨row, -, e2⟩ := mn_1 e1
      have m1 := mn_sem e2
      have m2 := mn_x n h
      exact ⟨Nat.le_trans m1.1 m2.1, Nat.le_trans m1.2 m2.2⟩
    · rename_i q e1
      obtain ⟨row, -, e2⟩ := mn_1 e1
      have m1 : q.2.2.2.2.2 = hp := mn_sem e2
      split at h
      · cases h
      · rename_i M hM
        split at h
        · split at h
          · cases h
          · rename_i r2 h3
            obtain ⟨r2, h4⟩ := r2
            have m2 := mn_x n h3
            have m3 := mn_x n h
            rw [m1] at m2
            exact ⟨Nat.le_trans m2.1 m3.1, Nat.le_trans m2.2 m3.2⟩
        · cases h
    · rename_i q e1
      obtain ⟨row, -, e2⟩ := mn_1 e1
      have m1 : q.2 = hp := mn_sem e2
      have := Option.some.inj h
      subst this
      have m1 : h2 = hp := m1
      subst m1
      exact ⟨Nat.le_refl _, Nat.le_refl _⟩
theorem kd_load {k i : Nat} {len x y pc : Nat} {ls st : List am_V} {h : am_H} {r} (e : am_load k i len x y (pc, ls, st, h) = some r) : ∃ t : am_S, r = .inl t := by
  obtain ⟨_, _, _, e2⟩ := iv_load e
  exact ⟨_, e2⟩
theorem kd_stor {k i : Nat} {len x y pc : Nat} {ls st : List am_V} {h : am_H} {r} (e : am_stor k i len x y (pc, ls, st, h) = some r) : ∃ t : am_S, r = .inl t := by
  obtain ⟨_, _, _, _, _, e2⟩ := iv_stor e
  exact ⟨_, e2⟩
theorem kd_storl {i : Nat} {len x y pc : Nat} {ls st : List am_V} {h : am_H} {r} (e : am_storl i len x y (pc, ls, st, h) = some r) : ∃ t : am_S, r = .inl t := by
  obtain ⟨_, _, _, _, e2⟩ := iv_storl e
  exact ⟨_, e2⟩
theorem kd_iinc {i : Nat} {n : Int} {len x y pc : Nat} {ls st : List am_V} {h : am_H} {r} (e : am_iinc i n len x y (pc, ls, st, h) = some r) : ∃ t : am_S, r = .inl t := by
  obtain ⟨_, _, e2⟩ := iv_iinc e
  exact ⟨_, e2⟩
theorem kd_bin {f : Int → Int → Option Int} {len x y pc : Nat} {ls st : List am_V} {h : am_H} {r} (e : am_bin f len x y (pc, ls, st, h) = some r) : ∃ t : am_S, r = .inl t := by
  obtain ⟨_, _, _, _, _, _, e2⟩ := iv_bin e
  exact ⟨_, e2⟩
theorem kd_binl {f : Int → Int → Option Int} {len x y pc : Nat} {ls st : List am_V} {h : am_H} {r} (e : am_binl f len x y (pc, ls, st, h) = some r) : ∃ t : am_S, r = .inl t := by
  obtain ⟨_, _, _, _, _, _, e2⟩ := iv_binl e
  exact ⟨_, e2⟩
theorem kd_shl {f : Int → Int → Option Int} {len x y pc : Nat} {ls st : List am_V} {h : am_H} {r} (e : am_shl f len x y (pc, ls, st, h) = some r) : ∃ t : am_S, r = .inl t := by
  obtain ⟨_, _, _, _, _, _, e2⟩ := iv_shl e
  exact ⟨_, e2⟩
theorem kd_un {f : Int → Int} {len x y pc : Nat} {ls st : List am_V} {h : am_H} {r} (e : am_un f len x y (pc, ls, st, h) = some r) : ∃ t : am_S, r = .inl t := by
  obtain ⟨_, _, _, e2⟩ := iv_un e
  exact ⟨_, e2⟩
theorem kd_unl {f : Int → Int} {len x y pc : Nat} {ls st : List am_V} {h : am_H} {r} (e : am_unl f len x y (pc, ls, st, h) = some r) : ∃ t : am_S, r = .inl t := by
  obtain ⟨_, _, _, e2⟩ := iv_unl e
  exact ⟨_, e2⟩
theorem kd_lcmp {len x y pc : Nat} {ls st : List am_V} {h : am_H} {r} (e : am_lcmp len x y (pc, ls, st, h) = some r) : ∃ t : am_S, r = .inl t := by
  obtain ⟨_, _, _, _, e2⟩ := iv_lcmp e
  exact ⟨_, e2⟩
theorem kd_i2l {len x y pc : Nat} {ls st : List am_V} {h : am_H} {r} (e : am_i2l len x y (pc, ls, st, h) = some r) : ∃ t : am_S, r = .inl t := by
  obtain ⟨_, _, _, e2⟩ := iv_i2l e
  exact ⟨_, e2⟩
theorem kd_l2i {len x y pc : Nat} {ls st : List am_V} {h : am_H} {r} (e : am_l2i len x y (pc, ls, st, h) = some r) : ∃ t : am_S, r = .inl t := by
  obtain ⟨_, _, _, e2⟩ := iv_l2i e
  exact ⟨_, e2⟩
theorem kd_if {cnd : Jvm.ClassFile.Cond} {len x y pc : Nat} {ls st : List am_V} {h : am_H} {r} (e : am_if cnd len x y (pc, ls, st, h) = some r) : ∃ t : am_S, r = .inl t := by
  obtain ⟨_, _, _, e2⟩ := iv_if e
  exact ⟨_, e2⟩
theorem kd_icmp {cnd : Jvm.ClassFile.Cond} {len x y pc : Nat} {ls st : List am_V} {h : am_H} {r} (e : am_icmp cnd len x y (pc, ls, st, h) = some r) : ∃ t : am_S, r = .inl t := by
  obtain ⟨_, _, _, _, e2⟩ := iv_icmp e
  exact ⟨_, e2⟩
theorem kd_gf {len x y pc : Nat} {ls st : List am_V} {h : am_H} {r} (e : am_gf len x y (pc, ls, st, h) = some r) : ∃ t : am_S, r = .inl t := by
  obtain ⟨_, _, _, _, e2⟩ := iv_gf e
  exact ⟨_, e2⟩
theorem kd_pf {ft : am_ft} {len x y pc : Nat} {ls st : List am_V} {h : am_H} {r} (e : am_pf ft len x y (pc, ls, st, h) = some r) : ∃ t : am_S, r = .inl t := by
  obtain ⟨_, _, _, _, _, e2⟩ := iv_pf e
  exact ⟨_, e2⟩
theorem kd_ald {ok : Nat → Bool} {len x y pc : Nat} {ls st : List am_V} {h : am_H} {r} (e : am_ald ok len x y (pc, ls, st, h) = some r) : ∃ t : am_S, r = .inl t := by
  obtain ⟨_, _, _, _, _, e2⟩ := iv_ald e
  exact ⟨_, e2⟩
theorem kd_ast {k vk : Nat} {len x y pc : Nat} {ls st : List am_V} {h : am_H} {r} (e : am_ast k vk len x y (pc, ls, st, h) = some r) : ∃ t : am_S, r = .inl t := by
  obtain ⟨_, _, _, _, _, _, e2⟩ := iv_ast e
  exact ⟨_, e2⟩
theorem kd_aast {len x y pc : Nat} {ls st : List am_V} {h : am_H} {r} (e : am_aast len x y (pc, ls, st, h) = some r) : ∃ t : am_S, r = .inl t := by
  obtain ⟨_, _, _, _, _, _, e2⟩ := iv_aast e
  exact ⟨_, e2⟩
theorem kd_len {len x y pc : Nat} {ls st : List am_V} {h : am_H} {r} (e : am_len len x y (pc, ls, st, h) = some r) : ∃ t : am_S, r = .inl t := by
  obtain ⟨_, _, _, _, e2⟩ := iv_len e
  exact ⟨_, e2⟩
theorem kd_dup {len x y pc : Nat} {ls st : List am_V} {h : am_H} {r} (e : am_dup len x y (pc, ls, st, h) = some r) : ∃ t : am_S, r = .inl t := by
  obtain ⟨_, _, _, _, e2⟩ := iv_dup e
  exact ⟨_, e2⟩
theorem kd_dup2 {len x y pc : Nat} {ls st : List am_V} {h : am_H} {r} (e : am_dup2 len x y (pc, ls, st, h) = some r) : ∃ t : am_S, r = .inl t := by
  obtain ⟨_, _, _, _, _, e2⟩ := iv_dup2 e
  exact ⟨_, e2⟩
theorem kd_pop {k : Nat} {len x y pc : Nat} {ls st : List am_V} {h : am_H} {r} (e : am_pop k len x y (pc, ls, st, h) = some r) : ∃ t : am_S, r = .inl t := by
  obtain ⟨_, _, _, _, e2⟩ := iv_pop e
  exact ⟨_, e2⟩
theorem kd_newa {lo hi : Nat} {len x y pc : Nat} {ls st : List am_V} {h : am_H} {r} (e : am_newa lo hi len x y (pc, ls, st, h) = some r) : ∃ t : am_S, r = .inl t := by
  obtain ⟨_, _, _, _, e2⟩ := iv_newa e
  exact ⟨_, e2⟩
theorem kd_mna {len x y pc : Nat} {ls st : List am_V} {h : am_H} {r} (e : am_mna len x y (pc, ls, st, h) = some r) : ∃ t : am_S, r = .inl t := by
  obtain ⟨_, _, _, _, _, e2⟩ := iv_mna e
  exact ⟨_, e2⟩
/-- a step goes on, calls or ends -/
theorem am_kind {ft : am_ft} {ins : Instr} {len x y pc : Nat} {ls st : List am_V} {h : am_H} {r} (he : am_sem ft ins len x y (pc, ls, st, h) = some r) : (∃ t : am_S, r = .inl t) ∨ (∃ i, (ins = .invokevirtual i ∨ ins = .invokestatic i ∨ ins = .invokespecial i) ∧ am_inv len x y (pc, ls, st, h) = some r) ∨ ((ins = .ireturn ∨ ins = .lreturn) ∧ am_ret len x y (pc, ls, st, h) = some r) ∨ (ins = .return_ ∧ am_retv len x y (pc, ls, st, h) = some r) := by
  cases ins
  case iload_n _ => exact Or.inl (kd_load (len := len) (x := x) (y := y) he)
  case iload _ => exact Or.inl (kd_load (len := len) (x := x) (y := y) he)
  case lload_n _ => exact Or.inl (kd_load (len := len) (x := x) (y := y) he)
  case lload _ => exact Or.inl (kd_load (len := len) (x := x) (y := y) he)
  case aload_n _ => exact Or.inl (kd_load (len := len) (x := x) (y := y) he)
  case aload _ => exact Or.inl (kd_load (len := len) (x := x) (y := y) he)
  case istore_n _ => exact Or.inl (kd_stor (len := len) (x := x) (y := y) he)
  case istore _ => exact Or.inl (kd_stor (len := len) (x := x) (y := y) he)
  case astore_n _ => exact Or.inl (kd_stor (len := len) (x := x) (y := y) he)
  case astore _ => exact Or.inl (kd_stor (len := len) (x := x) (y := y) he)
  case lstore_n _ => exact Or.inl (kd_storl (len := len) (x := x) (y := y) he)
  case lstore _ => exact Or.inl (kd_storl (len := len) (x := x) (y := y) he)
  case iinc _ _ => exact Or.inl (kd_iinc (len := len) (x := x) (y := y) he)
  case iadd => exact Or.inl (kd_bin (len := len) (x := x) (y := y) he)
  case isub => exact Or.inl (kd_bin (len := len) (x := x) (y := y) he)
  case imul => exact Or.inl (kd_bin (len := len) (x := x) (y := y) he)
  case idiv => exact Or.inl (kd_bin (len := len) (x := x) (y := y) he)
  case irem => exact Or.inl (kd_bin (len := len) (x := x) (y := y) he)
  case iand => exact Or.inl (kd_bin (len := len) (x := x) (y := y) he)
  case ixor => exact Or.inl (kd_bin (len := len) (x := x) (y := y) he)
  case ishl => exact Or.inl (kd_bin (len := len) (x := x) (y := y) he)
  case ishr => exact Or.inl (kd_bin (len := len) (x := x) (y := y) he)
  case ladd => exact Or.inl (kd_binl (len := len) (x := x) (y := y) he)
  case lmul => exact Or.inl (kd_binl (len := len) (x := x) (y := y) he)
  case ldiv => exact Or.inl (kd_binl (len := len) (x := x) (y := y) he)
  case land => exact Or.inl (kd_binl (len := len) (x := x) (y := y) he)
  case lor => exact Or.inl (kd_binl (len := len) (x := x) (y := y) he)
  case lshl => exact Or.inl (kd_shl (len := len) (x := x) (y := y) he)
  case lshr => exact Or.inl (kd_shl (len := len) (x := x) (y := y) he)
  case lushr => exact Or.inl (kd_shl (len := len) (x := x) (y := y) he)
  case ineg => exact Or.inl (kd_un (len := len) (x := x) (y := y) he)
  case lneg => exact Or.inl (kd_unl (len := len) (x := x) (y := y) he)
  case lcmp => exact Or.inl (kd_lcmp (len := len) (x := x) (y := y) he)
  case i2l => exact Or.inl (kd_i2l (len := len) (x := x) (y := y) he)
  case l2i => exact Or.inl (kd_l2i (len := len) (x := x) (y := y) he)
  case ifCond _ _ => exact Or.inl (kd_if (len := len) (x := x) (y := y) he)
  case if_icmp _ _ => exact Or.inl (kd_icmp (len := len) (x := x) (y := y) he)
  case getfield _ => exact Or.inl (kd_gf (len := len) (x := x) (y := y) he)
  case putfield _ => exact Or.inl (kd_pf (len := len) (x := x) (y := y) he)
  case iaload => exact Or.inl (kd_ald (len := len) (x := x) (y := y) (ok := fun k => k == 0) he)
  case baload => exact Or.inl (kd_ald (len := len) (x := x) (y := y) (ok := fun k => k == 1) he)
  case laload => exact Or.inl (kd_ald (len := len) (x := x) (y := y) (ok := fun k => k == 2) he)
  case aaload => exact Or.inl (kd_ald (len := len) (x := x) (y := y) (ok := fun k => decide (3 ≤ k) && decide (k < 7)) he)
  case iastore => exact Or.inl (kd_ast (len := len) (x := x) (y := y) he)
  case bastore => exact Or.inl (kd_ast (len := len) (x := x) (y := y) he)
  case lastore => exact Or.inl (kd_ast (len := len) (x := x) (y := y) he)
  case aastore => exact Or.inl (kd_aast (len := len) (x := x) (y := y) he)
  case arraylength => exact Or.inl (kd_len (len := len) (x := x) (y := y) he)
  case dup => exact Or.inl (kd_dup (len := len) (x := x) (y := y) he)
  case dup2 => exact Or.inl (kd_dup2 (len := len) (x := x) (y := y) he)
  case pop => exact Or.inl (kd_pop (len := len) (x := x) (y := y) he)
  case pop2 => exact Or.inl (kd_pop (len := len) (x := x) (y := y) he)
  case newarray _ => exact Or.inl (kd_newa (len := len) (x := x) (y := y) he)
  case anewarray _ => exact Or.inl (kd_newa (len := len) (x := x) (y := y) he)
  case multianewarray _ _ => exact Or.inl (kd_mna (len := len) (x := x) (y := y) he)
  case iconst _ => cases he; exact Or.inl ⟨_, rfl⟩
  case bipush _ => cases he; exact Or.inl ⟨_, rfl⟩
  case sipush _ => cases he; exact Or.inl ⟨_, rfl⟩
  case lconst _ => cases he; exact Or.inl ⟨_, rfl⟩
  case ldc _ => cases he; exact Or.inl ⟨_, rfl⟩
  case ldc2_w _ => cases he; exact Or.inl ⟨_, rfl⟩
  case goto _ => cases he; exact Or.inl ⟨_, rfl⟩
  case new _ => cases he; exact Or.inl ⟨_, rfl⟩
  case tableswitch d lo hi offs =>
    obtain ⟨a, st2, -, q | ⟨-, o, -, q⟩⟩ := iv_sw (len := len) (x := x) (y := y) he
    · exact Or.inl ⟨_, q.2⟩
    · exact Or.inl ⟨_, q⟩
  case invokevirtual i => exact Or.inr (Or.inl ⟨i, Or.inl rfl, he⟩)
  case invokestatic i => exact Or.inr (Or.inl ⟨i, Or.inr (Or.inl rfl), he⟩)
  case invokespecial i => exact Or.inr (Or.inl ⟨i, Or.inr (Or.inr rfl), he⟩)
  case ireturn => exact Or.inr (Or.inr (Or.inl ⟨Or.inl rfl, he⟩))
  case lreturn => exact Or.inr (Or.inr (Or.inl ⟨Or.inr rfl, he⟩))
  case return_ => exact Or.inr (Or.inr (Or.inr ⟨rfl, he⟩))
  all_goals cases he
