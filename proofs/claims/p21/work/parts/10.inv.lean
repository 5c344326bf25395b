/-! What a step says of the state before it. -/
abbrev am_nx (t : am_S) : (am_S ⊕ ((Nat × List am_V × am_S) ⊕ (Option am_V × am_H))) := .inl t
theorem iv_load {k i len x y pc : Nat} {ls st : List am_V} {h : am_H} {r} (e : am_load k i len x y (pc, ls, st, h) = some r) : ∃ v, ls[i]? = some v ∧ am_is k v = true ∧ r = am_nx (pc + len, ls, v :: st, h) := by
  unfold am_load at e
  split at e
  · rename_i v hv
    split at e
    · rename_i hk
      exact ⟨v, hv, hk, (Option.some.inj e).symm⟩
    · cases e
  · cases e
theorem iv_stor {k i len x y pc : Nat} {ls st : List am_V} {h : am_H} {r} (e : am_stor k i len x y (pc, ls, st, h) = some r) : ∃ v st2, st = v :: st2 ∧ am_is k v = true ∧ i < ls.length ∧ r = am_nx (pc + len, (am_cl ls i).set i v, st2, h) := by
  unfold am_stor at e
  split at e
  · rename_i v st2 hst
    split at e
    · rename_i hk
      simp only [Bool.and_eq_true, decide_eq_true_eq] at hk
      exact ⟨v, st2, hst, hk.1, hk.2, (Option.some.inj e).symm⟩
    · cases e
  · cases e
theorem iv_storl {i len x y pc : Nat} {ls st : List am_V} {h : am_H} {r} (e : am_storl i len x y (pc, ls, st, h) = some r) : ∃ z st2, st = vL z :: st2 ∧ i + 1 < ls.length ∧ r = am_nx (pc + len, ((am_cl ls i).set i (vL z)).set (i + 1) vU, st2, h) := by
  unfold am_storl at e
  split at e
  · rename_i z st2 hst
    split at e
    · rename_i hk
      exact ⟨z, st2, hst, hk, (Option.some.inj e).symm⟩
    · cases e
  · cases e
theorem iv_iinc {i len x y pc : Nat} {n : Int} {ls st : List am_V} {h : am_H} {r} (e : am_iinc i n len x y (pc, ls, st, h) = some r) : ∃ z, ls[i]? = some (vI z) ∧ r = am_nx (pc + len, (am_cl ls i).set i (vI (am_w (z + n))), st, h) := by
  unfold am_iinc at e
  split at e
  · rename_i z hz
    exact ⟨z, hz, (Option.some.inj e).symm⟩
  · cases e
theorem iv_bin {f : Int → Int → Option Int} {len x y pc : Nat} {ls st : List am_V} {h : am_H} {r} (e : am_bin f len x y (pc, ls, st, h) = some r) : ∃ a b z st2, st = vI b :: vI a :: st2 ∧ f a b = some z ∧ r = am_nx (pc + len, ls, vI z :: st2, h) := by
  unfold am_bin at e
  split at e
  · rename_i b a st2 hst
    obtain ⟨z, hz, e2⟩ := Option.map_eq_some_iff.mp e
    exact ⟨a, b, z, st2, hst, hz, e2.symm⟩
  · cases e
theorem iv_binl {f : Int → Int → Option Int} {len x y pc : Nat} {ls st : List am_V} {h : am_H} {r} (e : am_binl f len x y (pc, ls, st, h) = some r) : ∃ a b z st2, st = vL b :: vL a :: st2 ∧ f a b = some z ∧ r = am_nx (pc + len, ls, vL z :: st2, h) := by
  unfold am_binl at e
  split at e
  · rename_i b a st2 hst
    obtain ⟨z, hz, e2⟩ := Option.map_eq_some_iff.mp e
    exact ⟨a, b, z, st2, hst, hz, e2.symm⟩
  · cases e
theorem iv_shl {f : Int → Int → Option Int} {len x y pc : Nat} {ls st : List am_V} {h : am_H} {r} (e : am_shl f len x y (pc, ls, st, h) = some r) : ∃ a b z st2, st = vI b :: vL a :: st2 ∧ f a b = some z ∧ r = am_nx (pc + len, ls, vL z :: st2, h) := by
  unfold am_shl at e
  split at e
  · rename_i b a st2 hst
    obtain ⟨z, hz, e2⟩ := Option.map_eq_some_iff.mp e
    exact ⟨a, b, z, st2, hst, hz, e2.symm⟩
  · cases e
theorem iv_un {f : Int → Int} {len x y pc : Nat} {ls st : List am_V} {h : am_H} {r} (e : (am_un f) len x y (pc, ls, st, h) = some r) : ∃ a st2, st = vI a :: st2 ∧ r = am_nx (pc + len, ls, vI (f a) :: st2, h) := by
  unfold am_un at e
  split at e
  · rename_i a st2 hst
    exact ⟨a, st2, hst, (Option.some.inj e).symm⟩
  · cases e
theorem iv_unl {f : Int → Int} {len x y pc : Nat} {ls st : List am_V} {h : am_H} {r} (e : (am_unl f) len x y (pc, ls, st, h) = some r) : ∃ a st2, st = vL a :: st2 ∧ r = am_nx (pc + len, ls, vL (f a) :: st2, h) := by
  unfold am_unl at e
  split at e
  · rename_i a st2 hst
    exact ⟨a, st2, hst, (Option.some.inj e).symm⟩
  · cases e
theorem iv_i2l {len x y pc : Nat} {ls st : List am_V} {h : am_H} {r} (e : am_i2l len x y (pc, ls, st, h) = some r) : ∃ a st2, st = vI a :: st2 ∧ r = am_nx (pc + len, ls, vL a :: st2, h) := by
  unfold am_i2l at e
  split at e
  · rename_i a st2 hst
    exact ⟨a, st2, hst, (Option.some.inj e).symm⟩
  · cases e
theorem iv_l2i {len x y pc : Nat} {ls st : List am_V} {h : am_H} {r} (e : am_l2i len x y (pc, ls, st, h) = some r) : ∃ a st2, st = vL a :: st2 ∧ r = am_nx (pc + len, ls, vI (am_w a) :: st2, h) := by
  unfold am_l2i at e
  split at e
  · rename_i a st2 hst
    exact ⟨a, st2, hst, (Option.some.inj e).symm⟩
  · cases e
theorem iv_lcmp {len x y pc : Nat} {ls st : List am_V} {h : am_H} {r} (e : am_lcmp len x y (pc, ls, st, h) = some r) : ∃ b a st2, st = vL b :: vL a :: st2 ∧ r = am_nx (pc + len, ls, vI (if a < b then -1 else if a = b then 0 else 1) :: st2, h) := by
  unfold am_lcmp at e
  split at e
  · rename_i b a st2 hst
    exact ⟨b, a, st2, hst, (Option.some.inj e).symm⟩
  · cases e
theorem iv_if {cnd : Jvm.ClassFile.Cond} {len x y pc : Nat} {ls st : List am_V} {h : am_H} {r} (e : (am_if cnd) len x y (pc, ls, st, h) = some r) : ∃ a st2, st = vI a :: st2 ∧ r = am_nx ((if am_cmp cnd a 0 then x else pc + len), ls, st2, h) := by
  unfold am_if at e
  split at e
  · rename_i a st2 hst
    exact ⟨a, st2, hst, (Option.some.inj e).symm⟩
  · cases e
theorem iv_icmp {cnd : Jvm.ClassFile.Cond} {len x y pc : Nat} {ls st : List am_V} {h : am_H} {r} (e : (am_icmp cnd) len x y (pc, ls, st, h) = some r) : ∃ b a st2, st = vI b :: vI a :: st2 ∧ r = am_nx ((if am_cmp cnd a b then x else pc + len), ls, st2, h) := by
  unfold am_icmp at e
  split at e
  · rename_i b a st2 hst
    exact ⟨b, a, st2, hst, (Option.some.inj e).symm⟩
  · cases e
theorem iv_dup {len x y pc : Nat} {ls st : List am_V} {h : am_H} {r} (e : am_dup len x y (pc, ls, st, h) = some r) : ∃ v st2, st = v :: st2 ∧ ((am_is 0 v || am_is 2 v) = true) ∧ r = am_nx (pc + len, ls, v :: v :: st2, h) := by
  unfold am_dup at e
  split at e
  · rename_i v st2 hst
    split at e
    · rename_i hk
      exact ⟨v, st2, hst, hk, (Option.some.inj e).symm⟩
    · cases e
  · cases e
theorem iv_dup2 {len x y pc : Nat} {ls st : List am_V} {h : am_H} {r} (e : am_dup2 len x y (pc, ls, st, h) = some r) : ∃ v w st2, st = v :: w :: st2 ∧ (((am_is 0 v || am_is 2 v) && (am_is 0 w || am_is 2 w)) = true) ∧ r = am_nx (pc + len, ls, v :: w :: v :: w :: st2, h) := by
  unfold am_dup2 at e
  split at e
  · rename_i v w st2 hst
    split at e
    · rename_i hk
      exact ⟨v, w, st2, hst, hk, (Option.some.inj e).symm⟩
    · cases e
  · cases e
theorem iv_pop {k : Nat} {len x y pc : Nat} {ls st : List am_V} {h : am_H} {r} (e : (am_pop k) len x y (pc, ls, st, h) = some r) : ∃ v st2, st = v :: st2 ∧ (am_is k v = true) ∧ r = am_nx (pc + len, ls, st2, h) := by
  unfold am_pop at e
  split at e
  · rename_i v st2 hst
    split at e
    · rename_i hk
      exact ⟨v, st2, hst, hk, (Option.some.inj e).symm⟩
    · cases e
  · cases e
theorem iv_gf {len x y pc : Nat} {ls st : List am_V} {h : am_H} {r} (e : am_gf len x y (pc, ls, st, h) = some r) : ∃ a st2, st = vR a :: st2 ∧ (a < h.1 ∧ (h.2.2 a).1 = 10 + x ∧ y < (h.2.2 a).2.1) ∧ r = am_nx (pc + len, ls, (h.2.2 a).2.2 y :: st2, h) := by
  unfold am_gf at e
  split at e
  · rename_i a st2 hst
    split at e
    · rename_i hk
      exact ⟨a, st2, hst, hk, (Option.some.inj e).symm⟩
    · cases e
  · cases e
theorem iv_pf {ft : am_ft} {len x y pc : Nat} {ls st : List am_V} {h : am_H} {r} (e : (am_pf ft) len x y (pc, ls, st, h) = some r) : ∃ v a st2, st = v :: vR a :: st2 ∧ (a < h.1 ∧ (h.2.2 a).1 = 10 + x ∧ y < (h.2.2 a).2.1 ∧ am_fok (ft x y) v = true) ∧ r = am_nx (pc + len, ls, st2, am_wr h a y v) := by
  unfold am_pf at e
  split at e
  · rename_i v a st2 hst
    split at e
    · rename_i hk
      exact ⟨v, a, st2, hst, hk, (Option.some.inj e).symm⟩
    · cases e
  · cases e
theorem iv_ald {ok : Nat → Bool} {len x y pc : Nat} {ls st : List am_V} {h : am_H} {r} (e : (am_ald ok) len x y (pc, ls, st, h) = some r) : ∃ i a st2, st = vI i :: vR a :: st2 ∧ (a < h.1 ∧ ok (h.2.2 a).1 = true ∧ 0 ≤ i ∧ i < ((h.2.2 a).2.1 : Int)) ∧ r = am_nx (pc + len, ls, (h.2.2 a).2.2 i.toNat :: st2, h) := by
  unfold am_ald at e
  split at e
  · rename_i i a st2 hst
    split at e
    · rename_i hk
      exact ⟨i, a, st2, hst, hk, (Option.some.inj e).symm⟩
    · cases e
  · cases e
theorem iv_ast {k vk : Nat} {len x y pc : Nat} {ls st : List am_V} {h : am_H} {r} (e : (am_ast k vk) len x y (pc, ls, st, h) = some r) : ∃ v i a st2, st = v :: vI i :: vR a :: st2 ∧ (a < h.1 ∧ (h.2.2 a).1 = k ∧ am_fok vk v = true ∧ 0 ≤ i ∧ i < ((h.2.2 a).2.1 : Int)) ∧ r = am_nx (pc + len, ls, st2, am_wr h a i.toNat v) := by
  unfold am_ast at e
  split at e
  · rename_i v i a st2 hst
    split at e
    · rename_i hk
      exact ⟨v, i, a, st2, hst, hk, (Option.some.inj e).symm⟩
    · cases e
  · cases e
theorem iv_aast {len x y pc : Nat} {ls st : List am_V} {h : am_H} {r} (e : am_aast len x y (pc, ls, st, h) = some r) : ∃ b i a st2, st = vR b :: vI i :: vR a :: st2 ∧ (a < h.1 ∧ b < h.1 ∧ 4 ≤ (h.2.2 a).1 ∧ (h.2.2 a).1 < 7 ∧ (h.2.2 b).1 = am_comp (h.2.2 a).1 ∧ 0 ≤ i ∧ i < ((h.2.2 a).2.1 : Int)) ∧ r = am_nx (pc + len, ls, st2, am_wr h a i.toNat (vR b)) := by
  unfold am_aast at e
  split at e
  · rename_i b i a st2 hst
    split at e
    · rename_i hk
      exact ⟨b, i, a, st2, hst, hk, (Option.some.inj e).symm⟩
    · cases e
  · cases e
theorem iv_len {len x y pc : Nat} {ls st : List am_V} {h : am_H} {r} (e : am_len len x y (pc, ls, st, h) = some r) : ∃ a st2, st = vR a :: st2 ∧ (a < h.1 ∧ (h.2.2 a).1 < 7) ∧ r = am_nx (pc + len, ls, vI ((h.2.2 a).2.1 : Int) :: st2, h) := by
  unfold am_len at e
  split at e
  · rename_i a st2 hst
    split at e
    · rename_i hk
      exact ⟨a, st2, hst, hk, (Option.some.inj e).symm⟩
    · cases e
  · cases e
theorem iv_newa {lo hi : Nat} {len x y pc : Nat} {ls st : List am_V} {h : am_H} {r} (e : (am_newa lo hi) len x y (pc, ls, st, h) = some r) : ∃ n st2, st = vI n :: st2 ∧ (0 ≤ n ∧ n ≤ 1024 ∧ lo ≤ x ∧ x ≤ hi) ∧ r = am_nx (pc + len, ls, vR h.1 :: st2, am_mk h x n.toNat (fun _ => am_dv x)) := by
  unfold am_newa at e
  split at e
  · rename_i n st2 hst
    split at e
    · rename_i hk
      exact ⟨n, st2, hst, hk, (Option.some.inj e).symm⟩
    · cases e
  · cases e
theorem iv_mna {len x y pc : Nat} {ls st : List am_V} {h : am_H} {r} (e : am_mna len x y (pc, ls, st, h) = some r) : ∃ k n st2, st = vI k :: vI n :: st2 ∧ (0 ≤ n ∧ n ≤ 1024 ∧ 0 ≤ k ∧ k ≤ 1024) ∧ r = am_nx (pc + len, ls, vR h.1 :: st2, am_grid h n.toNat k.toNat) := by
  unfold am_mna at e
  split at e
  · rename_i k n st2 hst
    split at e
    · rename_i hk
      exact ⟨k, n, st2, hst, hk, (Option.some.inj e).symm⟩
    · cases e
  · cases e
theorem iv_acopy {len x y pc : Nat} {ls st : List am_V} {h : am_H} {r} (e : am_acopy len x y (pc, ls, st, h) = some r) : ∃ n dp b sp a, st = [vI n, vI dp, vR b, vI sp, vR a] ∧ (a < h.1 ∧ b < h.1 ∧ (h.2.2 a).1 = (h.2.2 b).1 ∧ ((h.2.2 a).1 = 0 ∨ (h.2.2 a).1 = 2) ∧ 0 ≤ n ∧ 0 ≤ sp ∧ 0 ≤ dp ∧ sp + n ≤ ((h.2.2 a).2.1 : Int) ∧ dp + n ≤ ((h.2.2 b).2.1 : Int)) ∧ r = am_nx (pc + len, ls, [], (h.1, h.2.1, am_up h.2.2 b ((h.2.2 b).1, (h.2.2 b).2.1, am_cpy (h.2.2 a).2.2 (h.2.2 b).2.2 sp.toNat dp.toNat n.toNat))) := by
  unfold am_acopy at e
  split at e
  · rename_i n dp b sp a hst
    split at e
    · rename_i hk
      exact ⟨n, dp, b, sp, a, hst, hk, (Option.some.inj e).symm⟩
    · cases e
  · cases e
theorem iv_sw {d lo hi : Int} {offs : Array Int} {len x y pc : Nat} {ls st : List am_V} {h : am_H} {r} (e : am_sw d lo hi offs len x y (pc, ls, st, h) = some r) : ∃ a st2, st = vI a :: st2 ∧ (((a < lo ∨ hi < a) ∧ r = am_nx (((pc : Int) + d).toNat, ls, st2, h)) ∨ (¬ (a < lo ∨ hi < a) ∧ ∃ o, offs[(a - lo).toNat]? = some o ∧ r = am_nx (((pc : Int) + o).toNat, ls, st2, h))) := by
  unfold am_sw at e
  split at e
  · rename_i a st2 hst
    refine ⟨a, st2, hst, ?_⟩
    split at e
    · rename_i hk
      exact Or.inl ⟨hk, (Option.some.inj e).symm⟩
    · rename_i hk
      split at e
      · rename_i o ho
        exact Or.inr ⟨hk, o, ho, (Option.some.inj e).symm⟩
      · cases e
  · cases e
theorem iv_ret {len x y pc : Nat} {ls st : List am_V} {h : am_H} {r} (e : am_ret len x y (pc, ls, st, h) = some r) : ∃ v, st = [v] ∧ am_fok x v = true ∧ r = .inr (.inr (some v, h)) := by
  unfold am_ret at e
  split at e
  · rename_i v hst
    split at e
    · rename_i hk
      exact ⟨v, hst, hk, (Option.some.inj e).symm⟩
    · cases e
  · cases e
theorem iv_retv {len x y pc : Nat} {ls st : List am_V} {h : am_H} {r} (e : am_retv len x y (pc, ls, st, h) = some r) : st = [] ∧ r = .inr (.inr (none, h)) := by
  unfold am_retv at e
  split at e
  · rename_i hst
    exact ⟨hst, (Option.some.inj e).symm⟩
  · cases e
theorem iv_inv {len x y pc : Nat} {ls st : List am_V} {h : am_H} {r} (e : am_inv len x y (pc, ls, st, h) = some r) : (x = 900 ∧ ∃ a, st = [vR a] ∧ r = am_nx (pc + len, ls, [], h)) ∨ (x = 901 ∧ am_acopy len x y (pc, ls, st, h) = some r) ∨ (x ≠ 900 ∧ x ≠ 901 ∧ y ≤ st.length ∧ ((st.drop y).map am_cat).sum ≤ 8 ∧ am_rcv h x (st.take y).reverse = true ∧ r = .inr (.inl (x % 1000, (st.take y).reverse, pc + len, ls, st.drop y, h))) := by
  unfold am_inv at e
  split at e
  · rename_i hx
    refine Or.inl ⟨hx, ?_⟩
    split at e
    · rename_i a hst
      exact ⟨a, hst, (Option.some.inj e).symm⟩
    · cases e
  · rename_i hx
    split at e
    · rename_i hx2
      exact Or.inr (Or.inl ⟨hx2, e⟩)
    · rename_i hx2
      split at e
      · rename_i hk
        exact Or.inr (Or.inr ⟨hx, hx2, hk.1, hk.2.1, hk.2.2, (Option.some.inj e).symm⟩)
      · cases e
