/-! Heaps of a fixed shape: F tells of each cell its kind, its length, and of each place whether it holds a number of the contents c or a value that stays. -/
abbrev aq_T : Type := Nat ⊕ am_V
def aq_w (t : aq_T) (x : Int) : am_V := match t with
  | .inl 2 => vL x
  | .inl _ => vI x
  | .inr v => v
abbrev aq_F : Type := Nat → Nat × Nat × (Nat → aq_T)
abbrev aq_C : Type := Nat → Int → Int
def aq_h (m s : Nat) (F : aq_F) (c : aq_C) : am_H := (m, s, fun a => ((F a).1, (F a).2.1, fun i => aq_w ((F a).2.2 i) (c a (i : Int))))
def aq_u (c : aq_C) (a : Nat) (i x : Int) : aq_C := fun b j => if b = a ∧ j = i then x else c b j
theorem aq_us {c : aq_C} {a : Nat} {i x : Int} : aq_u c a i x a i = x := by simp [aq_u]
theorem aq_un {c : aq_C} {a b : Nat} {i j x : Int} (h : b ≠ a ∨ j ≠ i) : aq_u c a i x b j = c b j := by
  unfold aq_u
  rw [if_neg]
  omega
theorem aq_hc {m s : Nat} {F : aq_F} {c : aq_C} {a kd n : Nat} {tg : Nat → aq_T} (hF : F a = (kd, n, tg)) : (aq_h m s F c).2.2 a = (kd, n, fun i => aq_w (tg i) (c a (i : Int))) := by
  show ((F a).1, (F a).2.1, fun i => aq_w ((F a).2.2 i) (c a (i : Int))) = _
  rw [hF]
theorem aq_wr {m s : Nat} {F : aq_F} {c : aq_C} {a i kd n t : Nat} {x : Int} {tg : Nat → aq_T} (hF : F a = (kd, n, tg)) (ht : tg i = .inl t) : am_wr (aq_h m s F c) a i (aq_w (.inl t) x) = aq_h m s F (aq_u c a (i : Int) x) := by
  have e : (fun b => if b = a then (((aq_h m s F c).2.2 a).1, ((aq_h m s F c).2.2 a).2.1, am_up ((aq_h m s F c).2.2 a).2.2 i (aq_w (.inl t) x)) else (aq_h m s F c).2.2 b) = (aq_h m s F (aq_u c a (i : Int) x)).2.2 := by
    funext b
    by_cases hb : b = a
    · subst hb
      rw [if_pos rfl, aq_hc hF, aq_hc hF]
      refine congrArg (fun f => (kd, n, f)) ?_
      funext j
      unfold am_up
      by_cases hj : j = i
      · subst hj
        rw [if_pos rfl, aq_us, ht]
      · rw [if_neg hj, aq_un (Or.inr (by omega))]
    · rw [if_neg hb]
      show ((F b).1, (F b).2.1, fun i => aq_w ((F b).2.2 i) (c b (i : Int))) = ((F b).1, (F b).2.1, fun k => aq_w ((F b).2.2 k) (aq_u c a (i : Int) x b (k : Int)))
      refine congrArg (fun f => ((F b).1, (F b).2.1, f)) ?_
      funext j
      rw [aq_un (Or.inl hb)]
  show (m, s, fun b => if b = a then (((aq_h m s F c).2.2 a).1, ((aq_h m s F c).2.2 a).2.1, am_up ((aq_h m s F c).2.2 a).2.2 i (aq_w (.inl t) x)) else (aq_h m s F c).2.2 b) = (m, s, (aq_h m s F (aq_u c a (i : Int) x)).2.2)
  rw [e]
/-- several steps, none of them a call or an end -/
def am_stp (C : am_C) : Nat → am_S → Option am_S
  | 0, s => some s
  | n + 1, s => match am_1 ac_ft C s with
    | some (.inl t) => am_stp C n t
    | _ => none
theorem am_E.blk {C : am_C} : ∀ (n : Nat) {s t : am_S} {Z : Option am_V → am_H → Prop}, am_stp C n s = some t → am_E C t Z → am_E C s Z
  | 0, s, t, Z, h, k => by
    cases h
    exact k
  | n + 1, s, t, Z, h, k => by
    rw [am_stp] at h
    split at h
    · rename_i t2 e
      obtain ⟨n5, r, h2, h3, h4⟩ := am_E.blk n h k
      exact ⟨n5 + 1, r, h2, by rw [am_x_s e]; exact h3, h4⟩
    · cases h
def am_cP (cd : Jvm.ClassFile.Cond) (x y : Int) : Prop := match cd with
  | .eq => x = y
  | .ne => x ≠ y
  | .lt => x < y
  | .ge => y ≤ x
  | .gt => y < x
  | .le => x ≤ y
def am_cN (cd : Jvm.ClassFile.Cond) (x y : Int) : Prop := match cd with
  | .eq => x ≠ y
  | .ne => x = y
  | .lt => y ≤ x
  | .ge => x < y
  | .gt => x ≤ y
  | .le => y < x
theorem am_cPt {cd : Jvm.ClassFile.Cond} {x y : Int} (h : am_cmp cd x y = true) : am_cP cd x y := by
  cases cd <;> simp only [am_cmp, decide_eq_true_eq] at h <;> simp only [am_cP] <;> omega
theorem am_cNt {cd : Jvm.ClassFile.Cond} {x y : Int} (h : am_cmp cd x y = false) : am_cN cd x y := by
  cases cd <;> simp only [am_cmp, decide_eq_false_iff_not] at h <;> simp only [am_cN] <;> omega
theorem am_ri {x : Int} (h1 : -2147483648 ≤ x) (h2 : x < 2147483648) : am_r32 x := ⟨h1, h2⟩
theorem am_rl {x : Int} (h1 : -9223372036854775808 ≤ x) (h2 : x < 9223372036854775808) : am_r64 x := ⟨h1, h2⟩
section AE
variable {C : am_C} {pc : Nat} {ls st : List am_V} {h : am_H} {Z : Option am_V → am_H → Prop} {m s : Nat} {F : aq_F} {c : aq_C}
theorem ae_icmp {cd : Jvm.ClassFile.Cond} {off : Int} {x y : Nat} {a b : Int} (hrow : am_row C pc = some (.if_icmp cd off, 3, x, y)) (k1 : am_cP cd a b → am_E C (x, ls, st, h) Z) (k2 : am_cN cd a b → am_E C (pc + 3, ls, st, h) Z) : am_E C (pc, ls, vI b :: vI a :: st, h) Z := by
  refine am_E.go hrow (t2 := ((if am_cmp cd a b then x else pc + 3), ls, st, h)) rfl ?_
  cases e : am_cmp cd a b with
  | true => rw [if_pos rfl]; exact k1 (am_cPt e)
  | false => rw [if_neg (by simp)]; exact k2 (am_cNt e)
theorem ae_if0 {cd : Jvm.ClassFile.Cond} {off : Int} {x y : Nat} {a : Int} (hrow : am_row C pc = some (.ifCond cd off, 3, x, y)) (k1 : am_cP cd a 0 → am_E C (x, ls, st, h) Z) (k2 : am_cN cd a 0 → am_E C (pc + 3, ls, st, h) Z) : am_E C (pc, ls, vI a :: st, h) Z := by
  refine am_E.go hrow (t2 := ((if am_cmp cd a 0 then x else pc + 3), ls, st, h)) rfl ?_
  cases e : am_cmp cd a 0 with
  | true => rw [if_pos rfl]; exact k1 (am_cPt e)
  | false => rw [if_neg (by simp)]; exact k2 (am_cNt e)
theorem ae_bin {ins : Instr} {f : Int → Int → Option Int} {x y : Nat} {a b z : Int} (hrow : am_row C pc = some (ins, 1, x, y)) (hs : am_sem ac_ft ins = am_bin f) (hz : f a b = some z) (k : am_E C (pc + 1, ls, vI z :: st, h) Z) : am_E C (pc, ls, vI b :: vI a :: st, h) Z := by
  refine am_E.go hrow ?_ k
  show am_sem ac_ft ins 1 x y (pc, ls, vI b :: vI a :: st, h) = _
  rw [hs]
  show (f a b).map _ = _
  rw [hz]
  rfl
theorem ae_binl {ins : Instr} {f : Int → Int → Option Int} {x y : Nat} {a b z : Int} (hrow : am_row C pc = some (ins, 1, x, y)) (hs : am_sem ac_ft ins = am_binl f) (hz : f a b = some z) (k : am_E C (pc + 1, ls, vL z :: st, h) Z) : am_E C (pc, ls, vL b :: vL a :: st, h) Z := by
  refine am_E.go hrow ?_ k
  show am_sem ac_ft ins 1 x y (pc, ls, vL b :: vL a :: st, h) = _
  rw [hs]
  show (f a b).map _ = _
  rw [hz]
  rfl
theorem ae_add {x y : Nat} {a b : Int} (hrow : am_row C pc = some (.iadd, 1, x, y)) (hr : am_r32 (a + b)) (k : am_E C (pc + 1, ls, vI (a + b) :: st, h) Z) : am_E C (pc, ls, vI b :: vI a :: st, h) Z := ae_bin hrow rfl (by rw [am_w_id hr]) k
theorem ae_sub {x y : Nat} {a b : Int} (hrow : am_row C pc = some (.isub, 1, x, y)) (hr : am_r32 (a - b)) (k : am_E C (pc + 1, ls, vI (a - b) :: st, h) Z) : am_E C (pc, ls, vI b :: vI a :: st, h) Z := ae_bin hrow rfl (by rw [am_w_id hr]) k
theorem ae_mul {x y : Nat} {a b : Int} (hrow : am_row C pc = some (.imul, 1, x, y)) (hr : am_r32 (a * b)) (k : am_E C (pc + 1, ls, vI (a * b) :: st, h) Z) : am_E C (pc, ls, vI b :: vI a :: st, h) Z := ae_bin hrow rfl (by rw [am_w_id hr]) k
theorem ae_iinc {i x y : Nat} {n a : Int} (hrow : am_row C pc = some (.iinc i n, 3, x, y)) (hl : ls[i]? = some (vI a)) (hr : am_r32 (a + n)) (k : am_E C (pc + 3, (am_cl ls i).set i (vI (a + n)), st, h) Z) : am_E C (pc, ls, st, h) Z := by
  refine am_E.go hrow ?_ k
  show am_iinc i n 3 x y (pc, ls, st, h) = _
  unfold am_iinc
  simp only [hl]
  rw [am_w_id hr]
theorem aq_gf {i x y o n : Nat} {tg : Nat → aq_T} {v : am_V} (hrow : am_row C pc = some (.getfield i, 3, x, y)) (ho : o < m) (hF : F o = (10 + x, n, tg)) (hy : y < n) (hv : aq_w (tg y) (c o (y : Int)) = v) (k : am_E C (pc + 3, ls, v :: st, aq_h m s F c) Z) : am_E C (pc, ls, vR o :: st, aq_h m s F c) Z :=
  ae_gf hrow ho (aq_hc hF) hy hv k
theorem aq_pf {i x y o n : Nat} {tg : Nat → aq_T} {z : Int} (hrow : am_row C pc = some (.putfield i, 3, x, y)) (ho : o < m) (hF : F o = (10 + x, n, tg)) (hy : y < n) (ht : tg y = .inl 0) (hv : am_fok (ac_ft x y) (vI z) = true) (k : am_E C (pc + 3, ls, st, aq_h m s F (aq_u c o (y : Int) z)) Z) : am_E C (pc, ls, vI z :: vR o :: st, aq_h m s F c) Z :=
  ae_pf (h := aq_h m s F c) hrow ho (aq_hc hF) hy hv (by rw [show vI z = aq_w (.inl 0) z from rfl, aq_wr hF ht]; exact k)
theorem aq_al {ins : Instr} {ok : Nat → Bool} {x y a kd n : Nat} {i : Int} {tg : Nat → aq_T} {v : am_V} (hrow : am_row C pc = some (ins, 1, x, y)) (hs : am_sem ac_ft ins = am_ald ok) (ha : a < m) (hF : F a = (kd, n, tg)) (hok : ok kd = true) (h0 : 0 ≤ i) (hi : i < (n : Int)) (hv : aq_w (tg i.toNat) (c a i) = v) (k : am_E C (pc + 1, ls, v :: st, aq_h m s F c) Z) : am_E C (pc, ls, vI i :: vR a :: st, aq_h m s F c) Z := by
  refine ae_ald (h := aq_h m s F c) (j := i.toNat) (f := fun j => aq_w (tg j) (c a (j : Int))) hrow hs ha (aq_hc hF) hok (by omega) (by omega) ?_ k
  rw [← hv]
  show aq_w (tg i.toNat) (c a ((i.toNat : Nat) : Int)) = _
  rw [Int.toNat_of_nonneg h0]
/-- a table that stays -/
theorem aq_alt {ins : Instr} {ok : Nat → Bool} {x y a kd n : Nat} {i : Int} {t : Int → Int} (hrow : am_row C pc = some (ins, 1, x, y)) (hs : am_sem ac_ft ins = am_ald ok) (ha : a < m) (hF : F a = (kd, n, fun j => .inr (vI (t (j : Int))))) (hok : ok kd = true) (h0 : 0 ≤ i) (hi : i < (n : Int)) (k : am_E C (pc + 1, ls, vI (t i) :: st, aq_h m s F c) Z) : am_E C (pc, ls, vI i :: vR a :: st, aq_h m s F c) Z :=
  aq_al hrow hs ha hF hok h0 hi (by show vI (t ((i.toNat : Nat) : Int)) = _; rw [Int.toNat_of_nonneg h0]) k
theorem aq_as {ins : Instr} {x y a kd n : Nat} {i z : Int} {tg : Nat → aq_T} (hrow : am_row C pc = some (ins, 1, x, y)) (hs : am_sem ac_ft ins = am_ast kd kd) (ha : a < m) (hF : F a = (kd, n, tg)) (h0 : 0 ≤ i) (hi : i < (n : Int)) (ht : tg i.toNat = .inl 0) (hv : am_fok kd (vI z) = true) (k : am_E C (pc + 1, ls, st, aq_h m s F (aq_u c a i z)) Z) : am_E C (pc, ls, vI z :: vI i :: vR a :: st, aq_h m s F c) Z := by
  refine ae_ast (h := aq_h m s F c) (j := i.toNat) hrow hs ha (aq_hc hF) (by omega) (by omega) hv ?_
  rw [show vI z = aq_w (.inl 0) z from rfl, aq_wr hF ht, Int.toNat_of_nonneg h0]
  exact k
theorem aq_asl {ins : Instr} {x y a n : Nat} {i z : Int} {tg : Nat → aq_T} (hrow : am_row C pc = some (ins, 1, x, y)) (hs : am_sem ac_ft ins = am_ast 2 2) (ha : a < m) (hF : F a = (2, n, tg)) (h0 : 0 ≤ i) (hi : i < (n : Int)) (ht : tg i.toNat = .inl 2) (k : am_E C (pc + 1, ls, st, aq_h m s F (aq_u c a i z)) Z) : am_E C (pc, ls, vL z :: vI i :: vR a :: st, aq_h m s F c) Z := by
  refine ae_ast (h := aq_h m s F c) (j := i.toNat) hrow hs ha (aq_hc hF) (by omega) (by omega) rfl ?_
  rw [show vL z = aq_w (.inl 2) z from rfl, aq_wr hF ht, Int.toNat_of_nonneg h0]
  exact k
theorem aq_len {x y a kd n : Nat} {tg : Nat → aq_T} (hrow : am_row C pc = some (.arraylength, 1, x, y)) (ha : a < m) (hF : F a = (kd, n, tg)) (hk : kd < 7) (k : am_E C (pc + 1, ls, vI (n : Int) :: st, aq_h m s F c) Z) : am_E C (pc, ls, vR a :: st, aq_h m s F c) Z := by
  refine am_E.go hrow ?_ k
  show am_len 1 x y (pc, ls, vR a :: st, aq_h m s F c) = _
  unfold am_len
  simp only [aq_hc hF]
  rw [if_pos ⟨ha, hk⟩]
theorem aq_callv {ins : Instr} {x y mL a n : Nat} {tg : Nat → aq_T} {as2 rest : List am_V} {C2 : am_C} {Z2 : Option am_V → am_H → Prop} (hrow : am_row C pc = some (ins, 3, x, y)) (hs : am_sem ac_ft ins = am_inv) (hx : 1000 ≤ x) (hy : y ≤ st.length) (has : (st.take y).reverse = vR a :: as2) (hrest : st.drop y = rest) (hcat : (rest.map am_cat).sum ≤ 8) (ha : a < m) (hF : F a = (9 + x / 1000, n, tg))
    (hM : ac_L[x % 1000]? = some (C2, mL)) (hcat2 : ((vR a :: as2).map am_cat).sum ≤ mL) (hk : am_E C2 (0, am_pad mL (vR a :: as2), [], aq_h m s F c) Z2) (k : ∀ r h2, Z2 r h2 → am_E C (pc + 3, ls, r.toList ++ rest, h2) Z) : am_E C (pc, ls, st, aq_h m s F c) Z :=
  ae_callv (h := aq_h m s F c) hrow hs hx hy has hrest hcat ha (aq_hc hF) hM hcat2 hk k
end AE
/-- the contents are the same off the cells of S -/
def aq_sm (S : Nat → Prop) (c d : aq_C) : Prop := ∀ a, ¬ S a → ∀ i, d a i = c a i
theorem aq_sm0 {S : Nat → Prop} {c : aq_C} : aq_sm S c c := fun _ _ _ => rfl
theorem aq_smt {S : Nat → Prop} {c d e : aq_C} (h1 : aq_sm S c d) (h2 : aq_sm S d e) : aq_sm S c e := fun a ha i => by rw [h2 a ha i, h1 a ha i]
theorem aq_smu {S : Nat → Prop} {c d e : aq_C} {a : Nat} {i x : Int} (h1 : aq_sm S c d) (he : aq_u d a i x = e) (ha : S a) : aq_sm S c e := fun b hb j => by
  have hne : b ≠ a := fun q => hb (by rw [q]; exact ha)
  rw [← he, aq_un (Or.inl hne), h1 b hb j]
theorem aq_smi {S S2 : Nat → Prop} {c d : aq_C} (h : aq_sm S c d) (hi : ∀ a, S a → S2 a) : aq_sm S2 c d := fun a ha i => h a (fun q => ha (hi a q)) i
/-- a method's end: the heap is as it was, P holds of the answer -/
def aq_P (m s : Nat) (F : aq_F) (c : aq_C) (P : Option am_V → Prop) : Option am_V → am_H → Prop := fun r h2 => h2 = aq_h m s F c ∧ P r
/-- a method's end: the contents have changed on S alone, P holds of the answer and the contents -/
def aq_Z (m s : Nat) (F : aq_F) (S : Nat → Prop) (c : aq_C) (P : Option am_V → aq_C → Prop) : Option am_V → am_H → Prop := fun r h2 => ∃ d, h2 = aq_h m s F d ∧ aq_sm S c d ∧ P r d
/-- some number -/
def aq_vi (r : Option am_V) : Prop := ∃ v, r = some (vI v)
/-- 0 or 1 -/
def aq_vb (r : Option am_V) : Prop := ∃ v, r = some (vI v) ∧ (v = 0 ∨ v = 1)
/-- the first N places of cell a lie from lo up to below hi -/
def aq_rg (a : Nat) (N lo hi : Int) (c : aq_C) : Prop := ∀ i, 0 ≤ i → i < N → lo ≤ c a i ∧ c a i < hi
theorem aq_rgu {a : Nat} {N lo hi i x : Int} {c d : aq_C} (h : aq_rg a N lo hi c) (he : aq_u c a i x = d) (h1 : lo ≤ x) (h2 : x < hi) : aq_rg a N lo hi d := by
  intro j h3 h4
  rw [← he]
  unfold aq_u
  split
  · exact ⟨h1, h2⟩
  · exact h j h3 h4
theorem aq_rgn {a b : Nat} {N lo hi i x : Int} {c d : aq_C} (h : aq_rg a N lo hi c) (he : aq_u c b i x = d) (hb : a ≠ b) : aq_rg a N lo hi d := by
  intro j h3 h4
  rw [← he, aq_un (Or.inl hb)]
  exact h j h3 h4
theorem aq_rgs {S : Nat → Prop} {a : Nat} {N lo hi : Int} {c d : aq_C} (h : aq_rg a N lo hi c) (hs : aq_sm S c d) (ha : ¬ S a) : aq_rg a N lo hi d := by
  intro j h3 h4
  rw [hs a ha]
  exact h j h3 h4
theorem am_lcf (a b : Int) : ((if a < b then (-1 : Int) else if a = b then 0 else 1) = -1 ∧ a < b) ∨ ((if a < b then (-1 : Int) else if a = b then 0 else 1) = 0 ∧ a = b) ∨ ((if a < b then (-1 : Int) else if a = b then 0 else 1) = 1 ∧ b < a) := by
  by_cases h1 : a < b
  · rw [if_pos h1]
    exact Or.inl ⟨rfl, h1⟩
  · rw [if_neg h1]
    by_cases h2 : a = b
    · rw [if_pos h2]
      exact Or.inr (Or.inl ⟨rfl, h2⟩)
    · rw [if_neg h2]
      exact Or.inr (Or.inr ⟨rfl, by omega⟩)
theorem ae_retb {C : am_C} {pc : Nat} {ls : List am_V} {h : am_H} {Z : Option am_V → am_H → Prop} {y : Nat} {v : Int} (hrow : am_row C pc = some (.ireturn, 1, 1, y)) (hv : v = 0 ∨ v = 1) (k : Z (some (vI v)) h) : am_E C (pc, ls, [vI v], h) Z := by
  rcases hv with e | e <;> subst e <;> exact am_E.ret hrow rfl k
/-- references in an array of N places: nothing behind its end -/
def aq_g (N j a : Nat) : aq_T := .inr (if j < N then vR a else vN)
theorem aq_gi {N j a : Nat} {x : Int} (h : j < N) : aq_w (aq_g N j a) x = vR a := by
  unfold aq_g aq_w
  rw [if_pos h]
theorem aq_gi2 {N j a o : Nat} {x : Int} (h : j < N) (e : a = o) : aq_w (aq_g N j a) x = vR o := by
  rw [aq_gi h, e]
