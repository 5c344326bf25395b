/-! New arrays and references put into fields, in heaps of a shape. -/
theorem aq_mk {m s kd n : Nat} {F : aq_F} {c : aq_C} (hkd : kd ≤ 2) : am_mk (aq_h m s F c) kd n (fun _ => am_dv kd) = aq_h (m + 1) (s + n) (am_up F m (kd, n, fun _ => .inl (if kd = 2 then 2 else 0))) (fun a i => if a = m then 0 else c a i) := by
  unfold am_mk
  show (m + 1, s + n, am_up (aq_h m s F c).2.2 m (kd, n, fun _ => am_dv kd)) = (m + 1, s + n, (aq_h (m + 1) (s + n) (am_up F m (kd, n, fun _ => .inl (if kd = 2 then 2 else 0))) (fun a i => if a = m then 0 else c a i)).2.2)
  refine congrArg (fun f => (m + 1, s + n, f)) ?_
  funext a
  by_cases e : a = m
  · subst e
    rw [am_up_s, aq_hc (am_up_s)]
    refine congrArg (fun f => (kd, n, f)) ?_
    funext i
    rw [if_pos rfl]
    have h : kd = 0 ∨ kd = 1 ∨ kd = 2 := by omega
    rcases h with h | h | h <;> subst h <;> rfl
  · rw [am_up_n e]
    show ((F a).1, (F a).2.1, fun i => aq_w ((F a).2.2 i) (c a (i : Int))) = ((am_up F m _ a).1, (am_up F m _ a).2.1, fun i => aq_w ((am_up F m _ a).2.2 i) (if a = m then 0 else c a (i : Int)))
    rw [am_up_n e]
    simp only [if_neg e]
theorem aq_wp {m s o k n a : Nat} {F : aq_F} {c : aq_C} {kd : Nat} {tg : Nat → aq_T} (hF : F o = (kd, n, tg)) : am_wr (aq_h m s F c) o k (vR a) = aq_h m s (am_up F o (kd, n, am_up tg k (.inr (vR a)))) c := by
  unfold am_wr
  show (m, s, am_up (aq_h m s F c).2.2 o _) = (m, s, (aq_h m s (am_up F o (kd, n, am_up tg k (.inr (vR a)))) c).2.2)
  refine congrArg (fun f => (m, s, f)) ?_
  funext b
  by_cases e : b = o
  · subst e
    rw [am_up_s, aq_hc hF, aq_hc am_up_s]
    refine congrArg (fun f => (kd, n, f)) ?_
    funext i
    by_cases ei : i = k
    · rw [ei, am_up_s, am_up_s]
      rfl
    · rw [am_up_n ei, am_up_n ei]
  · rw [am_up_n e]
    show ((F b).1, (F b).2.1, fun i => aq_w ((F b).2.2 i) (c b (i : Int))) = ((am_up F o _ b).1, (am_up F o _ b).2.1, fun i => aq_w ((am_up F o _ b).2.2 i) (c b (i : Int)))
    rw [am_up_n e]
section AE
variable {C : am_C} {pc : Nat} {ls st : List am_V} {Z : Option am_V → am_H → Prop} {m s : Nat} {F : aq_F} {c : aq_C}
/-- a new array of numbers, put into a field of the object at o -/
theorem aq_step {ty : Jvm.ClassFile.ArrayType} {kd y1 i x fl o n N : Nat} {v : Int} {tg : Nat → aq_T} (hr1 : am_row C pc = some (.newarray ty, 2, kd, y1)) (hr2 : am_row C (pc + 2) = some (.putfield i, 3, x, fl)) (hF : F o = (10 + x, N, tg)) (ho : o < m) (hkd : kd ≤ 2) (hv : v = (n : Int)) (hn : n ≤ 1024) (hft : ac_ft x fl = 3) (hfl : fl < N) (k : ∀ (F2 : aq_F) (c2 : aq_C), F2 o = (10 + x, N, am_up tg fl (.inr (vR m))) → F2 m = (kd, n, fun _ => .inl (if kd = 2 then 2 else 0)) → (∀ a, a ≠ o → a ≠ m → F2 a = F a) → (∀ j, c2 m j = 0) → (∀ a, a ≠ m → ∀ j, c2 a j = c a j) → am_E C (pc + 5, ls, st, aq_h (m + 1) (s + n) F2 c2) Z) : am_E C (pc, ls, vI v :: vR o :: st, aq_h m s F c) Z := by
  refine ae_newa (h := aq_h m s F c) (lo := 0) (top := 2) (n := n) hr1 rfl hv hn ⟨by omega, hkd⟩ ?_
  rw [aq_mk hkd]
  have e1 : am_up F m (kd, n, fun _ => Sum.inl (if kd = 2 then 2 else 0)) o = (10 + x, N, tg) := by
    rw [am_up_n (by omega)]
    exact hF
  refine ae_pf (h := aq_h (m + 1) (s + n) _ _) (x := x) (y := fl) hr2 (show o < m + 1 by omega) (aq_hc e1) hfl (by rw [hft]; rfl) ?_
  show am_E C (pc + 2 + 3, ls, st, am_wr (aq_h (m + 1) (s + n) _ _) o fl (vR m)) Z
  rw [aq_wp e1]
  refine k _ _ am_up_s ?_ (fun a h1 h2 => ?_) (fun j => if_pos rfl) (fun a h1 j => if_neg h1)
  · rw [am_up_n (by omega), am_up_s]
  · rw [am_up_n h1, am_up_n h2]
end AE
