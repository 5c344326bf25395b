/-! Copies in heaps of a fixed shape; Crossings and Sum: their shapes. -/
def aq_cp (c : aq_C) (a sp b dp n : Nat) : aq_C := fun x j => if x = b ∧ (dp : Int) ≤ j ∧ j < (dp : Int) + (n : Int) then c a ((sp : Int) + (j - (dp : Int))) else c x j
theorem aq_cph {m s : Nat} {F : aq_F} {c : aq_C} {a sp b dp n ka na nb t : Nat} (hF : F a = (ka, na, fun _ => .inl t)) (hG : F b = (ka, nb, fun _ => .inl t)) : am_cp (aq_h m s F c) a sp b dp n = aq_h m s F (aq_cp c a sp b dp n) := by
  have e : (fun x => if x = b then (((aq_h m s F c).2.2 b).1, ((aq_h m s F c).2.2 b).2.1, am_cpy ((aq_h m s F c).2.2 a).2.2 ((aq_h m s F c).2.2 b).2.2 sp dp n) else (aq_h m s F c).2.2 x) = (aq_h m s F (aq_cp c a sp b dp n)).2.2 := by
    funext x
    by_cases hx : x = b
    · subst hx
      rw [if_pos rfl, aq_hc hF, aq_hc hG, aq_hc hG]
      refine congrArg (fun f => (ka, nb, f)) ?_
      funext j
      unfold am_cpy aq_cp
      simp only [true_and]
      by_cases h : dp ≤ j ∧ j < dp + n
      · rw [if_pos h, if_pos (by omega)]
        congr 2
        omega
      · rw [if_neg h, if_neg (by omega)]
    · rw [if_neg hx]
      show ((F x).1, (F x).2.1, fun i => aq_w ((F x).2.2 i) (c x (i : Int))) = ((F x).1, (F x).2.1, fun i => aq_w ((F x).2.2 i) (aq_cp c a sp b dp n x (i : Int)))
      refine congrArg (fun f => ((F x).1, (F x).2.1, f)) ?_
      funext j
      unfold aq_cp
      rw [if_neg (fun h => hx h.1)]
  show (m, s, fun x => if x = b then (((aq_h m s F c).2.2 b).1, ((aq_h m s F c).2.2 b).2.1, am_cpy ((aq_h m s F c).2.2 a).2.2 ((aq_h m s F c).2.2 b).2.2 sp dp n) else (aq_h m s F c).2.2 x) = (m, s, (aq_h m s F (aq_cp c a sp b dp n)).2.2)
  rw [e]
theorem aq_cpy {C : am_C} {pc : Nat} {ls : List am_V} {Z : Option am_V → am_H → Prop} {m s : Nat} {F : aq_F} {c : aq_C} {j y a b ka na nb sp dp n t : Nat} {i1 i2 i3 : Int} (hrow : am_row C pc = some (.invokestatic j, 3, 901, y)) (ha : a < m) (hb : b < m) (hF : F a = (ka, na, fun _ => .inl t)) (hG : F b = (ka, nb, fun _ => .inl t)) (hk : ka = 0 ∨ ka = 2) (h1 : i1 = (sp : Int)) (h2 : i2 = (dp : Int)) (h3 : i3 = (n : Int)) (h4 : sp + n ≤ na) (h5 : dp + n ≤ nb) (k : am_E C (pc + 3, ls, [], aq_h m s F (aq_cp c a sp b dp n)) Z) : am_E C (pc, ls, [vI i3, vI i2, vR b, vI i1, vR a], aq_h m s F c) Z :=
  ae_copy (h := aq_h m s F c) hrow ha hb (aq_hc hF) (aq_hc hG) hk h1 h2 h3 h4 h5 (by rw [aq_cph hF hG]; exact k)
theorem aq_smc {S : Nat → Prop} {c d e : aq_C} {a sp b dp n : Nat} (h1 : aq_sm S c d) (he : aq_cp d a sp b dp n = e) (hb : S b) : aq_sm S c e := fun x hx j => by
  have hne : x ≠ b := fun q => hx (by rw [q]; exact hb)
  rw [← he]
  unfold aq_cp
  rw [if_neg (fun h => hne h.1), h1 x hx j]
def cr_t (x : Nat) : Nat → aq_T := fun y => match y with
  | 2 => .inr (vR (x + 1))
  | 3 => .inr (vR (x + 2))
  | _ => .inl 0
def cr_0 (m : Nat) (F : aq_F) (x : Nat) : Prop := x + 3 ≤ m ∧ F x = (11, 5, cr_t x) ∧ F (x + 1) = (0, 8, fun _ => .inl 0) ∧ F (x + 2) = (0, 81, fun _ => .inl 0)
/-- the row of crossings is well made -/
def cr_l (x : Nat) (c : aq_C) : Prop := 2 ≤ c x 0 ∧ c x 0 ≤ 4 ∧ 0 ≤ c x 1 ∧ c x 1 ≤ 8 ∧ ∀ i, 0 ≤ i → i < c x 1 → c (x + 1) i ≠ 0 ∧ -(c x 0) < c (x + 1) i ∧ c (x + 1) i < c x 0
def su_t (a : Nat) : Nat → aq_T := fun y => match y with
  | 2 => .inr (vR (a + 1))
  | 3 => .inr (vR (a + 2))
  | 4 => .inr (vR (a + 3))
  | _ => .inl 0
def su_0 (m : Nat) (F : aq_F) (a : Nat) : Prop := a + 4 ≤ m ∧ F a = (13, 5, su_t a) ∧ F (a + 1) = (0, 40, fun _ => .inl 0) ∧ F (a + 2) = (0, 40, fun _ => .inl 0) ∧ F (a + 3) = (2, 40, fun _ => .inl 2)
/-- how many boxes -/
def bx_K (n : Int) : Int := if n = 1 then 1 else if n = 2 then 3 else if n = 3 then 15 else 105
/-- a sum's size, and its boxes' numbers, are in range -/
def su_k (a : Nat) (k : Int) (c : aq_C) : Prop := 0 ≤ c a 1 ∧ c a 1 ≤ 40 ∧ ∀ i, 0 ≤ i → i < c a 1 → 0 ≤ c (a + 1) i ∧ c (a + 1) i < k ∧ -1000000000000 ≤ c (a + 3) i ∧ c (a + 3) i ≤ 1000000000000
theorem nu_pc {f g : Int → Int} {N p : Int} (h : ∀ i, 0 ≤ i → i < N → f i = g i) (hp : 0 ≤ p) (hpN : p < N) (hf : f p ≤ N) : ∀ (d : Nat) (q a : Int), 0 ≤ q → nu_p f p d q a = nu_p g p d q a
  | 0, q, a, hq => rfl
  | d + 1, q, a, hq => by
    rw [nu_p, nu_p, ← h p hp hpN]
    by_cases e : q < f p
    · rw [if_pos e, if_pos e, h q hq (by omega)]
      exact nu_pc h hp hpN hf d (q + 1) _ (by omega)
    · rw [if_neg e, if_neg e]
theorem nu_oc {f g : Int → Int} {N : Int} (h : ∀ i, 0 ≤ i → i < N → f i = g i) (hf : ∀ i, 0 ≤ i → i < N → f i ≤ N) : ∀ (d : Nat) (p x ch : Int), 0 ≤ p → nu_o f N d p x ch = nu_o g N d p x ch
  | 0, p, x, ch, hp => rfl
  | d + 1, p, x, ch, hp => by
    rw [nu_o, nu_o]
    by_cases e : p < N
    · rw [if_pos e, if_pos e, ← h p hp e, nu_pc h hp e (hf p hp e) 9 (p + 1) 0 (by omega)]
      by_cases e2 : p < f p
      · rw [if_pos e2, if_pos e2]
        exact nu_oc h hf d (p + 1) _ _ (by omega)
      · rw [if_neg e2, if_neg e2]
        exact nu_oc h hf d (p + 1) _ _ (by omega)
    · rw [if_neg e, if_neg e]
theorem am_shi1 {k : Int} (h0 : 0 ≤ k) (h8 : k ≤ 8) : 1 ≤ am_shi 1 k ∧ am_shi 1 k ≤ 256 := by
  have h : k = 0 ∨ k = 1 ∨ k = 2 ∨ k = 3 ∨ k = 4 ∨ k = 5 ∨ k = 6 ∨ k = 7 ∨ k = 8 := by omega
  rcases h with h | h | h | h | h | h | h | h | h <;> subst h <;> decide
theorem ae_neg {C : am_C} {pc : Nat} {ls st : List am_V} {h : am_H} {Z : Option am_V → am_H → Prop} {x y : Nat} {a : Int} (hrow : am_row C pc = some (.ineg, 1, x, y)) (hr : am_r32 (-a)) (k : am_E C (pc + 1, ls, vI (-a) :: st, h) Z) : am_E C (pc, ls, vI a :: st, h) Z := by
  refine am_E.go hrow ?_ k
  show some (Sum.inl (pc + 1, ls, vI (am_w (-a)) :: st, h)) = _
  rw [am_w_id hr]
theorem rn_J9_abs {a : Int} (h1 : -2147483648 < a) (h2 : a < 2147483648) (h : am_H) : am_E ac_J9_abs_0f7a4 (0, [vI a], [], h) (fun r h2 => h2 = h ∧ ∃ v, r = some (vI v) ∧ ((0 ≤ a ∧ v = a) ∨ (a < 0 ∧ v = -a))) := by
  refine am_E.go (t2 := (1, [vI a], [vI a], h)) rfl rfl ?_
  refine ae_if0 rfl (fun (q : 0 ≤ a) => ?_) (fun (q : a < 0) => ?_)
  · refine am_E.go (t2 := (10, [vI a], [vI a], h)) rfl rfl ?_
    exact am_E.ret rfl rfl ⟨rfl, _, rfl, by omega⟩
  · refine am_E.go (t2 := (5, [vI a], [vI a], h)) rfl rfl ?_
    refine ae_neg rfl (am_ri (by omega) (by omega)) ?_
    refine am_E.go (t2 := (10, [vI a], [vI (-a)], h)) rfl rfl ?_
    exact am_E.ret rfl rfl ⟨rfl, _, rfl, by omega⟩
theorem rn_J9_absl {a : Int} (h : am_H) : am_E ac_J9_abs_067f4 (0, [vL a, vU], [], h) (fun r h2 => h2 = h ∧ ∃ v, r = some (vL v) ∧ ((0 ≤ a ∧ v = a) ∨ (a < 0 ∧ v = am_wl (-a)))) := by
  refine am_E.go (t2 := (1, [vL a, vU], [vL a], h)) rfl rfl ?_
  refine am_E.go (t2 := (2, [vL a, vU], [vL 0, vL a], h)) rfl rfl ?_
  refine am_E.go (t2 := (3, [vL a, vU], [vI (if a < 0 then -1 else if a = 0 then 0 else 1)], h)) rfl rfl ?_
  refine ae_if0 rfl (fun (q : 0 ≤ (if a < 0 then (-1 : Int) else if a = 0 then 0 else 1)) => ?_) (fun (q : (if a < 0 then (-1 : Int) else if a = 0 then 0 else 1) < 0) => ?_)
  · refine am_E.go (t2 := (12, [vL a, vU], [vL a], h)) rfl rfl ?_
    refine am_E.ret rfl rfl ⟨rfl, _, rfl, Or.inl ⟨?_, rfl⟩⟩
    split at q <;> omega
  · refine am_E.go (t2 := (7, [vL a, vU], [vL a], h)) rfl rfl ?_
    refine am_E.go (t2 := (8, [vL a, vU], [vL (am_wl (-a))], h)) rfl rfl ?_
    refine am_E.go (t2 := (12, [vL a, vU], [vL (am_wl (-a))], h)) rfl rfl ?_
    refine am_E.ret rfl rfl ⟨rfl, _, rfl, Or.inr ⟨?_, rfl⟩⟩
    by_cases e : a < 0
    · exact e
    · rw [if_neg e] at q
      split at q <;> omega
