/-! Constructors: more rules for new cells, in heaps of a shape. -/
theorem aq_eq {m s : Nat} {F F2 : aq_F} {c c2 : aq_C} (h : ∀ a, (F2 a).1 = (F a).1 ∧ (F2 a).2.1 = (F a).2.1 ∧ ∀ i : Nat, aq_w ((F2 a).2.2 i) (c2 a (i : Int)) = aq_w ((F a).2.2 i) (c a (i : Int))) : aq_h m s F c = aq_h m s F2 c2 := by
  show (m, s, (aq_h m s F c).2.2) = (m, s, (aq_h m s F2 c2).2.2)
  refine congrArg (fun f => (m, s, f)) ?_
  funext a
  show ((F a).1, (F a).2.1, fun i : Nat => aq_w ((F a).2.2 i) (c a (i : Int))) = ((F2 a).1, (F2 a).2.1, fun i : Nat => aq_w ((F2 a).2.2 i) (c2 a (i : Int)))
  obtain ⟨h1, h2, h3⟩ := h a
  rw [h1, h2]
  refine congrArg (fun f => ((F a).1, (F a).2.1, f)) ?_
  funext i
  exact (h3 i).symm
/-- the cells of T hold numbers that stay from here on -/
noncomputable def aq_fz (T : Nat → Prop) (F : aq_F) (c : aq_C) : aq_F := fun a => @ite (Nat × Nat × (Nat → aq_T)) (T a) (Classical.propDecidable (T a)) ((F a).1, (F a).2.1, fun j => .inr (vI (c a (j : Int)))) (F a)
theorem aq_fzh {m s : Nat} {F : aq_F} {c : aq_C} {T : Nat → Prop} (h : ∀ a, T a → ∃ n, F a = (0, n, fun _ => .inl 0)) : aq_h m s F c = aq_h m s (aq_fz T F c) c := by
  refine aq_eq fun a => ?_
  unfold aq_fz
  by_cases e : T a
  · rw [if_pos e]
    obtain ⟨n, hn⟩ := h a e
    refine ⟨rfl, rfl, fun i => ?_⟩
    rw [hn]
    rfl
  · rw [if_neg e]
    exact ⟨rfl, rfl, fun i => rfl⟩
theorem aq_fzy {F : aq_F} {c : aq_C} {T : Nat → Prop} {a n : Nat} (h : T a) (hF : F a = (0, n, fun _ => .inl 0)) : aq_fz T F c a = (0, n, fun j => .inr (vI (c a (j : Int)))) := by
  unfold aq_fz
  rw [if_pos h, hF]
theorem aq_fzn {F : aq_F} {c : aq_C} {T : Nat → Prop} {a : Nat} (h : ¬ T a) : aq_fz T F c a = F a := by
  unfold aq_fz
  rw [if_neg h]
theorem aq_grid {m s n w : Nat} {F : aq_F} {c : aq_C} : am_grid (aq_h m s F c) n w = aq_h (m + 1 + n) (s + n + n * w) (fun a => if a = m then (3, n, fun j => aq_g n j (m + 1 + j)) else if m < a ∧ a < m + 1 + n then (0, w, fun _ => .inl 0) else F a) (fun a i => if m ≤ a ∧ a < m + 1 + n then 0 else c a i) := by
  unfold am_grid
  refine congrArg (fun f => (m + 1 + n, s + n + n * w, f)) ?_
  funext a
  show (if a = m then (3, n, fun i => if i < n then vR (m + 1 + i) else vN) else if m < a ∧ a < m + 1 + n then (0, w, fun _ => vI 0) else ((F a).1, (F a).2.1, fun i : Nat => aq_w ((F a).2.2 i) (c a (i : Int)))) = _
  show _ = (((fun a => if a = m then (3, n, fun j => aq_g n j (m + 1 + j)) else if m < a ∧ a < m + 1 + n then (0, w, fun _ => .inl 0) else F a : aq_F) a).1, ((fun a => if a = m then (3, n, fun j => aq_g n j (m + 1 + j)) else if m < a ∧ a < m + 1 + n then (0, w, fun _ => .inl 0) else F a : aq_F) a).2.1, fun i : Nat => aq_w (((fun a => if a = m then (3, n, fun j => aq_g n j (m + 1 + j)) else if m < a ∧ a < m + 1 + n then (0, w, fun _ => .inl 0) else F a : aq_F) a).2.2 i) (if m ≤ a ∧ a < m + 1 + n then 0 else c a (i : Int)))
  by_cases e : a = m
  · simp only [if_pos e]
    rfl
  · simp only [if_neg e]
    by_cases e2 : m < a ∧ a < m + 1 + n
    · have e3 : m ≤ a ∧ a < m + 1 + n := by omega
      simp only [if_pos e2, if_pos e3]
      rfl
    · have e3 : ¬ (m ≤ a ∧ a < m + 1 + n) := by omega
      simp only [if_neg e2, if_neg e3]
def aq_ot (k : Nat) : aq_T := match k with
  | 0 => .inl 0
  | 1 => .inl 0
  | 2 => .inl 2
  | _ => .inr vN
theorem aq_otw (k : Nat) : aq_w (aq_ot k) 0 = am_dv k := by
  match k with
  | 0 => rfl
  | 1 => rfl
  | 2 => rfl
  | k + 3 => rfl
section AE
variable {C : am_C} {pc : Nat} {ls st : List am_V} {Z : Option am_V → am_H → Prop} {m s : Nat} {F : aq_F} {c : aq_C}
theorem aq_mkg {kd n : Nat} {f : Nat → am_V} {t : Nat → aq_T} (h : ∀ i, aq_w (t i) 0 = f i) : am_mk (aq_h m s F c) kd n f = aq_h (m + 1) (s + n) (am_up F m (kd, n, t)) (fun a i => if a = m then 0 else c a i) := by
  unfold am_mk
  refine congrArg (fun f => (m + 1, s + n, f)) ?_
  funext a
  by_cases e : a = m
  · subst e
    show am_up (aq_h a s F c).2.2 a (kd, n, f) a = ((am_up F a (kd, n, t) a).1, (am_up F a (kd, n, t) a).2.1, fun i : Nat => aq_w ((am_up F a (kd, n, t) a).2.2 i) (if a = a then 0 else c a (i : Int)))
    simp only [am_up_s]
    refine congrArg (fun f => (kd, n, f)) ?_
    funext i
    rw [if_pos trivial, h i]
  · show am_up (aq_h m s F c).2.2 m (kd, n, f) a = _
    rw [am_up_n e]
    show ((F a).1, (F a).2.1, fun i : Nat => aq_w ((F a).2.2 i) (c a (i : Int))) = ((am_up F m _ a).1, (am_up F m _ a).2.1, fun i : Nat => aq_w ((am_up F m _ a).2.2 i) (if a = m then 0 else c a (i : Int)))
    rw [am_up_n e]
    simp only [if_neg e]
/-- a new object -/
theorem aq_new {i x N a m2 : Nat} (hrow : am_row C pc = some (.new i, 3, x, N)) (ha : a = m) (hm : m2 = m + 1) (k : ∀ (s2 : Nat) (F2 : aq_F) (c2 : aq_C), s2 = s + N → F2 a = (10 + x, N, fun j => aq_ot (ac_ft x j)) → (∀ b, b ≠ a → F2 b = F b) → (∀ j, c2 a j = 0) → (∀ b, b ≠ a → ∀ j, c2 b j = c b j) → am_E C (pc + 3, ls, vR a :: st, aq_h m2 s2 F2 c2) Z) : am_E C (pc, ls, st, aq_h m s F c) Z := by
  subst ha
  subst hm
  refine am_E.go hrow (t2 := (pc + 3, ls, vR a :: st, am_mk (aq_h a s F c) (10 + x) N (fun j => am_dv (ac_ft x j)))) rfl ?_
  rw [aq_mkg (fun i => aq_otw (ac_ft x i))]
  exact k _ _ _ rfl am_up_s (fun b hb => am_up_n hb) (fun j => if_pos rfl) (fun b hb j => if_neg hb)
/-- a new array of numbers -/
theorem aq_nwa {ty : Jvm.ClassFile.ArrayType} {kd y1 n a m2 : Nat} {v : Int} (hrow : am_row C pc = some (.newarray ty, 2, kd, y1)) (hkd : kd ≤ 1) (hv : v = (n : Int)) (hn : n ≤ 1024) (ha : a = m) (hm : m2 = m + 1) (k : ∀ (s2 : Nat) (F2 : aq_F) (c2 : aq_C), s2 = s + n → F2 a = (kd, n, fun _ => .inl 0) → (∀ b, b ≠ a → F2 b = F b) → (∀ j, c2 a j = 0) → (∀ b, b ≠ a → ∀ j, c2 b j = c b j) → am_E C (pc + 2, ls, vR a :: st, aq_h m2 s2 F2 c2) Z) : am_E C (pc, ls, vI v :: st, aq_h m s F c) Z := by
  subst ha
  subst hm
  refine ae_newa (h := aq_h a s F c) (lo := 0) (top := 2) (n := n) hrow rfl hv hn ⟨by omega, by omega⟩ ?_
  rw [aq_mkg (t := fun _ => .inl 0) (fun i => by rcases (show kd = 0 ∨ kd = 1 by omega) with h | h <;> subst h <;> rfl)]
  exact k _ _ _ rfl am_up_s (fun b hb => am_up_n hb) (fun j => if_pos rfl) (fun b hb j => if_neg hb)
/-- a new array of references -/
theorem aq_nwr {i kd y1 n a m2 : Nat} {v : Int} (hrow : am_row C pc = some (.anewarray i, 3, kd, y1)) (hkd : 4 ≤ kd ∧ kd ≤ 6) (hv : v = (n : Int)) (hn : n ≤ 1024) (ha : a = m) (hm : m2 = m + 1) (k : ∀ (s2 : Nat) (F2 : aq_F) (c2 : aq_C), s2 = s + n → F2 a = (kd, n, fun _ => .inr vN) → (∀ b, b ≠ a → F2 b = F b) → (∀ b, b ≠ a → ∀ j, c2 b j = c b j) → am_E C (pc + 3, ls, vR a :: st, aq_h m2 s2 F2 c2) Z) : am_E C (pc, ls, vI v :: st, aq_h m s F c) Z := by
  subst ha
  subst hm
  refine ae_newa (h := aq_h a s F c) (lo := 4) (top := 6) (n := n) hrow rfl hv hn hkd ?_
  rw [aq_mkg (t := fun _ => .inr vN) (fun i => by rcases (show kd = 4 ∨ kd = 5 ∨ kd = 6 by omega) with h | h | h <;> subst h <;> rfl)]
  exact k _ _ _ rfl am_up_s (fun b hb => am_up_n hb) (fun b hb j => if_neg hb)
/-- a reference into a field -/
theorem aq_pfr {i x fl o N a : Nat} {tg : Nat → aq_T} (hrow : am_row C pc = some (.putfield i, 3, x, fl)) (ho : o < m) (hF : F o = (10 + x, N, tg)) (hfl : fl < N) (hft : ac_ft x fl = 3) (k : ∀ F2 : aq_F, F2 o = (10 + x, N, am_up tg fl (.inr (vR a))) → (∀ b, b ≠ o → F2 b = F b) → am_E C (pc + 3, ls, st, aq_h m s F2 c) Z) : am_E C (pc, ls, vR a :: vR o :: st, aq_h m s F c) Z := by
  refine ae_pf (h := aq_h m s F c) hrow ho (aq_hc hF) hfl (by rw [hft]; rfl) ?_
  rw [aq_wp hF]
  exact k _ am_up_s (fun b hb => am_up_n hb)
/-- a reference into an array -/
theorem aq_aas {x y a b n n2 kd j : Nat} {i : Int} {tg tg2 : Nat → aq_T} (hrow : am_row C pc = some (.aastore, 1, x, y)) (ha : a < m) (hb : b < m) (hF : F a = (kd, n, tg)) (hF2 : F b = (am_comp kd, n2, tg2)) (h4 : 4 ≤ kd) (h7 : kd < 7) (hi : i = (j : Int)) (hj : j < n) (k : ∀ F2 : aq_F, F2 a = (kd, n, am_up tg j (.inr (vR b))) → (∀ d, d ≠ a → F2 d = F d) → am_E C (pc + 1, ls, st, aq_h m s F2 c) Z) : am_E C (pc, ls, vR b :: vI i :: vR a :: st, aq_h m s F c) Z := by
  refine ae_aast (h := aq_h m s F c) hrow ha hb (aq_hc hF) (aq_hc hF2) h4 h7 hi hj ?_
  rw [aq_wp hF]
  exact k _ am_up_s (fun b hb => am_up_n hb)
/-- a new array of numbers, put into a field -/
theorem aq_stp {ty : Jvm.ClassFile.ArrayType} {kd y1 i x fl o n N a m2 : Nat} {v : Int} {tg : Nat → aq_T} (hr1 : am_row C pc = some (.newarray ty, 2, kd, y1)) (hr2 : am_row C (pc + 2) = some (.putfield i, 3, x, fl)) (hF : F o = (10 + x, N, tg)) (ho : o < m) (hkd : kd ≤ 1) (hv : v = (n : Int)) (hn : n ≤ 1024) (hft : ac_ft x fl = 3) (hfl : fl < N) (ha : a = m) (hm : m2 = m + 1) (k : ∀ (s2 : Nat) (F2 : aq_F) (c2 : aq_C), s2 = s + n → F2 o = (10 + x, N, am_up tg fl (.inr (vR a))) → F2 a = (kd, n, fun _ => .inl 0) → (∀ b, b ≠ o → b ≠ a → F2 b = F b) → (∀ j, c2 a j = 0) → (∀ b, b ≠ a → ∀ j, c2 b j = c b j) → am_E C (pc + 5, ls, st, aq_h m2 s2 F2 c2) Z) : am_E C (pc, ls, vI v :: vR o :: st, aq_h m s F c) Z := by
  refine aq_nwa hr1 hkd hv hn ha hm fun s2 F2 c2 e1 e2 e3 e4 e5 => ?_
  refine aq_pfr (pc := pc + 2) (F := F2) hr2 (by omega) (by rw [e3 o (by omega)]; exact hF) hfl hft fun F3 e6 e7 => ?_
  exact k s2 F3 c2 e1 e6 (by rw [e7 a (by omega)]; exact e2) (fun b h1 h2 => by rw [e7 b h1, e3 b h2]) e4 e5
/-- a new row of rows, put into a field -/
theorem aq_gst {i1 d1 x1 y1 i x fl o n w N a m2 : Nat} {v v2 : Int} {tg : Nat → aq_T} (hr1 : am_row C pc = some (.multianewarray i1 d1, 4, x1, y1)) (hr2 : am_row C (pc + 4) = some (.putfield i, 3, x, fl)) (hF : F o = (10 + x, N, tg)) (ho : o < m) (hv : v = (n : Int)) (hv2 : v2 = (w : Int)) (hn : n ≤ 1024) (hw : w ≤ 1024) (hft : ac_ft x fl = 3) (hfl : fl < N) (ha : a = m) (hm : m2 = m + 1 + n) (k : ∀ (s2 : Nat) (F2 : aq_F) (c2 : aq_C), s2 = s + n + n * w → F2 o = (10 + x, N, am_up tg fl (.inr (vR a))) → F2 a = (3, n, fun j => aq_g n j (a + 1 + j)) → (∀ b, b < n → F2 (a + 1 + b) = (0, w, fun _ => .inl 0)) → (∀ b, b ≠ o → (b < a ∨ m2 ≤ b) → F2 b = F b) → (∀ b, a ≤ b → b < m2 → ∀ j, c2 b j = 0) → (∀ b, (b < a ∨ m2 ≤ b) → ∀ j, c2 b j = c b j) → am_E C (pc + 7, ls, st, aq_h m2 s2 F2 c2) Z) : am_E C (pc, ls, vI v2 :: vI v :: vR o :: st, aq_h m s F c) Z := by
  subst ha
  refine ae_mna (h := aq_h a s F c) (n := n) (m := w) hr1 hv hv2 hn hw ?_
  rw [aq_grid, ← hm]
  show am_E C (pc + 4, ls, vR a :: vR o :: st, aq_h m2 (s + n + n * w) _ _) Z
  refine aq_pfr (pc := pc + 4) (o := o) (tg := tg) (N := N) hr2 (by omega) ?_ hfl hft fun F3 e6 e7 => ?_
  · rw [if_neg (by omega), if_neg (by omega)]
    exact hF
  refine k _ F3 _ rfl e6 ?_ (fun b hb => ?_) (fun b h1 h2 => ?_) (fun b h1 h2 j => ?_) (fun b h1 j => ?_)
  · rw [e7 a (by omega), if_pos rfl]
  · rw [e7 _ (by omega), if_neg (by omega), if_pos (by omega)]
  · rw [e7 b h1]
    by_cases e : b = a
    · omega
    · rw [if_neg e, if_neg (by omega)]
  · rw [if_pos (by omega)]
  · rw [if_neg (by omega)]
end AE
