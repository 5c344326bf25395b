/-! The class's constructor, whole. -/
theorem su_t0e : (fun j => aq_ot (ac_ft 3 j)) = su_t0 := by
  funext j
  match j with
  | 0 => rfl
  | 1 => rfl
  | 2 => rfl
  | 3 => rfl
  | 4 => rfl
  | j + 5 => rfl
theorem cr_t0e : (fun j => aq_ot (ac_ft 1 j)) = cr_t0 := by
  funext j
  match j with
  | 0 => rfl
  | 1 => rfl
  | 2 => rfl
  | 3 => rfl
  | 4 => rfl
  | j + 5 => rfl
/-- behind the sums before j -/
def sb_E (j : Nat) (m : Nat) (F : aq_F) (c : aq_C) : Prop := F 0 = (14, 5, sb_t) ∧ F 1 = (4, 4, fun j => aq_g 4 j (sb_o j)) ∧ F 2 = (5, 4, fun j => aq_g 4 j (sb_h j)) ∧ F 3 = (6, 8, fun i => aq_g j i (495 + 4 * i)) ∧ su_0 m F 4 ∧ cr_0 m F 8 ∧ (∀ i, i < j → su_0 m F (495 + 4 * i)) ∧ (∀ i, i < 4 → sb_B m F (sb_o i) (i + 1) (sb_K i)) ∧ (∀ i, i < 4 → sb_H m F (sb_h i) (i + 1)) ∧ (∀ i, i < 4 → aq_rg (sb_o i + 6 + 3 * sb_K i) (2 * ((i + 1 : Nat) : Int)) 0 (2 * ((i + 1 : Nat) : Int)) c) ∧ (cr_l 8 c ∧ c 8 0 = 2 ∧ c 8 1 = 0) ∧ ∀ i, i < j → sb_u (495 + 4 * i) c
theorem sb_end4 : ∀ i, i < 4 → 11 ≤ sb_o i ∧ sb_o i + 10 + 3 * sb_K i = sb_h i ∧ sb_h i + 18 ≤ 495 := by decide
theorem sb_su {s j : Nat} {F : aq_F} {c : aq_C} {Z : Option am_V → am_H → Prop} (hj : j < 8) (hE : sb_E j (495 + 4 * j) F c) (k : ∀ (s2 : Nat) (F2 : aq_F) (c2 : aq_C), s2 ≤ s + 200 → sb_E (j + 1) (495 + 4 * (j + 1)) F2 c2 → am_E ac_X4_init (98, [vR 0, vI ((j + 1 : Nat) : Int)], [], aq_h (495 + 4 * (j + 1)) s2 F2 c2) Z) : am_E ac_X4_init (98, [vR 0, vI ((j : Nat) : Int)], [], aq_h (495 + 4 * j) s F c) Z := by
  obtain ⟨d0, d1, d2, d3, d4, d8, ds, dB, dH, dr, dl, du⟩ := hE
  obtain ⟨a, ha⟩ : ∃ a, 495 + 4 * j = a := ⟨_, rfl⟩
  have eo := aq_gu (j := j) (f := fun i => 495 + 4 * i)
  simp only [ha] at eo
  rw [show 495 + 4 * (j + 1) = a + 4 by omega] at k
  rw [ha] at d4 d8 ds dB dH ⊢
  refine am_E.go (t2 := (99, [vR 0, vI (j : Int)], [vI (j : Int)], aq_h a s F c)) rfl rfl ?_
  refine am_E.go (t2 := (101, [vR 0, vI (j : Int)], [vI 8, vI (j : Int)], aq_h a s F c)) rfl rfl ?_
  refine ae_icmp rfl (fun (q : (8 : Int) ≤ (j : Int)) => absurd q (by omega)) (fun _ => ?_)
  refine am_E.go (t2 := (105, [vR 0, vI (j : Int)], [vR 0], aq_h a s F c)) rfl rfl ?_
  refine aq_gf (v := vR 3) rfl (by omega) d0 (by decide) rfl ?_
  refine am_E.go (t2 := (109, [vR 0, vI (j : Int)], [vI (j : Int), vR 3], aq_h a s F c)) rfl rfl ?_
  refine aq_new (a := a) (m2 := a + 1) rfl rfl rfl ?_
  intro s_1 F_1 c_1 es_1 y_1 o_1 z_1 u_1
  rw [su_t0e] at y_1
  refine am_E.go (t2 := (113, [vR 0, vI (j : Int)], [vR a, vR a, vI (j : Int), vR 3], aq_h (a + 1) s_1 F_1 c_1)) rfl rfl ?_
  refine aq_callv (y := 1) (as2 := []) (rest := [vR a, vI (j : Int), vR 3]) rfl rfl (by decide) (Nat.le_of_ble_eq_true rfl) rfl rfl (Nat.le_of_ble_eq_true rfl) (by omega) y_1 rfl (Nat.le_of_ble_eq_true rfl) (qn_X3_init y_1) ?_
  rintro r5 h5 ⟨F_2, c_2, rfl, rfl, gS, o_2, u_2, w0, w1⟩
  obtain ⟨s_2, hs2⟩ : ∃ s2, s_1 + 120 = s2 := ⟨_, rfl⟩
  rw [hs2]
  show am_E _ (116, [vR 0, vI (j : Int)], [vR a, vI (j : Int), vR 3], aq_h (a + 4) s_2 F_2 c_2) _
  have g3 : F_2 3 = (6, 8, fun i => aq_g j i (495 + 4 * i)) := by rw [o_2 _ (by omega), o_1 _ (by omega)]; exact d3
  refine aq_aas (a := 3) (b := a) (kd := 6) (j := j) rfl (by omega) (by omega) g3 gS.2.1 (by decide) (by decide) rfl hj ?_
  intro F_3 y_3 o_3
  rw [eo] at y_3
  show am_E _ (117, [vR 0, vI (j : Int)], [], aq_h (a + 4) s_2 F_3 c_2) _
  refine ae_iinc rfl rfl (am_ri (by omega) (by omega)) ?_
  show am_E _ (120, [vR 0, vI ((j : Int) + 1)], [], aq_h (a + 4) s_2 F_3 c_2) _
  rw [show (j : Int) + 1 = ((j + 1 : Nat) : Int) by omega]
  refine am_E.go (t2 := (98, [vR 0, vI ((j + 1 : Nat) : Int)], [], aq_h (a + 4) s_2 F_3 c_2)) rfl rfl ?_
  have Fb : ∀ b, b < a → b ≠ 3 → F_3 b = F b := fun b h1 h2 => by rw [o_3 _ h2, o_2 _ (by omega), o_1 _ (by omega)]
  have cb : ∀ b, b < a → ∀ i, c_2 b i = c b i := fun b h1 i => by rw [u_2 _ h1, u_1 _ (by omega)]
  refine k s_2 F_3 c_2 (by omega) ⟨by rw [Fb _ (by omega) (by omega)]; exact d0, by rw [Fb _ (by omega) (by omega)]; exact d1, by rw [Fb _ (by omega) (by omega)]; exact d2, y_3, su_0m d4 (by omega) (fun b h1 h2 => Fb b (by omega) (by omega)), cr_0m d8 (by omega) (fun b h1 h2 => Fb b (by omega) (by omega)), fun i hi => ?_, fun i hi => ?_, fun i hi => ?_, fun i hi => ?_, ⟨cr_lc (cb 8 (by omega)) (cb 9 (by omega)) dl.1, by rw [cb 8 (by omega)]; exact dl.2.1, by rw [cb 8 (by omega)]; exact dl.2.2⟩, fun i hi => ?_⟩
  · by_cases e : i = j
    · subst e
      rw [ha]
      exact su_0m gS (by omega) (fun b h1 h2 => o_3 b (by omega))
    · exact su_0m (ds i (by omega)) (by omega) (fun b h1 h2 => Fb b (by omega) (by omega))
  · have n6 := sb_end4 i hi
    exact sb_Bm (dB i hi) (by omega) (fun b h1 h2 => Fb b (by omega) (by omega))
  · have n6 := sb_end4 i hi
    exact sb_Hm (dH i hi) (by omega) (fun b h1 h2 => Fb b (by omega) (by omega))
  · have n6 := sb_end4 i hi
    intro x x0 x1
    rw [cb _ (by omega)]
    exact dr i hi x x0 x1
  · by_cases e : i = j
    · subst e
      rw [ha]
      have v1 : c_2 a 1 = 0 := by rw [w1 1 (by decide)]; exact z_1 1
      exact ⟨by omega, by omega, by omega, by omega, fun i i0 i1 => absurd i1 (by omega)⟩
    · exact sb_uc (cb _ (by omega)) (cb _ (by omega)) (cb _ (by omega)) (du i (by omega))
def cl_Z (sT : Nat) : Option am_V → am_H → Prop := fun r h2 => ∃ (s2 : Nat) (F2 : aq_F) (c2 : aq_C), r = none ∧ h2 = aq_h 527 s2 F2 c2 ∧ s2 ≤ sT ∧ sb_C 527 F2 ∧ cl_I c2 ∧ c2 8 0 = 2 ∧ c2 8 1 = 0
theorem sb_ret {s : Nat} {F : aq_F} {c : aq_C} (hE : sb_E 8 527 F c) : am_E ac_X4_init (98, [vR 0, vI ((8 : Nat) : Int)], [], aq_h 527 s F c) (cl_Z s) := by
  obtain ⟨d0, d1, d2, d3, d4, d8, ds, dB, dH, dr, dl, du⟩ := hE
  refine am_E.go (t2 := (99, [vR 0, vI ((8 : Nat) : Int)], [vI ((8 : Nat) : Int)], aq_h 527 s F c)) rfl rfl ?_
  refine am_E.go (t2 := (101, [vR 0, vI ((8 : Nat) : Int)], [vI 8, vI ((8 : Nat) : Int)], aq_h 527 s F c)) rfl rfl ?_
  refine ae_icmp rfl (fun _ => ?_) (fun (q : ((8 : Nat) : Int) < 8) => absurd q (by omega))
  exact am_E.ret rfl rfl ⟨s, F, c, rfl, rfl, Nat.le_refl _, ⟨Nat.le_refl _, d0, d1, d2, d3, d4, d8, ds, dB, dH⟩, ⟨dr, dl.1, du⟩, dl.2.1, dl.2.2⟩
theorem sb_mid {s : Nat} {F : aq_F} {c : aq_C} (hD : sb_D 4 495 F c) : am_E ac_X4_init (53, [vR 0, vI ((4 + 1 : Nat) : Int)], [], aq_h 495 s F c) (cl_Z (s + 2000)) := by
  obtain ⟨d0, d1, d2, d3, d4, d8, dl, dB, dH, dr⟩ := hD
  refine am_E.go (t2 := (54, [vR 0, vI ((4 + 1 : Nat) : Int)], [vI ((4 + 1 : Nat) : Int)], aq_h 495 s F c)) rfl rfl ?_
  refine am_E.go (t2 := (55, [vR 0, vI ((4 + 1 : Nat) : Int)], [vI 4, vI ((4 + 1 : Nat) : Int)], aq_h 495 s F c)) rfl rfl ?_
  refine ae_icmp rfl (fun _ => ?_) (fun (q : ((4 + 1 : Nat) : Int) ≤ 4) => absurd q (by omega))
  refine am_E.go (t2 := (97, [vR 0, vI ((4 + 1 : Nat) : Int)], [vI 0], aq_h 495 s F c)) rfl rfl ?_
  refine am_E.go (t2 := (98, [vR 0, vI ((0 : Nat) : Int)], [], aq_h 495 s F c)) rfl rfl ?_
  refine sb_su (j := 0) (by decide) ⟨d0, d1, d2, by rw [d3, aq_g0], d4, d8, fun i hi => absurd hi (by omega), dB, dH, dr, dl, fun i hi => absurd hi (by omega)⟩ (fun s1 F1 c1 e1 g1 => ?_)
  refine sb_su (j := 1) (by decide) g1 (fun s2 F2 c2 e2 g2 => ?_)
  refine sb_su (j := 2) (by decide) g2 (fun s3 F3 c3 e3 g3 => ?_)
  refine sb_su (j := 3) (by decide) g3 (fun s4 F4 c4 e4 g4 => ?_)
  refine sb_su (j := 4) (by decide) g4 (fun s5 F5 c5 e5 g5 => ?_)
  refine sb_su (j := 5) (by decide) g5 (fun s6 F6 c6 e6 g6 => ?_)
  refine sb_su (j := 6) (by decide) g6 (fun s7 F7 c7 e7 g7 => ?_)
  refine sb_su (j := 7) (by decide) g7 (fun s8 F8 c8 e8 g8 => ?_)
  refine am_E.imp (sb_ret g8) ?_
  rintro r h2 ⟨s9, F9, c9, q1, q2, q3, q4, q5⟩
  exact ⟨s9, F9, c9, q1, q2, by omega, q4, q5⟩
/-- THE CLASS'S CONSTRUCTOR: from a new object at 0 -/
theorem qn_X4_init {s : Nat} {F : aq_F} {c : aq_C} (hF : F 0 = (14, 5, fun j => aq_ot (ac_ft 4 j))) : am_E ac_X4_init (0, [vR 0, vU], [], aq_h 1 s F c) (cl_Z (s + 20000)) := by
  refine am_E.go (t2 := (1, [vR 0, vU], [vR 0], aq_h 1 s F c)) rfl rfl ?_
  refine am_E.go (t2 := (4, [vR 0, vU], [], aq_h 1 s F c)) rfl rfl ?_
  refine am_E.go (t2 := (5, [vR 0, vU], [vR 0], aq_h 1 s F c)) rfl rfl ?_
  refine am_E.go (t2 := (6, [vR 0, vU], [vI 4, vR 0], aq_h 1 s F c)) rfl rfl ?_
  refine aq_nwr (n := 4) (a := 1) (m2 := 2) rfl (by decide) rfl (by decide) rfl rfl (fun s_1 F_1 c_1 es_1 a_1 o_1 u_1 => ?_)
  refine aq_pfr (pc := 9) (o := 0) (N := 5) rfl (by decide) (by rw [o_1 _ (by decide)]; exact hF) (by decide) rfl (fun F_2 y_2 o_2 => ?_)
  refine am_E.go (t2 := (13, [vR 0, vU], [vR 0], aq_h 2 s_1 F_2 c_1)) rfl rfl ?_
  refine am_E.go (t2 := (14, [vR 0, vU], [vI 4, vR 0], aq_h 2 s_1 F_2 c_1)) rfl rfl ?_
  refine aq_nwr (n := 4) (a := 2) (m2 := 3) rfl (by decide) rfl (by decide) rfl rfl (fun s_3 F_3 c_3 es_3 a_3 o_3 u_3 => ?_)
  refine aq_pfr (pc := 17) (o := 0) (N := 5) rfl (by decide) (by rw [o_3 _ (by decide)]; exact y_2) (by decide) rfl (fun F_4 y_4 o_4 => ?_)
  refine am_E.go (t2 := (21, [vR 0, vU], [vR 0], aq_h 3 s_3 F_4 c_3)) rfl rfl ?_
  refine am_E.go (t2 := (23, [vR 0, vU], [vI 8, vR 0], aq_h 3 s_3 F_4 c_3)) rfl rfl ?_
  refine aq_nwr (n := 8) (a := 3) (m2 := 4) rfl (by decide) rfl (by decide) rfl rfl (fun s_5 F_5 c_5 es_5 a_5 o_5 u_5 => ?_)
  refine aq_pfr (pc := 26) (o := 0) (N := 5) rfl (by decide) (by rw [o_5 _ (by decide)]; exact y_4) (by decide) rfl (fun F_6 y_6 o_6 => ?_)
  refine am_E.go (t2 := (30, [vR 0, vU], [vR 0], aq_h 4 s_5 F_6 c_5)) rfl rfl ?_
  refine aq_new (a := 4) (m2 := 5) rfl rfl rfl (fun s_7 F_7 c_7 es_7 y_7 o_7 z_7 u_7 => ?_)
  rw [su_t0e] at y_7
  refine am_E.go (t2 := (34, [vR 0, vU], [vR 4, vR 4, vR 0], aq_h 5 s_7 F_7 c_7)) rfl rfl ?_
  refine aq_callv (y := 1) (as2 := []) (rest := [vR 4, vR 0]) rfl rfl (by decide) (Nat.le_of_ble_eq_true rfl) rfl rfl (Nat.le_of_ble_eq_true rfl) (by decide) y_7 rfl (Nat.le_of_ble_eq_true rfl) (qn_X3_init y_7) ?_
  rintro r5 h5 ⟨F_8, c_8, rfl, rfl, gS, o_8, u_8, -, -⟩
  obtain ⟨s_8, hs8⟩ : ∃ s2, s_7 + 120 = s2 := ⟨_, rfl⟩
  rw [hs8]
  show am_E _ (37, [vR 0, vU], [vR 4, vR 0], aq_h 8 s_8 F_8 c_8) _
  refine aq_pfr (pc := 37) (o := 0) (N := 5) rfl (by decide) (by rw [o_8 _ (by decide), o_7 _ (by decide)]; exact y_6) (by decide) rfl (fun F_9 y_9 o_9 => ?_)
  refine am_E.go (t2 := (41, [vR 0, vU], [vR 0], aq_h 8 s_8 F_9 c_8)) rfl rfl ?_
  refine aq_new (a := 8) (m2 := 9) rfl rfl rfl (fun s_10 F_10 c_10 es_10 y_10 o_10 z_10 u_10 => ?_)
  rw [cr_t0e] at y_10
  refine am_E.go (t2 := (45, [vR 0, vU], [vR 8, vR 8, vR 0], aq_h 9 s_10 F_10 c_10)) rfl rfl ?_
  refine aq_callv (y := 1) (as2 := []) (rest := [vR 8, vR 0]) rfl rfl (by decide) (Nat.le_of_ble_eq_true rfl) rfl rfl (Nat.le_of_ble_eq_true rfl) (by decide) y_10 rfl (Nat.le_of_ble_eq_true rfl) (qn_X1_init y_10) ?_
  rintro r6 h6 ⟨F_11, c_11, rfl, rfl, gX, o_11, u_11, w0, w1⟩
  obtain ⟨s_11, hs11⟩ : ∃ s2, s_10 + 89 = s2 := ⟨_, rfl⟩
  rw [hs11]
  show am_E _ (48, [vR 0, vU], [vR 8, vR 0], aq_h 11 s_11 F_11 c_11) _
  refine aq_pfr (pc := 48) (o := 0) (N := 5) rfl (by decide) (by rw [o_11 _ (by decide), o_10 _ (by decide)]; exact y_9) (by decide) rfl (fun F_12 y_12 o_12 => ?_)
  refine am_E.go (t2 := (52, [vR 0, vU], [vI 1], aq_h 11 s_11 F_12 c_11)) rfl rfl ?_
  refine am_E.go (t2 := (53, [vR 0, vI ((0 + 1 : Nat) : Int)], [], aq_h 11 s_11 F_12 c_11)) rfl rfl ?_
  have e0 : F_12 0 = (14, 5, sb_t) := by
    rw [y_12]
    refine congrArg (fun f => (14, 5, f)) ?_
    funext k
    match k with
    | 0 => rfl
    | 1 => rfl
    | 2 => rfl
    | 3 => rfl
    | 4 => rfl
    | k + 5 => rfl
  have e1 : F_12 1 = (4, 4, fun i => aq_g 0 i (sb_o i)) := by
    rw [o_12 _ (by decide), o_11 _ (by decide), o_10 _ (by decide), o_9 _ (by decide), o_8 _ (by decide), o_7 _ (by decide), o_6 _ (by decide), o_5 _ (by decide), o_4 _ (by decide), o_3 _ (by decide), o_2 _ (by decide), a_1, aq_g0]
  have e2 : F_12 2 = (5, 4, fun i => aq_g 0 i (sb_h i)) := by
    rw [o_12 _ (by decide), o_11 _ (by decide), o_10 _ (by decide), o_9 _ (by decide), o_8 _ (by decide), o_7 _ (by decide), o_6 _ (by decide), o_5 _ (by decide), o_4 _ (by decide), a_3, aq_g0]
  have e3 : F_12 3 = (6, 8, fun _ => .inr vN) := by
    rw [o_12 _ (by decide), o_11 _ (by decide), o_10 _ (by decide), o_9 _ (by decide), o_8 _ (by decide), o_7 _ (by decide), o_6 _ (by decide), a_5]
  have e4 : su_0 11 F_12 4 := su_0m gS (by decide) (fun b h1 h2 => by rw [o_12 _ (by omega), o_11 _ (by omega), o_10 _ (by omega), o_9 _ (by omega)])
  have e8 : cr_0 11 F_12 8 := cr_0m gX (by decide) (fun b h1 h2 => o_12 _ (by omega))
  have v1 : c_11 8 1 = 0 := by rw [w1 1 (by decide)]; exact z_10 1
  have el : cr_l 8 c_11 := ⟨by omega, by omega, by omega, by omega, fun i i0 i1 => absurd i1 (by omega)⟩
  refine sb_step (j := 0) (by decide) ⟨e0, e1, e2, e3, e4, e8, ⟨el, w0, v1⟩, fun i hi => absurd hi (by omega), fun i hi => absurd hi (by omega), fun i hi => absurd hi (by omega)⟩ (fun s1 F1 c1 t1 g1 => ?_)
  refine sb_step (j := 1) (by decide) g1 (fun s2 F2 c2 t2 g2 => ?_)
  refine sb_step (j := 2) (by decide) g2 (fun s3 F3 c3 t3 g3 => ?_)
  refine sb_step (j := 3) (by decide) g3 (fun s4 F4 c4 t4 g4 => ?_)
  refine am_E.imp (sb_mid g4) ?_
  rintro r h2 ⟨s9, F9, c9, q1, q2, q3, q4, q5⟩
  exact ⟨s9, F9, c9, q1, q2, by omega, q4, q5⟩
/-! What a run leaves as it was: a field that no code of its methods writes. -/
def fr_k (bd : Nat → Nat → Bool) (h h2 : am_H) : Prop := h.1 ≤ h2.1 ∧ ∀ a, a < h.1 → 10 ≤ (h.2.2 a).1 → (h2.2.2 a).1 = (h.2.2 a).1 ∧ ∀ y, bd ((h.2.2 a).1 - 10) y = true → (h2.2.2 a).2.2 y = (h.2.2 a).2.2 y
theorem fr_0 {bd : Nat → Nat → Bool} {h : am_H} : fr_k bd h h := ⟨Nat.le_refl _, fun _ _ _ => ⟨rfl, fun _ _ => rfl⟩⟩
theorem fr_t {bd : Nat → Nat → Bool} {h h2 h3 : am_H} (a : fr_k bd h h2) (b : fr_k bd h2 h3) : fr_k bd h h3 := by
  refine ⟨Nat.le_trans a.1 b.1, fun x hx hk => ?_⟩
  obtain ⟨a1, a2⟩ := a.2 x hx hk
  obtain ⟨b1, b2⟩ := b.2 x (Nat.lt_of_lt_of_le hx a.1) (by omega)
  exact ⟨by omega, fun y hy => by rw [b2 y (by rw [a1]; exact hy)]; exact a2 y hy⟩
theorem fr_w {bd : Nat → Nat → Bool} {h : am_H} {a i : Nat} {v : am_V} (hw : (h.2.2 a).1 < 10 ∨ bd ((h.2.2 a).1 - 10) i = false) : fr_k bd h (am_wr h a i v) := by
  refine ⟨Nat.le_refl _, fun b hb hk => ?_⟩
  show (am_up h.2.2 a _ b).1 = _ ∧ ∀ y, _ → (am_up h.2.2 a _ b).2.2 y = _
  by_cases e : b = a
  · subst e
    rw [am_up_s]
    refine ⟨rfl, fun y hy => ?_⟩
    show am_up (h.2.2 b).2.2 i v y = _
    by_cases e2 : y = i
    · subst e2
      rcases hw with hw | hw
      · omega
      · rw [hw] at hy
        cases hy
    · rw [am_up_n e2]
  · rw [am_up_n e]
    exact ⟨rfl, fun _ _ => rfl⟩
theorem fr_m {bd : Nat → Nat → Bool} {h : am_H} {kd n : Nat} {f : Nat → am_V} : fr_k bd h (am_mk h kd n f) := by
  refine ⟨Nat.le_succ _, fun b hb hk => ?_⟩
  show (am_up h.2.2 h.1 _ b).1 = _ ∧ ∀ y, _ → (am_up h.2.2 h.1 _ b).2.2 y = _
  rw [am_up_n (by omega)]
  exact ⟨rfl, fun _ _ => rfl⟩
theorem fr_g {bd : Nat → Nat → Bool} {h : am_H} {n k : Nat} : fr_k bd h (am_grid h n k) := by
  refine ⟨by show h.1 ≤ h.1 + 1 + n; omega, fun b hb hk => ?_⟩
  unfold am_grid
  dsimp only
  rw [if_neg (by omega), if_neg (by omega)]
  exact ⟨rfl, fun _ _ => rfl⟩
theorem fr_c {bd : Nat → Nat → Bool} {h : am_H} {b n : Nat} {s : Nat} {f : Nat → am_V} (hk : (h.2.2 b).1 < 10) : fr_k bd h (h.1, s, am_up h.2.2 b ((h.2.2 b).1, n, f)) := by
  refine ⟨Nat.le_refl _, fun x hx hk2 => ?_⟩
  show (am_up h.2.2 b _ x).1 = _ ∧ ∀ y, _ → (am_up h.2.2 b _ x).2.2 y = _
  rw [am_up_n (by intro q; rw [q] at hk2; omega)]
  exact ⟨rfl, fun _ _ => rfl⟩
def fr_r (bd : Nat → Nat → Bool) (h : am_H) (r : am_S ⊕ ((Nat × List am_V × am_S) ⊕ (Option am_V × am_H))) : Prop := match r with
  | .inl t => fr_k bd h t.2.2.2
  | .inr (.inl q) => q.2.2.2.2.2 = h
  | .inr (.inr q) => q.2 = h
theorem fr_load {bd : Nat → Nat → Bool} {k i : Nat} {len x y pc : Nat} {ls st : List am_V} {h : am_H} {r} (e : am_load k i len x y (pc, ls, st, h) = some r) : fr_r bd h r := by
  obtain ⟨_, _, _, e2⟩ := iv_load e
  rw [e2]
  exact fr_0
theorem fr_stor {bd : Nat → Nat → Bool} {k i : Nat} {len x y pc : Nat} {ls st : List am_V} {h : am_H} {r} (e : am_stor k i len x y (pc, ls, st, h) = some r) : fr_r bd h r := by
  obtain ⟨_, _, _, _, _, e2⟩ := iv_stor e
  rw [e2]
  exact fr_0
theorem fr_storl {bd : Nat → Nat → Bool} {i : Nat} {len x y pc : Nat} {ls st : List am_V} {h : am_H} {r} (e : am_storl i len x y (pc, ls, st, h) = some r) : fr_r bd h r := by
  obtain ⟨_, _, _, _, e2⟩ := iv_storl e
  rw [e2]
  exact fr_0
theorem fr_iinc {bd : Nat → Nat → Bool} {i : Nat} {n : Int} {len x y pc : Nat} {ls st : List am_V} {h : am_H} {r} (e : am_iinc i n len x y (pc, ls, st, h) = some r) : fr_r bd h r := by
  obtain ⟨_, _, e2⟩ := iv_iinc e
  rw [e2]
  exact fr_0
theorem fr_bin {bd : Nat → Nat → Bool} {f : Int → Int → Option Int} {len x y pc : Nat} {ls st : List am_V} {h : am_H} {r} (e : am_bin f len x y (pc, ls, st, h) = some r) : fr_r bd h r := by
  obtain ⟨_, _, _, _, _, _, e2⟩ := iv_bin e
  rw [e2]
  exact fr_0
theorem fr_binl {bd : Nat → Nat → Bool} {f : Int → Int → Option Int} {len x y pc : Nat} {ls st : List am_V} {h : am_H} {r} (e : am_binl f len x y (pc, ls, st, h) = some r) : fr_r bd h r := by
  obtain ⟨_, _, _, _, _, _, e2⟩ := iv_binl e
  rw [e2]
  exact fr_0
theorem fr_shl {bd : Nat → Nat → Bool} {f : Int → Int → Option Int} {len x y pc : Nat} {ls st : List am_V} {h : am_H} {r} (e : am_shl f len x y (pc, ls, st, h) = some r) : fr_r bd h r := by
  obtain ⟨_, _, _, _, _, _, e2⟩ := iv_shl e
  rw [e2]
  exact fr_0
theorem fr_un {bd : Nat → Nat → Bool} {f : Int → Int} {len x y pc : Nat} {ls st : List am_V} {h : am_H} {r} (e : am_un f len x y (pc, ls, st, h) = some r) : fr_r bd h r := by
  obtain ⟨_, _, _, e2⟩ := iv_un e
  rw [e2]
  exact fr_0
theorem fr_unl {bd : Nat → Nat → Bool} {f : Int → Int} {len x y pc : Nat} {ls st : List am_V} {h : am_H} {r} (e : am_unl f len x y (pc, ls, st, h) = some r) : fr_r bd h r := by
  obtain ⟨_, _, _, e2⟩ := iv_unl e
  rw [e2]
  exact fr_0
theorem fr_lcmp {bd : Nat → Nat → Bool} {len x y pc : Nat} {ls st : List am_V} {h : am_H} {r} (e : am_lcmp len x y (pc, ls, st, h) = some r) : fr_r bd h r := by
  obtain ⟨_, _, _, _, e2⟩ := iv_lcmp e
  rw [e2]
  exact fr_0
theorem fr_i2l {bd : Nat → Nat → Bool} {len x y pc : Nat} {ls st : List am_V} {h : am_H} {r} (e : am_i2l len x y (pc, ls, st, h) = some r) : fr_r bd h r := by
  obtain ⟨_, _, _, e2⟩ := iv_i2l e
  rw [e2]
  exact fr_0
theorem fr_l2i {bd : Nat → Nat → Bool} {len x y pc : Nat} {ls st : List am_V} {h : am_H} {r} (e : am_l2i len x y (pc, ls, st, h) = some r) : fr_r bd h r := by
  obtain ⟨_, _, _, e2⟩ := iv_l2i e
  rw [e2]
  exact fr_0
theorem fr_if {bd : Nat → Nat → Bool} {cnd : Jvm.ClassFile.Cond} {len x y pc : Nat} {ls st : List am_V} {h : am_H} {r} (e : am_if cnd len x y (pc, ls, st, h) = some r) : fr_r bd h r := by
  obtain ⟨_, _, _, e2⟩ := iv_if e
  rw [e2]
  exact fr_0
theorem fr_icmp {bd : Nat → Nat → Bool} {cnd : Jvm.ClassFile.Cond} {len x y pc : Nat} {ls st : List am_V} {h : am_H} {r} (e : am_icmp cnd len x y (pc, ls, st, h) = some r) : fr_r bd h r := by
  obtain ⟨_, _, _, _, e2⟩ := iv_icmp e
  rw [e2]
  exact fr_0
theorem fr_gf {bd : Nat → Nat → Bool} {len x y pc : Nat} {ls st : List am_V} {h : am_H} {r} (e : am_gf len x y (pc, ls, st, h) = some r) : fr_r bd h r := by
  obtain ⟨_, _, _, _, e2⟩ := iv_gf e
  rw [e2]
  exact fr_0
theorem fr_pf {bd : Nat → Nat → Bool} {ft : am_ft} {len x y pc : Nat} {ls st : List am_V} {h : am_H} {r} (hb : bd x y = false) (e : am_pf ft len x y (pc, ls, st, h) = some r) : fr_r bd h r := by
  obtain ⟨_, a, _, _, ⟨-, q, -⟩, e2⟩ := iv_pf e
  rw [e2]
  exact fr_w (Or.inr (by rw [q, Nat.add_sub_cancel_left]; exact hb))
theorem fr_ald {bd : Nat → Nat → Bool} {ok : Nat → Bool} {len x y pc : Nat} {ls st : List am_V} {h : am_H} {r} (e : am_ald ok len x y (pc, ls, st, h) = some r) : fr_r bd h r := by
  obtain ⟨_, _, _, _, _, e2⟩ := iv_ald e
  rw [e2]
  exact fr_0
theorem fr_ast {bd : Nat → Nat → Bool} {k vk : Nat} (hk : k < 10) {len x y pc : Nat} {ls st : List am_V} {h : am_H} {r} (e : am_ast k vk len x y (pc, ls, st, h) = some r) : fr_r bd h r := by
  obtain ⟨_, _, a, _, _, ⟨-, q, -⟩, e2⟩ := iv_ast e
  rw [e2]
  exact fr_w (Or.inl (by omega))
theorem fr_aast {bd : Nat → Nat → Bool} {len x y pc : Nat} {ls st : List am_V} {h : am_H} {r} (e : am_aast len x y (pc, ls, st, h) = some r) : fr_r bd h r := by
  obtain ⟨_, _, a, _, _, ⟨-, -, -, q, -⟩, e2⟩ := iv_aast e
  rw [e2]
  exact fr_w (Or.inl (by omega))
theorem fr_len {bd : Nat → Nat → Bool} {len x y pc : Nat} {ls st : List am_V} {h : am_H} {r} (e : am_len len x y (pc, ls, st, h) = some r) : fr_r bd h r := by
  obtain ⟨_, _, _, _, e2⟩ := iv_len e
  rw [e2]
  exact fr_0
theorem fr_dup {bd : Nat → Nat → Bool} {len x y pc : Nat} {ls st : List am_V} {h : am_H} {r} (e : am_dup len x y (pc, ls, st, h) = some r) : fr_r bd h r := by
  obtain ⟨_, _, _, _, e2⟩ := iv_dup e
  rw [e2]
  exact fr_0
theorem fr_dup2 {bd : Nat → Nat → Bool} {len x y pc : Nat} {ls st : List am_V} {h : am_H} {r} (e : am_dup2 len x y (pc, ls, st, h) = some r) : fr_r bd h r := by
  obtain ⟨_, _, _, _, _, e2⟩ := iv_dup2 e
  rw [e2]
  exact fr_0
theorem fr_pop {bd : Nat → Nat → Bool} {k : Nat} {len x y pc : Nat} {ls st : List am_V} {h : am_H} {r} (e : am_pop k len x y (pc, ls, st, h) = some r) : fr_r bd h r := by
  obtain ⟨_, _, _, _, e2⟩ := iv_pop e
  rw [e2]
  exact fr_0
theorem fr_newa {bd : Nat → Nat → Bool} {lo hi : Nat} {len x y pc : Nat} {ls st : List am_V} {h : am_H} {r} (e : am_newa lo hi len x y (pc, ls, st, h) = some r) : fr_r bd h r := by
  obtain ⟨_, _, _, _, e2⟩ := iv_newa e
  rw [e2]
  exact fr_m
theorem fr_mna {bd : Nat → Nat → Bool} {len x y pc : Nat} {ls st : List am_V} {h : am_H} {r} (e : am_mna len x y (pc, ls, st, h) = some r) : fr_r bd h r := by
  obtain ⟨_, _, _, _, _, e2⟩ := iv_mna e
  rw [e2]
  exact fr_g
theorem fr_acp {bd : Nat → Nat → Bool} {len x y pc : Nat} {ls st : List am_V} {h : am_H} {r} (e : am_acopy len x y (pc, ls, st, h) = some r) : fr_r bd h r := by
  obtain ⟨_, _, b, _, a, _, ⟨-, -, q1, q2, -⟩, e2⟩ := iv_acopy e
  rw [e2]
  exact fr_c (by omega)
theorem fr_sem {bd : Nat → Nat → Bool} {ft : am_ft} {ins : Instr} {len x y pc : Nat} {ls st : List am_V} {h : am_H} {r} (hb : ∀ i, ins = .putfield i → bd x y = false) (he : am_sem ft ins len x y (pc, ls, st, h) = some r) : fr_r bd h r := by
  cases ins
  case iload_n _ => exact fr_load (len := len) (x := x) (y := y) he
  case iload _ => exact fr_load (len := len) (x := x) (y := y) he
  case lload_n _ => exact fr_load (len := len) (x := x) (y := y) he
  case lload _ => exact fr_load (len := len) (x := x) (y := y) he
  case aload_n _ => exact fr_load (len := len) (x := x) (y := y) he
  case aload _ => exact fr_load (len := len) (x := x) (y := y) he
  case istore_n _ => exact fr_stor (len := len) (x := x) (y := y) he
  case istore _ => exact fr_stor (len := len) (x := x) (y := y) he
  case astore_n _ => exact fr_stor (len := len) (x := x) (y := y) he
  case astore _ => exact fr_stor (len := len) (x := x) (y := y) he
  case lstore_n _ => exact fr_storl (len := len) (x := x) (y := y) he
  case lstore _ => exact fr_storl (len := len) (x := x) (y := y) he
  case iinc _ _ => exact fr_iinc (len := len) (x := x) (y := y) he
  case iadd => exact fr_bin (len := len) (x := x) (y := y) he
  case isub => exact fr_bin (len := len) (x := x) (y := y) he
  case imul => exact fr_bin (len := len) (x := x) (y := y) he
  case idiv => exact fr_bin (len := len) (x := x) (y := y) he
  case irem => exact fr_bin (len := len) (x := x) (y := y) he
  case iand => exact fr_bin (len := len) (x := x) (y := y) he
  case ixor => exact fr_bin (len := len) (x := x) (y := y) he
  case ishl => exact fr_bin (len := len) (x := x) (y := y) he
  case ishr => exact fr_bin (len := len) (x := x) (y := y) he
  case ladd => exact fr_binl (len := len) (x := x) (y := y) he
  case lmul => exact fr_binl (len := len) (x := x) (y := y) he
  case ldiv => exact fr_binl (len := len) (x := x) (y := y) he
  case land => exact fr_binl (len := len) (x := x) (y := y) he
  case lor => exact fr_binl (len := len) (x := x) (y := y) he
  case lshl => exact fr_shl (len := len) (x := x) (y := y) he
  case lshr => exact fr_shl (len := len) (x := x) (y := y) he
  case lushr => exact fr_shl (len := len) (x := x) (y := y) he
  case ineg => exact fr_un (len := len) (x := x) (y := y) he
  case lneg => exact fr_unl (len := len) (x := x) (y := y) he
  case lcmp => exact fr_lcmp (len := len) (x := x) (y := y) he
  case i2l => exact fr_i2l (len := len) (x := x) (y := y) he
  case l2i => exact fr_l2i (len := len) (x := x) (y := y) he
  case ifCond _ _ => exact fr_if (len := len) (x := x) (y := y) he
  case if_icmp _ _ => exact fr_icmp (len := len) (x := x) (y := y) he
  case getfield _ => exact fr_gf (len := len) (x := x) (y := y) he
  case putfield i => exact fr_pf (len := len) (x := x) (y := y) (hb i rfl) he
  case iaload => exact fr_ald (len := len) (x := x) (y := y) (ok := fun k => k == 0) he
  case baload => exact fr_ald (len := len) (x := x) (y := y) (ok := fun k => k == 1) he
  case laload => exact fr_ald (len := len) (x := x) (y := y) (ok := fun k => k == 2) he
  case aaload => exact fr_ald (len := len) (x := x) (y := y) (ok := fun k => decide (3 ≤ k) && decide (k < 7)) he
  case iastore => exact fr_ast (k := 0) (by decide) (len := len) (x := x) (y := y) he
  case bastore => exact fr_ast (k := 1) (by decide) (len := len) (x := x) (y := y) he
  case lastore => exact fr_ast (k := 2) (by decide) (len := len) (x := x) (y := y) he
  case aastore => exact fr_aast (len := len) (x := x) (y := y) he
  case arraylength => exact fr_len (len := len) (x := x) (y := y) he
  case dup => exact fr_dup (len := len) (x := x) (y := y) he
  case dup2 => exact fr_dup2 (len := len) (x := x) (y := y) he
  case pop => exact fr_pop (len := len) (x := x) (y := y) he
  case pop2 => exact fr_pop (len := len) (x := x) (y := y) he
  case newarray _ => exact fr_newa (len := len) (x := x) (y := y) he
  case anewarray _ => exact fr_newa (len := len) (x := x) (y := y) he
  case multianewarray _ _ => exact fr_mna (len := len) (x := x) (y := y) he
  case iconst _ => cases he; exact fr_0
  case bipush _ => cases he; exact fr_0
  case sipush _ => cases he; exact fr_0
  case lconst _ => cases he; exact fr_0
  case ldc _ => cases he; exact fr_0
  case ldc2_w _ => cases he; exact fr_0
  case goto _ => cases he; exact fr_0
  case new _ => cases he; exact fr_m
  case tableswitch d lo hi offs =>
    obtain ⟨a, st2, -, q | ⟨-, o, -, q⟩⟩ := iv_sw (len := len) (x := x) (y := y) he
    · rw [q.2]; exact fr_0
    · rw [q]; exact fr_0
  case ireturn => obtain ⟨v, -, -, e2⟩ := iv_ret (len := len) (x := x) (y := y) he; rw [e2]; rfl
  case lreturn => obtain ⟨v, -, -, e2⟩ := iv_ret (len := len) (x := x) (y := y) he; rw [e2]; rfl
  case return_ => obtain ⟨-, e2⟩ := iv_retv (len := len) (x := x) (y := y) he; rw [e2]; rfl
  case invokevirtual _ =>
    rcases iv_inv (len := len) (x := x) (y := y) he with ⟨-, a, -, e2⟩ | ⟨-, e2⟩ | ⟨-, -, -, -, -, e2⟩
    · rw [e2]; exact fr_0
    · exact fr_acp (len := len) (x := x) (y := y) e2
    · rw [e2]; rfl
  case invokestatic _ =>
    rcases iv_inv (len := len) (x := x) (y := y) he with ⟨-, a, -, e2⟩ | ⟨-, e2⟩ | ⟨-, -, -, -, -, e2⟩
    · rw [e2]; exact fr_0
    · exact fr_acp (len := len) (x := x) (y := y) e2
    · rw [e2]; rfl
  case invokespecial _ =>
    rcases iv_inv (len := len) (x := x) (y := y) he with ⟨-, a, -, e2⟩ | ⟨-, e2⟩ | ⟨-, -, -, -, -, e2⟩
    · rw [e2]; exact fr_0
    · exact fr_acp (len := len) (x := x) (y := y) e2
    · rw [e2]; rfl
  all_goals cases he
/-- a method's code writes no such field, and calls only methods of G -/
def fr_ok (bd : Nat → Nat → Bool) (G : Nat → Bool) (row : am_I) : Bool := match row with
  | (.putfield _, _, x, y) => !(bd x y)
  | (.invokevirtual _, _, x, _) => x == 900 || x == 901 || G (x % 1000)
  | (.invokestatic _, _, x, _) => x == 900 || x == 901 || G (x % 1000)
  | (.invokespecial _, _, x, _) => x == 900 || x == 901 || G (x % 1000)
  | _ => true
def fr_C (bd : Nat → Nat → Bool) (G : Nat → Bool) (C : am_C) : Bool := (am_en C).all (fun q => fr_ok bd G q.2)
theorem fr_call {bd : Nat → Nat → Bool} {G : Nat → Bool} {ft : am_ft} {ins : Instr} {len x y : Nat} {t : am_S} {q : Nat × List am_V × am_S} (hk : fr_ok bd G (ins, len, x, y) = true) (he : am_sem ft ins len x y t = some (.inr (.inl q))) : G q.1 = true := by
  obtain ⟨pc, ls, st, h⟩ := t
  rcases am_kind he with ⟨t9, q9⟩ | ⟨i9, q8, q9⟩ | ⟨-, q9⟩ | ⟨-, q9⟩
  · cases q9
  · rcases iv_inv q9 with ⟨-, a, -, e2⟩ | ⟨-, e2⟩ | ⟨n1, n2, -, -, -, e2⟩
    · cases e2
    · obtain ⟨_, _, _, _, _, -, -, e3⟩ := iv_acopy e2
      cases e3
    · have e3 : q.1 = x % 1000 := by cases e2; rfl
      rw [e3]
      rcases q8 with rfl | rfl | rfl <;> (have hk : (x == 900 || x == 901 || G (x % 1000)) = true := hk; simpa [n1, n2] using hk)
  · obtain ⟨v, -, -, e2⟩ := iv_ret q9
    cases e2
  · obtain ⟨-, e2⟩ := iv_retv q9
    cases e2
theorem fr_x {bd : Nat → Nat → Bool} {G : Nat → Bool} {P : am_P} (hG : ∀ j, G j = true → ∀ M, P.2[j]? = some M → fr_C bd G M.1 = true) : ∀ (n : Nat) {C : am_C} {t : am_S} {r : Option am_V} {h2 : am_H}, fr_C bd G C = true → am_x P n C t = some (r, h2) → fr_k bd t.2.2.2 h2
  | 0, C, t, r, h2, hC, h => by cases h
  | n + 1, C, t, r, h2, hC, h => by
    obtain ⟨pc, ls, st, hp⟩ := t
    unfold am_x at h
    split at h
    · cases h
    · rename_i t2 e1
      obtain ⟨row, e0, e2⟩ := mn_1 e1
      have hr := List.all_eq_true.mp hC _ (am_en_mem e0)
      have m1 := fr_sem (bd := bd) (fun i hi => by
        obtain ⟨ins, len, x, y⟩ := row
        have hi : ins = .putfield i := hi
        subst hi
        have hr : (!(bd x y)) = true := hr
        simpa using hr) e2
      have m2 := fr_x hG n hC h
      exact fr_t m1 m2
    · rename_i q e1
      obtain ⟨row, e0, e2⟩ := mn_1 e1
      have hr := List.all_eq_true.mp hC _ (am_en_mem e0)
      have m1 := fr_sem (bd := bd) (fun i hi => by
        obtain ⟨ins, len, x, y⟩ := row
        have hi : ins = .putfield i := hi
        subst hi
        have hr : (!(bd x y)) = true := hr
        simpa using hr) e2
      have m1 : q.2.2.2.2.2 = hp := m1
      have hg := fr_call (G := G) (bd := bd) hr e2
      split at h
      · cases h
      · rename_i M hM
        split at h
        · split at h
          · cases h
          · rename_i rr hcal
            have m2 := fr_x hG n (hG _ hg M hM) hcal
            have m3 := fr_x hG n hC h
            have m2 : fr_k bd q.2.2.2.2.2 rr.2 := m2
            rw [m1] at m2
            exact fr_t m2 m3
        · cases h
    · rename_i q e1
      obtain ⟨row, e0, e2⟩ := mn_1 e1
      have hr := List.all_eq_true.mp hC _ (am_en_mem e0)
      have m1 := fr_sem (bd := bd) (fun i hi => by
        obtain ⟨ins, len, x, y⟩ := row
        have hi : ins = .putfield i := hi
        subst hi
        have hr : (!(bd x y)) = true := hr
        simpa using hr) e2
      have m1 : q.2 = hp := m1
      have hq := Option.some.inj h
      subst hq
      have m1 : h2 = hp := m1
      subst m1
      exact fr_0
/-! The class: answers of partner and plain. Printed by wip/p20/sx/gEX.py. -/

/-- partner's answer -/
def pt_a (n b p : Int) : Int := if (1 ≤ n ∧ n ≤ 4 ∧ 0 ≤ b ∧ b < bx_K n) ∧ 0 ≤ p ∧ p < 2 * n then prt n b p else -1
/-- plain's answer -/
def pl_a (n l : Int) : Int := if (1 ≤ n ∧ n ≤ 4) ∧ (l = 0 ∨ ((1 ≤ l ∧ l < n) ∨ (11 ≤ l ∧ l < 10 + n))) then nu_o (bx_ol n.toNat l) (2 * n) 9 0 0 (2 * n - 1) else -1

theorem qe_X4_partner {m s : Nat} {F : aq_F} {c : aq_C} (hC : sb_C m F) (hI : cl_I c) {nn b p : Int} : am_E ac_X4_partner (0, [vR 0, vI nn, vI b, vI p], [], aq_h m s F c) (aq_Z m s F (fun a => a < 527) c (fun r d => r = some (vI (pt_a nn b p)) ∧ cl_I d)) := by
  obtain ⟨hCm, hC0, hC1, hC2, hC3, ⟨hma4, hFa4, hFn4, hFp4, hFf4⟩, ⟨hmx, hFx, hFl, hFw⟩, hCs, hCb, hCh⟩ := id hC
  refine am_E.go (t2 := (1, [vR 0, vI nn, vI b, vI p], [vR 0], aq_h m s F c)) rfl rfl ?_
  refine am_E.go (t2 := (2, [vR 0, vI nn, vI b, vI p], [vI nn, vR 0], aq_h m s F c)) rfl rfl ?_
  refine am_E.go (t2 := (3, [vR 0, vI nn, vI b, vI p], [vI b, vI nn, vR 0], aq_h m s F c)) rfl rfl ?_
  refine aq_callv (y := 3) (as2 := [vI nn, vI b]) (rest := []) rfl rfl (by decide) (Nat.le_of_ble_eq_true rfl) rfl rfl (Nat.le_of_ble_eq_true rfl) (by omega) hC0 rfl (Nat.le_of_ble_eq_true rfl) (qn_X4_isBox hC) ?_
  rintro r5 h5 ⟨rfl, v_1, rfl, hv_1⟩
  show am_E _ (6, [vR 0, vI nn, vI b, vI p], [vI v_1], aq_h m s F c) _
  refine ae_if0 rfl (fun (q_2 : v_1 = 0) => ?_) (fun (q_2 : v_1 ≠ 0) => ?_)
  · refine am_E.go (t2 := (21, [vR 0, vI nn, vI b, vI p], [vI (-1)], aq_h m s F c)) rfl rfl ?_
    refine am_E.ret rfl rfl ?_
    exact ⟨_, rfl, (aq_sm0 (S := fun a => a < 527)), by rw [pt_a, if_neg (by omega)], hI⟩
  · refine am_E.go (t2 := (10, [vR 0, vI nn, vI b, vI p], [vI p], aq_h m s F c)) rfl rfl ?_
    refine ae_if0 rfl (fun (q_3 : p < 0) => ?_) (fun (q_3 : 0 ≤ p) => ?_)
    · refine am_E.go (t2 := (21, [vR 0, vI nn, vI b, vI p], [vI (-1)], aq_h m s F c)) rfl rfl ?_
      refine am_E.ret rfl rfl ?_
      exact ⟨_, rfl, (aq_sm0 (S := fun a => a < 527)), by rw [pt_a, if_neg (by omega)], hI⟩
    · refine am_E.go (t2 := (14, [vR 0, vI nn, vI b, vI p], [vI p], aq_h m s F c)) rfl rfl ?_
      refine am_E.go (t2 := (15, [vR 0, vI nn, vI b, vI p], [vI 2, vI p], aq_h m s F c)) rfl rfl ?_
      refine am_E.go (t2 := (16, [vR 0, vI nn, vI b, vI p], [vI nn, vI 2, vI p], aq_h m s F c)) rfl rfl ?_
      refine ae_mul rfl (am_ri (by omega) (by omega)) ?_
      show am_E _ (17, [vR 0, vI nn, vI b, vI p], [vI (2 * nn), vI p], aq_h m s F c) _
      refine ae_icmp rfl (fun (q_4 : p < (2 * nn)) => ?_) (fun (q_4 : (2 * nn) ≤ p) => ?_)
      · refine am_E.go (t2 := (23, [vR 0, vI nn, vI b, vI p], [vR 0], aq_h m s F c)) rfl rfl ?_
        refine aq_gf (v := vR 1) rfl (by omega) hC0 (by decide) rfl ?_
        show am_E _ (26, [vR 0, vI nn, vI b, vI p], [vR 1], aq_h m s F c) _
        refine am_E.go (t2 := (27, [vR 0, vI nn, vI b, vI p], [vI nn, vR 1], aq_h m s F c)) rfl rfl ?_
        refine am_E.go (t2 := (28, [vR 0, vI nn, vI b, vI p], [vI 1, vI nn, vR 1], aq_h m s F c)) rfl rfl ?_
        refine ae_sub rfl (am_ri (by omega) (by omega)) ?_
        show am_E _ (29, [vR 0, vI nn, vI b, vI p], [vI (nn - 1), vR 1], aq_h m s F c) _
        obtain ⟨o, n, K, e_o, e_n, e_K, e_j, e_k, tP, tG, tN, tR, tL, ⟨hm, hn1, hn4, hK, hFo, hFd, hFs⟩, ⟨hPg, hPr, hPt⟩, ⟨hL, hGg, hGr, hNg, hNr, hLt, hGt, hNt⟩, ⟨hR, hRt⟩, hst⟩ := sb_box hC (i := (nn - 1)) (by omega) (by omega)
        have hb := sb_bnd ((nn - 1)).toNat (by omega)
        rw [e_o, e_k] at hb
        have hbK : (K : Int) = bx_K nn := by rw [e_K]; congr 1; omega
        refine aq_al (ok := fun k => decide (3 ≤ k) && decide (k < 7)) (v := vR o) rfl rfl (by omega) hC1 rfl (by omega) (by omega) (aq_gi2 (by omega) e_o) ?_
        show am_E _ (30, [vR 0, vI nn, vI b, vI p], [vR o], aq_h m s F c) _
        refine aq_gf (v := vR (o + 1)) rfl (by omega) hFo (by decide) rfl ?_
        show am_E _ (33, [vR 0, vI nn, vI b, vI p], [vR (o + 1)], aq_h m s F c) _
        refine am_E.go (t2 := (34, [vR 0, vI nn, vI b, vI p], [vI b, vR (o + 1)], aq_h m s F c)) rfl rfl ?_
        refine aq_al (ok := fun k => decide (3 ≤ k) && decide (k < 7)) (v := vR (o + 2 + b.toNat)) rfl rfl (by omega) hPg rfl (by omega) (by omega) (aq_gi (by omega)) ?_
        show am_E _ (35, [vR 0, vI nn, vI b, vI p], [vR (o + 2 + b.toNat)], aq_h m s F c) _
        refine am_E.go (t2 := (36, [vR 0, vI nn, vI b, vI p], [vI p, vR (o + 2 + b.toNat)], aq_h m s F c)) rfl rfl ?_
        refine aq_alt (ok := fun k => k == 0) rfl rfl (by omega) (hPr _ (by omega)) rfl (by omega) (by omega) ?_
        show am_E _ (37, [vR 0, vI nn, vI b, vI p], [vI (tP ((b.toNat : Nat) : Int) p)], aq_h m s F c) _
        have f_5 := hPt ((b.toNat : Nat) : Int) p (by omega) (by omega) (by omega) (by omega)
        refine am_E.ret rfl rfl ?_
        refine ⟨_, rfl, (aq_sm0 (S := fun a => a < 527)), ?_, hI⟩
        rw [pt_a, if_pos (by omega), (hPt ((b.toNat : Nat) : Int) p (by omega) (by omega) (by omega) (by omega)).2.2, Int.toNat_of_nonneg (by omega), show (n : Int) = nn by omega]
      · refine am_E.go (t2 := (21, [vR 0, vI nn, vI b, vI p], [vI (-1)], aq_h m s F c)) rfl rfl ?_
        refine am_E.ret rfl rfl ?_
        exact ⟨_, rfl, (aq_sm0 (S := fun a => a < 527)), by rw [pt_a, if_neg (by omega)], hI⟩

theorem qe_X4_plain {m s : Nat} {F : aq_F} {c : aq_C} (hC : sb_C m F) (hI : cl_I c) {nn l : Int} : am_E ac_X4_plain (0, [vR 0, vI nn, vI l], [], aq_h m s F c) (aq_Z m s F (fun a => a < 527) c (fun r d => r = some (vI (pl_a nn l)) ∧ cl_I d)) := by
  obtain ⟨hCm, hC0, hC1, hC2, hC3, ⟨hma4, hFa4, hFn4, hFp4, hFf4⟩, ⟨hmx, hFx, hFl, hFw⟩, hCs, hCb, hCh⟩ := id hC
  refine am_E.go (t2 := (1, [vR 0, vI nn, vI l], [vI nn], aq_h m s F c)) rfl rfl ?_
  refine am_E.call rfl rfl rfl (Nat.le_of_ble_eq_true rfl) (qn_X4_isStrands) ?_
  rintro r5 h5 ⟨rfl, v_1, rfl, hv_1⟩
  show am_E _ (4, [vR 0, vI nn, vI l], [vI v_1], aq_h m s F c) _
  refine ae_if0 rfl (fun (q_2 : v_1 ≠ 0) => ?_) (fun (q_2 : v_1 = 0) => ?_)
  · refine am_E.go (t2 := (10, [vR 0, vI nn, vI l], [vR 0], aq_h m s F c)) rfl rfl ?_
    refine aq_gf (v := vR 1) rfl (by omega) hC0 (by decide) rfl ?_
    show am_E _ (13, [vR 0, vI nn, vI l], [vR 1], aq_h m s F c) _
    refine am_E.go (t2 := (14, [vR 0, vI nn, vI l], [vI nn, vR 1], aq_h m s F c)) rfl rfl ?_
    refine am_E.go (t2 := (15, [vR 0, vI nn, vI l], [vI 1, vI nn, vR 1], aq_h m s F c)) rfl rfl ?_
    refine ae_sub rfl (am_ri (by omega) (by omega)) ?_
    show am_E _ (16, [vR 0, vI nn, vI l], [vI (nn - 1), vR 1], aq_h m s F c) _
    obtain ⟨o, n, K, e_o, e_n, e_K, e_j, e_k, tP, tG, tN, tR, tL, ⟨hm, hn1, hn4, hK, hFo, hFd, hFs⟩, ⟨hPg, hPr, hPt⟩, ⟨hL, hGg, hGr, hNg, hNr, hLt, hGt, hNt⟩, ⟨hR, hRt⟩, hst⟩ := sb_box hC (i := (nn - 1)) (by omega) (by omega)
    have hb := sb_bnd ((nn - 1)).toNat (by omega)
    rw [e_o, e_k] at hb
    have hbK : (K : Int) = bx_K nn := by rw [e_K]; congr 1; omega
    refine aq_al (ok := fun k => decide (3 ≤ k) && decide (k < 7)) (v := vR o) rfl rfl (by omega) hC1 rfl (by omega) (by omega) (aq_gi2 (by omega) e_o) ?_
    show am_E _ (17, [vR 0, vI nn, vI l], [vR o], aq_h m s F c) _
    refine am_E.go (t2 := (18, [vR 0, vI nn, vI l], [vI l, vR o], aq_h m s F c)) rfl rfl ?_
    refine aq_callv (y := 2) (as2 := [vI l]) (rest := []) rfl rfl (by decide) (Nat.le_of_ble_eq_true rfl) rfl rfl (Nat.le_of_ble_eq_true rfl) (by omega) hFo rfl (Nat.le_of_ble_eq_true rfl) (qn_X0_ofLetter (S := fun a => a = o + 6 + 3 * K ∨ a = o + 7 + 3 * K) ⟨hm, hn1, hn4, hK, hFo, hFd, hFs⟩ (Or.inl rfl) (Or.inr rfl) (by have h9 := hI.1 ((nn - 1)).toNat (by omega); rw [e_o, e_k, ← e_j] at h9; exact h9)) ?_
    rintro r5 h5 ⟨c_b, rfl, s_b, hr_b, hq_b⟩
    have hcl := cl_b hI (j := ((nn - 1)).toNat) (by omega) (by rw [e_o, e_k]; exact s_b) (by rw [e_o, e_k, ← e_j]; exact hr_b)
    have en : n = nn.toNat := by omega
    have e2 : (n : Int) = nn := by omega
    obtain rfl : r5 = some (vI (pl_a nn l)) := by
      rcases hq_b with ⟨q1, q2⟩ | ⟨q1, q2, q3⟩
      · rw [q2, pl_a, if_neg (fun q => q1 (by rw [e2]; exact q.2))]
      · have en2 := nu_oc (N := 2 * (n : Int)) q2 (fun i k0 k1 => by have := hr_b i k0 k1; omega) 9 0 0 (2 * (n : Int) - 1) (by omega)
        rw [q3, en2, pl_a, if_pos ⟨⟨by omega, by omega⟩, by rw [← e2]; exact q1⟩, e2, en]
    show am_E _ (21, [vR 0, vI nn, vI l], [vI (pl_a nn l)], aq_h m s F c_b) _
    exact am_E.ret rfl rfl ⟨_, rfl, aq_smi s_b (fun a h => by omega), rfl, hcl⟩
  · refine am_E.go (t2 := (8, [vR 0, vI nn, vI l], [vI (-1)], aq_h m s F c)) rfl rfl ?_
    refine am_E.ret rfl rfl ?_
    exact ⟨_, rfl, (aq_sm0 (S := fun a => a < 527)), by rw [pl_a, if_neg (by omega)], hI⟩
/-! The reference: answers of partner and plain. Printed by wip/p20/sx/gEXm.py. -/

theorem qe_X5_partner {m s : Nat} {F : aq_F} {c : aq_C} {y : Nat} (hC : mo_C m F y) (hI : mo_I y c) {n bb p : Int} : am_E ac_X5_partner (0, [vR y, vI n, vI bb, vI p], [], aq_h m s F c) (aq_Z m s F (fun a => y ≤ a ∧ a < y + 24) c (fun r d => r = some (vI (pt_a n bb p)) ∧ mo_I y d)) := by
  obtain ⟨⟨hm, hFo, hG5, hG6, hG7, hG8, hG9, hG10, hG11, hG12, hG13, hG14, hG15, hG16, hG17, hG18, hG19, hG20, hG21, hG22, hG23⟩, ⟨tbl, hT1, hTt⟩, ⟨tA, tB, tD, hL1, hL2, hL3, hLt⟩⟩ := hC
  have hfs := mo_fs n
  refine am_E.go (t2 := (1, [vR y, vI n, vI bb, vI p], [vI n], aq_h m s F c)) rfl rfl ?_
  refine am_E.go (t2 := (2, [vR y, vI n, vI bb, vI p], [vI bb, vI n], aq_h m s F c)) rfl rfl ?_
  refine am_E.call rfl rfl rfl (Nat.le_of_ble_eq_true rfl) (qm_isBox) ?_
  rintro r5 h5 ⟨rfl, v_1, rfl, hv_1⟩
  show am_E _ (5, [vR y, vI n, vI bb, vI p], [vI v_1], aq_h m s F c) _
  refine ae_if0 rfl (fun (q_2 : v_1 = 0) => ?_) (fun (q_2 : v_1 ≠ 0) => ?_)
  · refine am_E.go (t2 := (39, [vR y, vI n, vI bb, vI p], [vI (-1)], aq_h m s F c)) rfl rfl ?_
    refine am_E.ret rfl rfl ?_
    exact ⟨_, rfl, (aq_sm0 (c := c) (S := fun a => y ≤ a ∧ a < y + 24)), by rw [pt_a, if_neg (by omega)], hI⟩
  · refine am_E.go (t2 := (9, [vR y, vI n, vI bb, vI p], [vI p], aq_h m s F c)) rfl rfl ?_
    refine am_E.go (t2 := (10, [vR y, vI n, vI bb, vI p], [vL p], aq_h m s F c)) rfl rfl ?_
    refine am_E.go (t2 := (11, [vR y, vI n, vI bb, vI p], [vL 0, vL p], aq_h m s F c)) rfl rfl ?_
    refine am_E.go (t2 := (12, [vR y, vI n, vI bb, vI p], [vI 2, vL 0, vL p], aq_h m s F c)) rfl rfl ?_
    refine am_E.go (t2 := (13, [vR y, vI n, vI bb, vI p], [vI n, vI 2, vL 0, vL p], aq_h m s F c)) rfl rfl ?_
    refine ae_mul rfl (am_ri (by omega) (by omega)) ?_
    show am_E _ (14, [vR y, vI n, vI bb, vI p], [vI (2 * n), vL 0, vL p], aq_h m s F c) _
    refine am_E.go (t2 := (15, [vR y, vI n, vI bb, vI p], [vI 1, vI (2 * n), vL 0, vL p], aq_h m s F c)) rfl rfl ?_
    refine ae_sub rfl (am_ri (by omega) (by omega)) ?_
    show am_E _ (16, [vR y, vI n, vI bb, vI p], [vI ((2 * n) - 1), vL 0, vL p], aq_h m s F c) _
    refine am_E.go (t2 := (17, [vR y, vI n, vI bb, vI p], [vL ((2 * n) - 1), vL 0, vL p], aq_h m s F c)) rfl rfl ?_
    refine am_E.call rfl rfl rfl (Nat.le_of_ble_eq_true rfl) (qm_in) ?_
    rintro r5 h5 ⟨rfl, v_3, rfl, hv_3⟩
    show am_E _ (20, [vR y, vI n, vI bb, vI p], [vI v_3], aq_h m s F c) _
    refine ae_if0 rfl (fun (q_4 : v_3 = 0) => ?_) (fun (q_4 : v_3 ≠ 0) => ?_)
    · refine am_E.go (t2 := (39, [vR y, vI n, vI bb, vI p], [vI (-1)], aq_h m s F c)) rfl rfl ?_
      refine am_E.ret rfl rfl ?_
      exact ⟨_, rfl, (aq_sm0 (c := c) (S := fun a => y ≤ a ∧ a < y + 24)), by rw [pt_a, if_neg (by omega)], hI⟩
    · refine am_E.go (t2 := (24, [vR y, vI n, vI bb, vI p], [vR y], aq_h m s F c)) rfl rfl ?_
      refine aq_gf (v := vR (y + 1)) rfl (by omega) hFo (by decide) rfl ?_
      show am_E _ (27, [vR y, vI n, vI bb, vI p], [vR (y + 1)], aq_h m s F c) _
      refine am_E.go (t2 := (28, [vR y, vI n, vI bb, vI p], [vI n, vR (y + 1)], aq_h m s F c)) rfl rfl ?_
      refine am_E.go (t2 := (29, [vR y, vI n, vI bb, vI p], [vI bb, vI n, vR (y + 1)], aq_h m s F c)) rfl rfl ?_
      refine am_E.call rfl rfl rfl (Nat.le_of_ble_eq_true rfl) (qm_at (by omega) (by omega)) ?_
      rintro r5 h5 ⟨rfl, xa, rfl, hxa⟩
      show am_E _ (32, [vR y, vI n, vI bb, vI p], [vI xa, vR (y + 1)], aq_h m s F c) _
      refine am_E.go (t2 := (33, [vR y, vI n, vI bb, vI p], [vI p, vI xa, vR (y + 1)], aq_h m s F c)) rfl rfl ?_
      refine ae_add rfl (am_ri (by omega) (by omega)) ?_
      show am_E _ (34, [vR y, vI n, vI bb, vI p], [vI (xa + p), vR (y + 1)], aq_h m s F c) _
      refine aq_alt (ok := fun k => k == 0) rfl rfl (by omega) hT1 rfl (by omega) (by omega) ?_
      show am_E _ (35, [vR y, vI n, vI bb, vI p], [vI (tbl (xa + p))], aq_h m s F c) _
      refine am_E.go (t2 := (39, [vR y, vI n, vI bb, vI p], [vI (tbl (xa + p))], aq_h m s F c)) rfl rfl ?_
      refine am_E.ret rfl rfl ?_
      refine ⟨_, rfl, (aq_sm0 (c := c) (S := fun a => y ≤ a ∧ a < y + 24)), ?_, hI⟩
      rw [show (xa + p) = 8 * (mo_f n + bb) + p by omega, hTt n bb p (by omega) (by omega) (by omega) (by omega) (by omega) (by omega), pt_a, if_pos (by omega)]

theorem pl_e1 : ∀ l : Nat, l < 14 → (l = 0 ∨ ((1 ≤ l ∧ l < 1) ∨ (11 ≤ l ∧ l < 10 + 1))) → ∀ i : Nat, i < 2 → mo_pl 1 l i = bx_ol 1 l i := by decide +kernel
theorem pl_e2 : ∀ l : Nat, l < 14 → (l = 0 ∨ ((1 ≤ l ∧ l < 2) ∨ (11 ≤ l ∧ l < 10 + 2))) → ∀ i : Nat, i < 4 → mo_pl 2 l i = bx_ol 2 l i := by decide +kernel
theorem pl_e3 : ∀ l : Nat, l < 14 → (l = 0 ∨ ((1 ≤ l ∧ l < 3) ∨ (11 ≤ l ∧ l < 10 + 3))) → ∀ i : Nat, i < 6 → mo_pl 3 l i = bx_ol 3 l i := by decide +kernel
theorem pl_e4 : ∀ l : Nat, l < 14 → (l = 0 ∨ ((1 ≤ l ∧ l < 4) ∨ (11 ≤ l ∧ l < 10 + 4))) → ∀ i : Nat, i < 8 → mo_pl 4 l i = bx_ol 4 l i := by decide +kernel
theorem pl_e {n l i : Int} (h1 : 1 ≤ n) (h4 : n ≤ 4) (hl : l = 0 ∨ ((1 ≤ l ∧ l < n) ∨ (11 ≤ l ∧ l < 10 + n))) (h0 : 0 ≤ i) (hi : i < 2 * n) : mo_pl n l i = bx_ol n.toNat l i := by
  have el : ((l.toNat : Nat) : Int) = l := Int.toNat_of_nonneg (by omega)
  have ei : ((i.toNat : Nat) : Int) = i := Int.toNat_of_nonneg h0
  have h : n = 1 ∨ n = 2 ∨ n = 3 ∨ n = 4 := by omega
  rcases h with h | h | h | h <;> subst h
  · have := pl_e1 l.toNat (by omega) (by omega) i.toNat (by omega)
    rw [el, ei] at this
    exact this
  · have := pl_e2 l.toNat (by omega) (by omega) i.toNat (by omega)
    rw [el, ei] at this
    exact this
  · have := pl_e3 l.toNat (by omega) (by omega) i.toNat (by omega)
    rw [el, ei] at this
    exact this
  · have := pl_e4 l.toNat (by omega) (by omega) i.toNat (by omega)
    rw [el, ei] at this
    exact this
/-- the number of a box, by its pairing -/
theorem nu_v {n v : Int} {f : Int → Int} (h1 : 1 ≤ n) (h4 : n ≤ 4) (h0 : 0 ≤ v) (hv : v < bx_K n) (h : ∀ i, 0 ≤ i → i < 2 * n → prt n v i = f i) : nu_o f (2 * n) 9 0 0 (2 * n - 1) = v := by
  rw [← nu_oc (N := 2 * n) h (fun i k0 k1 => by have := pr_fi h1 h4 h0 hv i k0 k1; omega) 9 0 0 (2 * n - 1) (by omega)]
  exact nu_b h1 h4 h0 hv

theorem qe_X5_plain {m s : Nat} {F : aq_F} {c : aq_C} {y : Nat} (hC : mo_C m F y) (hI : mo_I y c) {n l : Int} : am_E ac_X5_plain (0, [vR y, vI n, vI l], [], aq_h m s F c) (aq_Z m s F (fun a => y ≤ a ∧ a < y + 24) c (fun r d => r = some (vI (pl_a n l)) ∧ mo_I y d)) := by
  obtain ⟨⟨hm, hFo, hG5, hG6, hG7, hG8, hG9, hG10, hG11, hG12, hG13, hG14, hG15, hG16, hG17, hG18, hG19, hG20, hG21, hG22, hG23⟩, ⟨tbl, hT1, hTt⟩, ⟨tA, tB, tD, hL1, hL2, hL3, hLt⟩⟩ := hC
  refine am_E.go (t2 := (1, [vR y, vI n, vI l], [vI n], aq_h m s F c)) rfl rfl ?_
  refine am_E.call rfl rfl rfl (Nat.le_of_ble_eq_true rfl) (qm_isWide) ?_
  rintro r5 h5 ⟨rfl, v_1, rfl, hv_1⟩
  show am_E _ (4, [vR y, vI n, vI l], [vI v_1], aq_h m s F c) _
  refine ae_if0 rfl (fun (q_2 : v_1 = 0) => ?_) (fun (q_2 : v_1 ≠ 0) => ?_)
  · refine am_E.go (t2 := (20, [vR y, vI n, vI l], [vI (-1)], aq_h m s F c)) rfl rfl ?_
    refine am_E.go (t2 := (29, [vR y, vI n, vI l], [vI (-1)], aq_h m s F c)) rfl rfl ?_
    refine am_E.ret rfl rfl ?_
    exact ⟨_, rfl, (aq_sm0 (c := c) (S := fun a => y ≤ a ∧ a < y + 24)), by rw [pl_a, if_neg (by omega)], hI⟩
  · refine am_E.go (t2 := (8, [vR y, vI n, vI l], [vI l], aq_h m s F c)) rfl rfl ?_
    refine ae_if0 rfl (fun (q_3 : l = 0) => ?_) (fun (q_3 : l ≠ 0) => ?_)
    · refine am_E.go (t2 := (24, [vR y, vI n, vI l], [vR y], aq_h m s F c)) rfl rfl ?_
      refine am_E.go (t2 := (25, [vR y, vI n, vI l], [vI n, vR y], aq_h m s F c)) rfl rfl ?_
      refine am_E.go (t2 := (26, [vR y, vI n, vI l], [vI l, vI n, vR y], aq_h m s F c)) rfl rfl ?_
      refine aq_callv (y := 3) (as2 := [vI n, vI l]) (rest := []) rfl rfl (by decide) (Nat.le_of_ble_eq_true rfl) rfl rfl (Nat.le_of_ble_eq_true rfl) (by omega) hFo rfl (Nat.le_of_ble_eq_true rfl) (qm_plainBox (S := fun a => a = y + 12) ⟨hm, hFo, hG5, hG6, hG7, hG8, hG9, hG10, hG11, hG12, hG13, hG14, hG15, hG16, hG17, hG18, hG19, hG20, hG21, hG22, hG23⟩ rfl ⟨hT1, hTt⟩ (by omega) (by omega) (by omega)) ?_
      rintro r5 h5 ⟨c_b, rfl, s_b, v_b, rfl, hv1_b, hv2_b, hv3_b⟩
      show am_E _ (29, [vR y, vI n, vI l], [vI v_b], aq_h m s F c_b) _
      refine am_E.ret rfl rfl ?_
      refine ⟨_, rfl, (aq_smt (aq_sm0 (c := c) (S := fun a => y ≤ a ∧ a < y + 24)) (aq_smi s_b (fun a h => by omega))), ?_, mo_Is hI s_b (mo_ks mo_k0 s_b (by omega)) (by omega) (by omega) (by omega) (by omega) (by omega)⟩
      rw [pl_a, if_pos (by omega), nu_v (by omega) (by omega) hv1_b hv2_b (fun i k0 k1 => by rw [hv3_b i k0 k1]; exact pl_e (by omega) (by omega) (by omega) k0 k1)]
    · refine am_E.go (t2 := (12, [vR y, vI n, vI l], [vI n], aq_h m s F c)) rfl rfl ?_
      refine am_E.go (t2 := (13, [vR y, vI n, vI l], [vI l, vI n], aq_h m s F c)) rfl rfl ?_
      refine am_E.call rfl rfl rfl (Nat.le_of_ble_eq_true rfl) (qm_isLetter (by omega) (by omega)) ?_
      rintro r5 h5 ⟨rfl, v_4, rfl, hv_4⟩
      show am_E _ (16, [vR y, vI n, vI l], [vI v_4], aq_h m s F c) _
      refine ae_if0 rfl (fun (q_5 : v_4 ≠ 0) => ?_) (fun (q_5 : v_4 = 0) => ?_)
      · refine am_E.go (t2 := (24, [vR y, vI n, vI l], [vR y], aq_h m s F c)) rfl rfl ?_
        refine am_E.go (t2 := (25, [vR y, vI n, vI l], [vI n, vR y], aq_h m s F c)) rfl rfl ?_
        refine am_E.go (t2 := (26, [vR y, vI n, vI l], [vI l, vI n, vR y], aq_h m s F c)) rfl rfl ?_
        refine aq_callv (y := 3) (as2 := [vI n, vI l]) (rest := []) rfl rfl (by decide) (Nat.le_of_ble_eq_true rfl) rfl rfl (Nat.le_of_ble_eq_true rfl) (by omega) hFo rfl (Nat.le_of_ble_eq_true rfl) (qm_plainBox (S := fun a => a = y + 12) ⟨hm, hFo, hG5, hG6, hG7, hG8, hG9, hG10, hG11, hG12, hG13, hG14, hG15, hG16, hG17, hG18, hG19, hG20, hG21, hG22, hG23⟩ rfl ⟨hT1, hTt⟩ (by omega) (by omega) (by omega)) ?_
        rintro r5 h5 ⟨c_b, rfl, s_b, v_b, rfl, hv1_b, hv2_b, hv3_b⟩
        show am_E _ (29, [vR y, vI n, vI l], [vI v_b], aq_h m s F c_b) _
        refine am_E.ret rfl rfl ?_
        refine ⟨_, rfl, (aq_smt (aq_sm0 (c := c) (S := fun a => y ≤ a ∧ a < y + 24)) (aq_smi s_b (fun a h => by omega))), ?_, mo_Is hI s_b (mo_ks mo_k0 s_b (by omega)) (by omega) (by omega) (by omega) (by omega) (by omega)⟩
        rw [pl_a, if_pos (by omega), nu_v (by omega) (by omega) hv1_b hv2_b (fun i k0 k1 => by rw [hv3_b i k0 k1]; exact pl_e (by omega) (by omega) (by omega) k0 k1)]
      · refine am_E.go (t2 := (20, [vR y, vI n, vI l], [vI (-1)], aq_h m s F c)) rfl rfl ?_
        refine am_E.go (t2 := (29, [vR y, vI n, vI l], [vI (-1)], aq_h m s F c)) rfl rfl ?_
        refine am_E.ret rfl rfl ?_
        exact ⟨_, rfl, (aq_sm0 (c := c) (S := fun a => y ≤ a ∧ a < y + 24)), by rw [pl_a, if_neg (by omega)], hI⟩
