/-! The class's constructor, whole. -/
theorem su_t0e : (fun j => aq_ot (ac_ft 3 j)) = su_t0 := by
  funext j
  match j with
  | 0 => rfl
  | 1 => rfl
  | 2 => rfl
  | 3 => rfl
  | 4 => rfl
  | j + 5 => rfl
theorem cr_t0e : (fun j => aq_ot (ac_ft 1 j)) = cr_t0 := by
  funext j
  match j with
  | 0 => rfl
  | 1 => rfl
  | 2 => rfl
  | 3 => rfl
  | 4 => rfl
  | j + 5 => rfl
/-- behind the sums before j -/
def sb_E (j : Nat) (m : Nat) (F : aq_F) (c : aq_C) : Prop := F 0 = (14, 5, sb_t) ∧ F 1 = (4, 4, fun j => aq_g 4 j (sb_o j)) ∧ F 2 = (5, 4, fun j => aq_g 4 j (sb_h j)) ∧ F 3 = (6, 8, fun i => aq_g j i (495 + 4 * i)) ∧ su_0 m F 4 ∧ cr_0 m F 8 ∧ (∀ i, i < j → su_0 m F (495 + 4 * i)) ∧ (∀ i, i < 4 → sb_B m F (sb_o i) (i + 1) (sb_K i)) ∧ (∀ i, i < 4 → sb_H m F (sb_h i) (i + 1)) ∧ (∀ i, i < 4 → aq_rg (sb_o i + 6 + 3 * sb_K i) (2 * ((i + 1 : Nat) : Int)) 0 (2 * ((i + 1 : Nat) : Int)) c) ∧ (cr_l 8 c ∧ c 8 0 = 2 ∧ c 8 1 = 0) ∧ ∀ i, i < j → sb_u (495 + 4 * i) c
theorem sb_end4 : ∀ i, i < 4 → 11 ≤ sb_o i ∧ sb_o i + 10 + 3 * sb_K i = sb_h i ∧ sb_h i + 18 ≤ 495 := by decide
theorem sb_su {s j : Nat} {F : aq_F} {c : aq_C} {Z : Option am_V → am_H → Prop} (hj : j < 8) (hE : sb_E j (495 + 4 * j) F c) (k : ∀ (s2 : Nat) (F2 : aq_F) (c2 : aq_C), s2 ≤ s + 200 → sb_E (j + 1) (495 + 4 * (j + 1)) F2 c2 → am_E ac_X4_init (98, [vR 0, vI ((j + 1 : Nat) : Int)], [], aq_h (495 + 4 * (j + 1)) s2 F2 c2) Z) : am_E ac_X4_init (98, [vR 0, vI ((j : Nat) : Int)], [], aq_h (495 + 4 * j) s F c) Z := by
  obtain ⟨d0, d1, d2, d3, d4, d8, ds, dB, dH, dr, dl, du⟩ := hE
  obtain ⟨a, ha⟩ : ∃ a, 495 + 4 * j = a := ⟨_, rfl⟩
  have eo := aq_gu (j := j) (f := fun i => 495 + 4 * i)
  simp only [ha] at eo
  rw [show 495 + 4 * (j + 1) = a + 4 by omega] at k
  rw [ha] at d4 d8 ds dB dH ⊢
  refine am_E.go (t2 := (99, [vR 0, vI (j : Int)], [vI (j : Int)], aq_h a s F c)) rfl rfl ?_
  refine am_E.go (t2 := (101, [vR 0, vI (j : Int)], [vI 8, vI (j : Int)], aq_h a s F c)) rfl rfl ?_
  refine ae_icmp rfl (fun (q : (8 : Int) ≤ (j : Int)) => absurd q (by omega)) (fun _ => ?_)
  refine am_E.go (t2 := (105, [vR 0, vI (j : Int)], [vR 0], aq_h a s F c)) rfl rfl ?_
  refine aq_gf (v := vR 3) rfl (by omega) d0 (by decide) rfl ?_
  refine am_E.go (t2 := (109, [vR 0, vI (j : Int)], [vI (j : Int), vR 3], aq_h a s F c)) rfl rfl ?_
  refine aq_new (a := a) (m2 := a + 1) rfl rfl rfl ?_
  intro s_1 F_1 c_1 es_1 y_1 o_1 z_1 u_1
  rw [su_t0e] at y_1
  refine am_E.go (t2 := (113, [vR 0, vI (j : Int)], [vR a, vR a, vI (j : Int), vR 3], aq_h (a + 1) s_1 F_1 c_1)) rfl rfl ?_
  refine aq_callv (y := 1) (as2 := []) (rest := [vR a, vI (j : Int), vR 3]) rfl rfl (by decide) (Nat.le_of_ble_eq_true rfl) rfl rfl (Nat.le_of_ble_eq_true rfl) (by omega) y_1 rfl (Nat.le_of_ble_eq_true rfl) (qn_X3_init y_1) ?_
  rintro r5 h5 ⟨F_2, c_2, rfl, rfl, gS, o_2, u_2, w0, w1⟩
  obtain ⟨s_2, hs2⟩ : ∃ s2, s_1 + 120 = s2 := ⟨_, rfl⟩
  rw [hs2]
  show am_E _ (116, [vR 0, vI (j : Int)], [vR a, vI (j : Int), vR 3], aq_h (a + 4) s_2 F_2 c_2) _
  have g3 : F_2 3 = (6, 8, fun i => aq_g j i (495 + 4 * i)) := by rw [o_2 _ (by omega), o_1 _ (by omega)]; exact d3
  refine aq_aas (a := 3) (b := a) (kd := 6) (j := j) rfl (by omega) (by omega) g3 gS.2.1 (by decide) (by decide) rfl hj ?_
  intro F_3 y_3 o_3
  rw [eo] at y_3
  show am_E _ (117, [vR 0, vI (j : Int)], [], aq_h (a + 4) s_2 F_3 c_2) _
  refine ae_iinc rfl rfl (am_ri (by omega) (by omega)) ?_
  show am_E _ (120, [vR 0, vI ((j : Int) + 1)], [], aq_h (a + 4) s_2 F_3 c_2) _
  rw [show (j : Int) + 1 = ((j + 1 : Nat) : Int) by omega]
  refine am_E.go (t2 := (98, [vR 0, vI ((j + 1 : Nat) : Int)], [], aq_h (a + 4) s_2 F_3 c_2)) rfl rfl ?_
  have Fb : ∀ b, b < a → b ≠ 3 → F_3 b = F b := fun b h1 h2 => by rw [o_3 _ h2, o_2 _ (by omega), o_1 _ (by omega)]
  have cb : ∀ b, b < a → ∀ i, c_2 b i = c b i := fun b h1 i => by rw [u_2 _ h1, u_1 _ (by omega)]
  refine k s_2 F_3 c_2 (by omega) ⟨by rw [Fb _ (by omega) (by omega)]; exact d0, by rw [Fb _ (by omega) (by omega)]; exact d1, by rw [Fb _ (by omega) (by omega)]; exact d2, y_3, su_0m d4 (by omega) (fun b h1 h2 => Fb b (by omega) (by omega)), cr_0m d8 (by omega) (fun b h1 h2 => Fb b (by omega) (by omega)), fun i hi => ?_, fun i hi => ?_, fun i hi => ?_, fun i hi => ?_, ⟨cr_lc (cb 8 (by omega)) (cb 9 (by omega)) dl.1, by rw [cb 8 (by omega)]; exact dl.2.1, by rw [cb 8 (by omega)]; exact dl.2.2⟩, fun i hi => ?_⟩
  · by_cases e : i = j
    · subst e
      rw [ha]
      exact su_0m gS (by omega) (fun b h1 h2 => o_3 b (by omega))
    · exact su_0m (ds i (by omega)) (by omega) (fun b h1 h2 => Fb b (by omega) (by omega))
  · have n6 := sb_end4 i hi
    exact sb_Bm (dB i hi) (by omega) (fun b h1 h2 => Fb b (by omega) (by omega))
  · have n6 := sb_end4 i hi
    exact sb_Hm (dH i hi) (by omega) (fun b h1 h2 => Fb b (by omega) (by omega))
  · have n6 := sb_end4 i hi
    intro x x0 x1
    rw [cb _ (by omega)]
    exact dr i hi x x0 x1
  · by_cases e : i = j
    · subst e
      rw [ha]
      have v1 : c_2 a 1 = 0 := by rw [w1 1 (by decide)]; exact z_1 1
      exact ⟨by omega, by omega, by omega, by omega, fun i i0 i1 => absurd i1 (by omega)⟩
    · exact sb_uc (cb _ (by omega)) (cb _ (by omega)) (cb _ (by omega)) (du i (by omega))
def cl_Z (sT : Nat) : Option am_V → am_H → Prop := fun r h2 => ∃ (s2 : Nat) (F2 : aq_F) (c2 : aq_C), r = none ∧ h2 = aq_h 527 s2 F2 c2 ∧ s2 ≤ sT ∧ sb_C 527 F2 ∧ cl_I c2 ∧ c2 8 0 = 2 ∧ c2 8 1 = 0
theorem sb_ret {s : Nat} {F : aq_F} {c : aq_C} (hE : sb_E 8 527 F c) : am_E ac_X4_init (98, [vR 0, vI ((8 : Nat) : Int)], [], aq_h 527 s F c) (cl_Z s) := by
  obtain ⟨d0, d1, d2, d3, d4, d8, ds, dB, dH, dr, dl, du⟩ := hE
  refine am_E.go (t2 := (99, [vR 0, vI ((8 : Nat) : Int)], [vI ((8 : Nat) : Int)], aq_h 527 s F c)) rfl rfl ?_
  refine am_E.go (t2 := (101, [vR 0, vI ((8 : Nat) : Int)], [vI 8, vI ((8 : Nat) : Int)], aq_h 527 s F c)) rfl rfl ?_
  refine ae_icmp rfl (fun _ => ?_) (fun (q : ((8 : Nat) : Int) < 8) => absurd q (by omega))
  exact am_E.ret rfl rfl ⟨s, F, c, rfl, rfl, Nat.le_refl _, ⟨Nat.le_refl _, d0, d1, d2, d3, d4, d8, ds, dB, dH⟩, ⟨dr, dl.1, du⟩, dl.2.1, dl.2.2⟩
theorem sb_mid {s : Nat} {F : aq_F} {c : aq_C} (hD : sb_D 4 495 F c) : am_E ac_X4_init (53, [vR 0, vI ((4 + 1 : Nat) : Int)], [], aq_h 495 s F c) (cl_Z (s + 2000)) := by
  obtain ⟨d0, d1, d2, d3, d4, d8, dl, dB, dH, dr⟩ := hD
  refine am_E.go (t2 := (54, [vR 0, vI ((4 + 1 : Nat) : Int)], [vI ((4 + 1 : Nat) : Int)], aq_h 495 s F c)) rfl rfl ?_
  refine am_E.go (t2 := (55, [vR 0, vI ((4 + 1 : Nat) : Int)], [vI 4, vI ((4 + 1 : Nat) : Int)], aq_h 495 s F c)) rfl rfl ?_
  refine ae_icmp rfl (fun _ => ?_) (fun (q : ((4 + 1 : Nat) : Int) ≤ 4) => absurd q (by omega))
  refine am_E.go (t2 := (97, [vR 0, vI ((4 + 1 : Nat) : Int)], [vI 0], aq_h 495 s F c)) rfl rfl ?_
  refine am_E.go (t2 := (98, [vR 0, vI ((0 : Nat) : Int)], [], aq_h 495 s F c)) rfl rfl ?_
  refine sb_su (j := 0) (by decide) ⟨d0, d1, d2, by rw [d3, aq_g0], d4, d8, fun i hi => absurd hi (by omega), dB, dH, dr, dl, fun i hi => absurd hi (by omega)⟩ (fun s1 F1 c1 e1 g1 => ?_)
  refine sb_su (j := 1) (by decide) g1 (fun s2 F2 c2 e2 g2 => ?_)
  refine sb_su (j := 2) (by decide) g2 (fun s3 F3 c3 e3 g3 => ?_)
  refine sb_su (j := 3) (by decide) g3 (fun s4 F4 c4 e4 g4 => ?_)
  refine sb_su (j := 4) (by decide) g4 (fun s5 F5 c5 e5 g5 => ?_)
  refine sb_su (j := 5) (by decide) g5 (fun s6 F6 c6 e6 g6 => ?_)
  refine sb_su (j := 6) (by decide) g6 (fun s7 F7 c7 e7 g7 => ?_)
  refine sb_su (j := 7) (by decide) g7 (fun s8 F8 c8 e8 g8 => ?_)
  refine am_E.imp (sb_ret g8) ?_
  rintro r h2 ⟨s9, F9, c9, q1, q2, q3, q4, q5⟩
  exact ⟨s9, F9, c9, q1, q2, by omega, q4, q5⟩
/-- THE CLASS'S CONSTRUCTOR: from a new object at 0 -/
theorem qn_X4_init {s : Nat} {F : aq_F} {c : aq_C} (hF : F 0 = (14, 5, fun j => aq_ot (ac_ft 4 j))) : am_E ac_X4_init (0, [vR 0, vU], [], aq_h 1 s F c) (cl_Z (s + 20000)) := by
  refine am_E.go (t2 := (1, [vR 0, vU], [vR 0], aq_h 1 s F c)) rfl rfl ?_
  refine am_E.go (t2 := (4, [vR 0, vU], [], aq_h 1 s F c)) rfl rfl ?_
  refine am_E.go (t2 := (5, [vR 0, vU], [vR 0], aq_h 1 s F c)) rfl rfl ?_
  refine am_E.go (t2 := (6, [vR 0, vU], [vI 4, vR 0], aq_h 1 s F c)) rfl rfl ?_
  refine aq_nwr (n := 4) (a := 1) (m2 := 2) rfl (by decide) rfl (by decide) rfl rfl (fun s_1 F_1 c_1 es_1 a_1 o_1 u_1 => ?_)
  refine aq_pfr (pc := 9) (o := 0) (N := 5) rfl (by decide) (by rw [o_1 _ (by decide)]; exact hF) (by decide) rfl (fun F_2 y_2 o_2 => ?_)
  refine am_E.go (t2 := (13, [vR 0, vU], [vR 0], aq_h 2 s_1 F_2 c_1)) rfl rfl ?_
  refine am_E.go (t2 := (14, [vR 0, vU], [vI 4, vR 0], aq_h 2 s_1 F_2 c_1)) rfl rfl ?_
  refine aq_nwr (n := 4) (a := 2) (m2 := 3) rfl (by decide) rfl (by decide) rfl rfl (fun s_3 F_3 c_3 es_3 a_3 o_3 u_3 => ?_)
  refine aq_pfr (pc := 17) (o := 0) (N := 5) rfl (by decide) (by rw [o_3 _ (by decide)]; exact y_2) (by decide) rfl (fun F_4 y_4 o_4 => ?_)
  refine am_E.go (t2 := (21, [vR 0, vU], [vR 0], aq_h 3 s_3 F_4 c_3)) rfl rfl ?_
  refine am_E.go (t2 := (23, [vR 0, vU], [vI 8, vR 0], aq_h 3 s_3 F_4 c_3)) rfl rfl ?_
  refine aq_nwr (n := 8) (a := 3) (m2 := 4) rfl (by decide) rfl (by decide) rfl rfl (fun s_5 F_5 c_5 es_5 a_5 o_5 u_5 => ?_)
  refine aq_pfr (pc := 26) (o := 0) (N := 5) rfl (by decide) (by rw [o_5 _ (by decide)]; exact y_4) (by decide) rfl (fun F_6 y_6 o_6 => ?_)
  refine am_E.go (t2 := (30, [vR 0, vU], [vR 0], aq_h 4 s_5 F_6 c_5)) rfl rfl ?_
  refine aq_new (a := 4) (m2 := 5) rfl rfl rfl (fun s_7 F_7 c_7 es_7 y_7 o_7 z_7 u_7 => ?_)
  rw [su_t0e] at y_7
  refine am_E.go (t2 := (34, [vR 0, vU], [vR 4, vR 4, vR 0], aq_h 5 s_7 F_7 c_7)) rfl rfl ?_
  refine aq_callv (y := 1) (as2 := []) (rest := [vR 4, vR 0]) rfl rfl (by decide) (Nat.le_of_ble_eq_true rfl) rfl rfl (Nat.le_of_ble_eq_true rfl) (by decide) y_7 rfl (Nat.le_of_ble_eq_true rfl) (qn_X3_init y_7) ?_
  rintro r5 h5 ⟨F_8, c_8, rfl, rfl, gS, o_8, u_8, -, -⟩
  obtain ⟨s_8, hs8⟩ : ∃ s2, s_7 + 120 = s2 := ⟨_, rfl⟩
  rw [hs8]
  show am_E _ (37, [vR 0, vU], [vR 4, vR 0], aq_h 8 s_8 F_8 c_8) _
  refine aq_pfr (pc := 37) (o := 0) (N := 5) rfl (by decide) (by rw [o_8 _ (by decide), o_7 _ (by decide)]; exact y_6) (by decide) rfl (fun F_9 y_9 o_9 => ?_)
  refine am_E.go (t2 := (41, [vR 0, vU], [vR 0], aq_h 8 s_8 F_9 c_8)) rfl rfl ?_
  refine aq_new (a := 8) (m2 := 9) rfl rfl rfl (fun s_10 F_10 c_10 es_10 y_10 o_10 z_10 u_10 => ?_)
  rw [cr_t0e] at y_10
  refine am_E.go (t2 := (45, [vR 0, vU], [vR 8, vR 8, vR 0], aq_h 9 s_10 F_10 c_10)) rfl rfl ?_
  refine aq_callv (y := 1) (as2 := []) (rest := [vR 8, vR 0]) rfl rfl (by decide) (Nat.le_of_ble_eq_true rfl) rfl rfl (Nat.le_of_ble_eq_true rfl) (by decide) y_10 rfl (Nat.le_of_ble_eq_true rfl) (qn_X1_init y_10) ?_
  rintro r6 h6 ⟨F_11, c_11, rfl, rfl, gX, o_11, u_11, w0, w1⟩
  obtain ⟨s_11, hs11⟩ : ∃ s2, s_10 + 89 = s2 := ⟨_, rfl⟩
  rw [hs11]
  show am_E _ (48, [vR 0, vU], [vR 8, vR 0], aq_h 11 s_11 F_11 c_11) _
  refine aq_pfr (pc := 48) (o := 0) (N := 5) rfl (by decide) (by rw [o_11 _ (by decide), o_10 _ (by decide)]; exact y_9) (by decide) rfl (fun F_12 y_12 o_12 => ?_)
  refine am_E.go (t2 := (52, [vR 0, vU], [vI 1], aq_h 11 s_11 F_12 c_11)) rfl rfl ?_
  refine am_E.go (t2 := (53, [vR 0, vI ((0 + 1 : Nat) : Int)], [], aq_h 11 s_11 F_12 c_11)) rfl rfl ?_
  have e0 : F_12 0 = (14, 5, sb_t) := by
    rw [y_12]
    refine congrArg (fun f => (14, 5, f)) ?_
    funext k
    match k with
    | 0 => rfl
    | 1 => rfl
    | 2 => rfl
    | 3 => rfl
    | 4 => rfl
    | k + 5 => rfl
  have e1 : F_12 1 = (4, 4, fun i => aq_g 0 i (sb_o i)) := by
    rw [o_12 _ (by decide), o_11 _ (by decide), o_10 _ (by decide), o_9 _ (by decide), o_8 _ (by decide), o_7 _ (by decide), o_6 _ (by decide), o_5 _ (by decide), o_4 _ (by decide), o_3 _ (by decide), o_2 _ (by decide), a_1, aq_g0]
  have e2 : F_12 2 = (5, 4, fun i => aq_g 0 i (sb_h i)) := by
    rw [o_12 _ (by decide), o_11 _ (by decide), o_10 _ (by decide), o_9 _ (by decide), o_8 _ (by decide), o_7 _ (by decide), o_6 _ (by decide), o_5 _ (by decide), o_4 _ (by decide), a_3, aq_g0]
  have e3 : F_12 3 = (6, 8, fun _ => .inr vN) := by
    rw [o_12 _ (by decide), o_11 _ (by decide), o_10 _ (by decide), o_9 _ (by decide), o_8 _ (by decide), o_7 _ (by decide), o_6 _ (by decide), a_5]
  have e4 : su_0 11 F_12 4 := su_0m gS (by decide) (fun b h1 h2 => by rw [o_12 _ (by omega), o_11 _ (by omega), o_10 _ (by omega), o_9 _ (by omega)])
  have e8 : cr_0 11 F_12 8 := cr_0m gX (by decide) (fun b h1 h2 => o_12 _ (by omega))
  have v1 : c_11 8 1 = 0 := by rw [w1 1 (by decide)]; exact z_10 1
  have el : cr_l 8 c_11 := ⟨by omega, by omega, by omega, by omega, fun i i0 i1 => absurd i1 (by omega)⟩
  refine sb_step (j := 0) (by decide) ⟨e0, e1, e2, e3, e4, e8, ⟨el, w0, v1⟩, fun i hi => absurd hi (by omega), fun i hi => absurd hi (by omega), fun i hi => absurd hi (by omega)⟩ (fun s1 F1 c1 t1 g1 => ?_)
  refine sb_step (j := 1) (by decide) g1 (fun s2 F2 c2 t2 g2 => ?_)
  refine sb_step (j := 2) (by decide) g2 (fun s3 F3 c3 t3 g3 => ?_)
  refine sb_step (j := 3) (by decide) g3 (fun s4 F4 c4 t4 g4 => ?_)
  refine am_E.imp (sb_mid g4) ?_
  rintro r h2 ⟨s9, F9, c9, q1, q2, q3, q4, q5⟩
  exact ⟨s9, F9, c9, q1, q2, by omega, q4, q5⟩
