/-! The class's constructor. -/
theorem sb_Bm {m m2 o n K : Nat} {F F2 : aq_F} (hB : sb_B m F o n K) (hm : m ≤ m2) (h : ∀ b, o ≤ b → b < o + 8 + 3 * K → F2 b = F b) : sb_B m2 F2 o n K := by
  obtain ⟨tP, tG, tN, tR, tL, ⟨a1, a2, a3, a4, a5, a6, a7⟩, ⟨b1, b2, b3⟩, ⟨c1, c2, c3, c4, c5, c6, c7, c8⟩, ⟨d1, d2⟩, e⟩ := hB
  exact ⟨tP, tG, tN, tR, tL, ⟨by omega, a2, a3, a4, by rw [h _ (by omega) (by omega)]; exact a5, by rw [h _ (by omega) (by omega)]; exact a6, by rw [h _ (by omega) (by omega)]; exact a7⟩, ⟨by rw [h _ (by omega) (by omega)]; exact b1, fun b hb => by rw [h _ (by omega) (by omega)]; exact b2 b hb, b3⟩, ⟨by rw [h _ (by omega) (by omega)]; exact c1, by rw [h _ (by omega) (by omega)]; exact c2, fun b hb => by rw [h _ (by omega) (by omega)]; exact c3 b hb, by rw [h _ (by omega) (by omega)]; exact c4, fun b hb => by rw [h _ (by omega) (by omega)]; exact c5 b hb, c6, c7, c8⟩, ⟨by rw [h _ (by omega) (by omega)]; exact d1, d2⟩, e⟩
theorem sb_Hm {m m2 o n : Nat} {F F2 : aq_F} (hH : sb_H m F o n) (hm : m ≤ m2) (h : ∀ b, o ≤ b → b < o + 18 → F2 b = F b) : sb_H m2 F2 o n := by
  obtain ⟨z, tl, th, a1, a2, a3, a4, a5, a6, a7, a8, a9, b1, b2, b3, b4⟩ := hH
  exact ⟨z, tl, th, by omega, a2, a3, a4, by rw [h _ (by omega) (by omega)]; exact a5, by rw [h _ (by omega) (by omega)]; exact a6, by rw [h _ (by omega) (by omega)]; exact a7, fun j hj => by rw [h _ (by omega) (by omega)]; exact a8 j hj, by rw [h _ (by omega) (by omega)]; exact a9, fun j hj => by rw [h _ (by omega) (by omega)]; exact b1 j hj, by rw [h _ (by omega) (by omega)]; exact b2, by rw [h _ (by omega) (by omega)]; exact b3, b4⟩
theorem su_0m {m m2 a : Nat} {F F2 : aq_F} (hH : su_0 m F a) (hm : m ≤ m2) (h : ∀ b, a ≤ b → b < a + 4 → F2 b = F b) : su_0 m2 F2 a := by
  obtain ⟨a1, a2, a3, a4, a5⟩ := hH
  exact ⟨by omega, by rw [h _ (by omega) (by omega)]; exact a2, by rw [h _ (by omega) (by omega)]; exact a3, by rw [h _ (by omega) (by omega)]; exact a4, by rw [h _ (by omega) (by omega)]; exact a5⟩
theorem cr_0m {m m2 a : Nat} {F F2 : aq_F} (hH : cr_0 m F a) (hm : m ≤ m2) (h : ∀ b, a ≤ b → b < a + 3 → F2 b = F b) : cr_0 m2 F2 a := by
  obtain ⟨a1, a2, a3, a4⟩ := hH
  exact ⟨by omega, by rw [h _ (by omega) (by omega)]; exact a2, by rw [h _ (by omega) (by omega)]; exact a3, by rw [h _ (by omega) (by omega)]; exact a4⟩
def sb_m (j : Nat) : Nat := if j = 4 then 495 else sb_o j
theorem sb_num : ∀ j, j < 4 → sb_h j = sb_o j + 10 + 3 * sb_K j ∧ sb_m (j + 1) = sb_h j + 18 ∧ 11 ≤ sb_o j ∧ sb_m j = sb_o j ∧ ∀ i, i < j → sb_o i + 28 + 3 * sb_K i ≤ sb_o j ∧ sb_h i = sb_o i + 10 + 3 * sb_K i := by decide
theorem sb_Kn : ∀ j, j < 4 → (sb_K j : Int) = bx_K ((j + 1 : Nat) : Int) := by decide
theorem aq_gu {j : Nat} {f : Nat → Nat} : am_up (fun i => aq_g j i (f i)) j (.inr (vR (f j))) = fun i => aq_g (j + 1) i (f i) := by
  funext i
  unfold am_up aq_g
  by_cases e : i = j
  · rw [if_pos e, if_pos (by omega), e]
  · rw [if_neg e]
    show (Sum.inr (if i < j then vR (f i) else vN) : aq_T) = Sum.inr (if i < j + 1 then vR (f i) else vN)
    by_cases e2 : i < j
    · rw [if_pos e2, if_pos (by omega)]
    · rw [if_neg e2, if_neg (by omega)]
theorem aq_g0 {f : Nat → Nat} : (fun _ => .inr vN : Nat → aq_T) = fun i => aq_g 0 i (f i) := by
  funext i
  unfold aq_g
  rw [if_neg (by omega)]
/-- behind j of the rounds: what is there -/
def sb_D (j m : Nat) (F : aq_F) (c : aq_C) : Prop := F 0 = (14, 5, sb_t) ∧ F 1 = (4, 4, fun i => aq_g j i (sb_o i)) ∧ F 2 = (5, 4, fun i => aq_g j i (sb_h i)) ∧ F 3 = (6, 8, fun _ => .inr vN) ∧ su_0 m F 4 ∧ cr_0 m F 8 ∧ (cr_l 8 c ∧ c 8 0 = 2 ∧ c 8 1 = 0) ∧ (∀ i, i < j → sb_B m F (sb_o i) (i + 1) (sb_K i)) ∧ (∀ i, i < j → sb_H m F (sb_h i) (i + 1)) ∧ ∀ i, i < j → aq_rg (sb_o i + 6 + 3 * sb_K i) (2 * ((i + 1 : Nat) : Int)) 0 (2 * ((i + 1 : Nat) : Int)) c
theorem sb_step {s j : Nat} {F : aq_F} {c : aq_C} {Z : Option am_V → am_H → Prop} (hj : j < 4) (hD : sb_D j (sb_m j) F c) (k : ∀ (s2 : Nat) (F2 : aq_F) (c2 : aq_C), s2 ≤ s + 3200 → sb_D (j + 1) (sb_m (j + 1)) F2 c2 → am_E ac_X4_init (53, [vR 0, vI ((j + 1 + 1 : Nat) : Int)], [], aq_h (sb_m (j + 1)) s2 F2 c2) Z) : am_E ac_X4_init (53, [vR 0, vI ((j + 1 : Nat) : Int)], [], aq_h (sb_m j) s F c) Z := by
  obtain ⟨n1, n2, n3, n4, n5⟩ := sb_num j hj
  have hK := sb_Kn j hj
  rw [n2, n1] at k
  obtain ⟨d0, d1, d2, d3, d4, d8, dl, dB, dH, dr⟩ := hD
  rw [n4] at d4 d8 dB dH ⊢
  have eo := aq_gu (j := j) (f := sb_o)
  have eh := aq_gu (j := j) (f := sb_h)
  rw [n1] at eh
  obtain ⟨o, ho⟩ : ∃ o, sb_o j = o := ⟨_, rfl⟩
  obtain ⟨K, hKK⟩ : ∃ K, sb_K j = K := ⟨_, rfl⟩
  rw [ho] at n3 n5 d4 d8 dB dH ⊢
  rw [ho, hKK] at k eh
  rw [ho] at eo
  rw [hKK] at hK
  refine am_E.go (t2 := (54, [vR 0, vI ((j + 1 : Nat) : Int)], [vI ((j + 1 : Nat) : Int)], aq_h o s F c)) rfl rfl ?_
  refine am_E.go (t2 := (55, [vR 0, vI ((j + 1 : Nat) : Int)], [vI 4, vI ((j + 1 : Nat) : Int)], aq_h o s F c)) rfl rfl ?_
  refine ae_icmp rfl (fun (q : (4 : Int) < ((j + 1 : Nat) : Int)) => absurd q (by omega)) (fun _ => ?_)
  refine am_E.go (t2 := (59, [vR 0, vI ((j + 1 : Nat) : Int)], [vR 0], aq_h o s F c)) rfl rfl ?_
  refine aq_gf (v := vR 1) rfl (by omega) d0 (by decide) rfl ?_
  refine am_E.go (t2 := (63, [vR 0, vI ((j + 1 : Nat) : Int)], [vI ((j + 1 : Nat) : Int), vR 1], aq_h o s F c)) rfl rfl ?_
  refine am_E.go (t2 := (64, [vR 0, vI ((j + 1 : Nat) : Int)], [vI 1, vI ((j + 1 : Nat) : Int), vR 1], aq_h o s F c)) rfl rfl ?_
  refine ae_sub rfl (am_ri (by omega) (by omega)) ?_
  refine aq_new (a := o) (m2 := o + 1) rfl rfl rfl ?_
  intro s_1 F_1 c_1 es_1 y_1 o_1 z_1 u_1
  refine am_E.go (t2 := (69, [vR 0, vI ((j + 1 : Nat) : Int)], [vR o, vR o, vI (((j + 1 : Nat) : Int) - 1), vR 1], aq_h (o + 1) s_1 F_1 c_1)) rfl rfl ?_
  refine am_E.go (t2 := (70, [vR 0, vI ((j + 1 : Nat) : Int)], [vI ((j + 1 : Nat) : Int), vR o, vR o, vI (((j + 1 : Nat) : Int) - 1), vR 1], aq_h (o + 1) s_1 F_1 c_1)) rfl rfl ?_
  refine aq_callv (y := 2) (as2 := [vI ((j + 1 : Nat) : Int)]) (rest := [vR o, vI (((j + 1 : Nat) : Int) - 1), vR 1]) rfl rfl (by decide) (Nat.le_of_ble_eq_true rfl) rfl rfl (Nat.le_of_ble_eq_true rfl) (by omega) y_1 rfl (Nat.le_of_ble_eq_true rfl) (qb_init (n := j + 1) (K := K) (by omega) (by omega) hK y_1 z_1) ?_
  rintro r5 h5 ⟨s_2, F_2, c_2, rfl, rfl, es_2, gB, o_2, u_2, gr⟩
  show am_E _ (73, [vR 0, vI ((j + 1 : Nat) : Int)], [vR o, vI (((j + 1 : Nat) : Int) - 1), vR 1], aq_h (o + 10 + 3 * K) s_2 F_2 c_2) _
  have g1 : F_2 1 = (4, 4, fun i => aq_g j i (sb_o i)) := by rw [o_2 _ (by omega), o_1 _ (by omega)]; exact d1
  have gO : ∃ t, F_2 o = (10, 11, t) := by
    obtain ⟨_, _, _, _, _, hb, _⟩ := gB
    exact ⟨_, hb.2.2.2.2.1⟩
  obtain ⟨tO, gO⟩ := gO
  refine aq_aas (a := 1) (b := o) (kd := 4) (j := j) rfl (by omega) (by omega) g1 gO (by decide) (by decide) (by omega) hj ?_
  intro F_3 y_3 o_3
  rw [eo] at y_3
  show am_E _ (74, [vR 0, vI ((j + 1 : Nat) : Int)], [], aq_h (o + 10 + 3 * K) s_2 F_3 c_2) _
  have e0 : F_3 0 = (14, 5, sb_t) := by rw [o_3 _ (by omega), o_2 _ (by omega), o_1 _ (by omega)]; exact d0
  refine am_E.go (t2 := (75, [vR 0, vI ((j + 1 : Nat) : Int)], [vR 0], aq_h (o + 10 + 3 * K) s_2 F_3 c_2)) rfl rfl ?_
  refine aq_gf (v := vR 2) rfl (by omega) e0 (by decide) rfl ?_
  refine am_E.go (t2 := (79, [vR 0, vI ((j + 1 : Nat) : Int)], [vI ((j + 1 : Nat) : Int), vR 2], aq_h (o + 10 + 3 * K) s_2 F_3 c_2)) rfl rfl ?_
  refine am_E.go (t2 := (80, [vR 0, vI ((j + 1 : Nat) : Int)], [vI 1, vI ((j + 1 : Nat) : Int), vR 2], aq_h (o + 10 + 3 * K) s_2 F_3 c_2)) rfl rfl ?_
  refine ae_sub rfl (am_ri (by omega) (by omega)) ?_
  obtain ⟨q, hq⟩ : ∃ q, o + 10 + 3 * K = q := ⟨_, rfl⟩
  rw [hq] at gB k eh ⊢
  refine aq_new (a := q) (m2 := q + 1) rfl rfl rfl ?_
  intro s_4 F_4 c_4 es_4 y_4 o_4 z_4 u_4
  refine am_E.go (t2 := (85, [vR 0, vI ((j + 1 : Nat) : Int)], [vR q, vR q, vI (((j + 1 : Nat) : Int) - 1), vR 2], aq_h (q + 1) s_4 F_4 c_4)) rfl rfl ?_
  refine am_E.go (t2 := (86, [vR 0, vI ((j + 1 : Nat) : Int)], [vI ((j + 1 : Nat) : Int), vR q, vR q, vI (((j + 1 : Nat) : Int) - 1), vR 2], aq_h (q + 1) s_4 F_4 c_4)) rfl rfl ?_
  refine aq_callv (y := 2) (as2 := [vI ((j + 1 : Nat) : Int)]) (rest := [vR q, vI (((j + 1 : Nat) : Int) - 1), vR 2]) rfl rfl (by decide) (Nat.le_of_ble_eq_true rfl) rfl rfl (Nat.le_of_ble_eq_true rfl) (by omega) y_4 rfl (Nat.le_of_ble_eq_true rfl) (qc_init (n := j + 1) (by omega) (by omega) y_4 z_4) ?_
  rintro r6 h6 ⟨s_5, F_5, c_5, rfl, rfl, es_5, gH, o_5, u_5⟩
  show am_E _ (89, [vR 0, vI ((j + 1 : Nat) : Int)], [vR q, vI (((j + 1 : Nat) : Int) - 1), vR 2], aq_h (q + 18) s_5 F_5 c_5) _
  have g2 : F_5 2 = (5, 4, fun i => aq_g j i (sb_h i)) := by rw [o_5 _ (by omega), o_4 _ (by omega), o_3 _ (by omega), o_2 _ (by omega), o_1 _ (by omega)]; exact d2
  have gQ : ∃ t, F_5 q = (12, 7, t) := by
    obtain ⟨_, _, _, hb⟩ := gH
    exact ⟨_, hb.2.2.2.2.1⟩
  obtain ⟨tQ, gQ⟩ := gQ
  refine aq_aas (a := 2) (b := q) (kd := 5) (j := j) rfl (by omega) (by omega) g2 gQ (by decide) (by decide) (by omega) hj ?_
  intro F_6 y_6 o_6
  rw [eh] at y_6
  show am_E _ (90, [vR 0, vI ((j + 1 : Nat) : Int)], [], aq_h (q + 18) s_5 F_6 c_5) _
  refine ae_iinc rfl rfl (am_ri (by omega) (by omega)) ?_
  show am_E _ (93, [vR 0, vI (((j + 1 : Nat) : Int) + 1)], [], aq_h (q + 18) s_5 F_6 c_5) _
  rw [show ((j + 1 : Nat) : Int) + 1 = ((j + 1 + 1 : Nat) : Int) by omega]
  refine am_E.go (t2 := (53, [vR 0, vI ((j + 1 + 1 : Nat) : Int)], [], aq_h (q + 18) s_5 F_6 c_5)) rfl rfl ?_
  have Fb : ∀ b, b < o → b ≠ 1 → b ≠ 2 → F_6 b = F b := fun b h1 h2 h3 => by rw [o_6 _ h3, o_5 _ (by omega), o_4 _ (by omega), o_3 _ h2, o_2 _ (by omega), o_1 _ (by omega)]
  have cb : ∀ b, b < o → ∀ i, c_5 b i = c b i := fun b h1 i => by rw [u_5 _ (by omega), u_4 _ (by omega), u_2 _ (by omega), u_1 _ (by omega)]
  have Fo : ∀ b, o ≤ b → b < q → F_6 b = F_2 b := fun b h1 h2 => by rw [o_6 _ (by omega), o_5 _ (by omega), o_4 _ (by omega), o_3 _ (by omega)]
  have co : ∀ b, o ≤ b → b < q → ∀ i, c_5 b i = c_2 b i := fun b h1 h2 i => by rw [u_5 _ (by omega), u_4 _ (by omega)]
  refine k s_5 F_6 c_5 (by omega) ⟨by rw [Fb _ (by omega) (by omega) (by omega)]; exact d0, ?_, y_6, by rw [Fb _ (by omega) (by omega) (by omega)]; exact d3, su_0m d4 (by omega) (fun b h1 h2 => Fb b (by omega) (by omega) (by omega)), cr_0m d8 (by omega) (fun b h1 h2 => Fb b (by omega) (by omega) (by omega)), ⟨cr_lc (cb 8 (by omega)) (cb 9 (by omega)) dl.1, by rw [cb 8 (by omega)]; exact dl.2.1, by rw [cb 8 (by omega)]; exact dl.2.2⟩, fun i hi => ?_, fun i hi => ?_, fun i hi => ?_⟩
  · rw [o_6 _ (by omega), o_5 _ (by omega), o_4 _ (by omega)]
    exact y_3
  · by_cases e : i = j
    · subst e
      rw [ho, hKK]
      exact sb_Bm gB (by omega) (fun b h1 h2 => Fo b h1 (by omega))
    · have n6 := n5 i (by omega)
      have n7 := (sb_num i (by omega)).2.2.1
      exact sb_Bm (dB i (by omega)) (by omega) (fun b h1 h2 => Fb b (by omega) (by omega) (by omega))
  · by_cases e : i = j
    · subst e
      rw [n1, ho, hKK, hq]
      exact sb_Hm gH (by omega) (fun b h1 h2 => o_6 _ (by omega))
    · have n6 := n5 i (by omega)
      have n7 := (sb_num i (by omega)).2.2.1
      exact sb_Hm (dH i (by omega)) (by omega) (fun b h1 h2 => Fb b (by omega) (by omega) (by omega))
  · by_cases e : i = j
    · subst e
      rw [ho, hKK]
      intro x x0 x1
      rw [co _ (by omega) (by omega)]
      exact gr x x0 x1
    · have n6 := n5 i (by omega)
      intro x x0 x1
      rw [cb _ (by omega)]
      exact dr i (by omega) x x0 x1
