def lq_r (c : aq_C) (s : Int) : Prop := c (495 + 4 * s.toNat) 0 = c (527 + 5) s ∧ sm_e (su_v (495 + 4 * s.toNat) c) (rf_v 527 s c) ∧ sm_w (bx_K (c (495 + 4 * s.toNat) 0)) (su_v (495 + 4 * s.toNat) c)
def lq_S (c : aq_C) : Prop := ∀ s : Int, 0 ≤ s → s < 8 → lq_r c s
theorem rf_vs {S : Nat → Prop} {y : Nat} {t : Int} {c d : aq_C} (hs : aq_sm S c d) (h6 : ¬ S (y + 6)) (h7 : ¬ S (y + 7)) (h8 : ¬ S (y + 8)) (h9 : ¬ S (y + 9)) : rf_v y t d = rf_v y t c := by
  unfold rf_v
  rw [hs _ h6 t, show d (y + 7) = c (y + 7) from funext (hs _ h7), show d (y + 8) = c (y + 8) from funext (hs _ h8), show d (y + 9) = c (y + 9) from funext (hs _ h9)]
theorem lq_S.wx {c : aq_C} (h : lq_S c) : ∀ x : Int, 0 ≤ x → x < 8 → sm_w (bx_K (c (495 + 4 * x.toNat) 0)) (su_v (495 + 4 * x.toNat) c) := fun x x0 x1 => (h x x0 x1).2.2
theorem lq_S.wm {c : aq_C} (h : lq_S c) : ∀ x : Int, 0 ≤ x → x < 8 → sm_w (bx_K (c (527 + 5) x)) (rf_v 527 x c) := fun x x0 x1 => by
  obtain ⟨h1, h2, h3⟩ := h x x0 x1
  rw [← h1]
  exact sm_we h3 h2
/-- the same behind a call of the class -/
theorem lq_S.wm1 {c d : aq_C} (h : lq_S c) (hs : aq_sm (fun a => a < 527) c d) : ∀ x : Int, 0 ≤ x → x < 8 → sm_w (bx_K (d (527 + 5) x)) (rf_v 527 x d) := fun x x0 x1 => by
  rw [hs (527 + 5) (by omega) x, rf_vs hs (by omega) (by omega) (by omega) (by omega)]
  exact h.wm x x0 x1
/-- contents of the sums that stay -/
theorem lq_S.st {c d : aq_C} (h : lq_S c) (hx : ∀ a, 495 ≤ a → a < 527 → ∀ i, d a i = c a i) (hm : ∀ a, 532 ≤ a → a ≤ 536 → ∀ i, d a i = c a i) : lq_S d := fun s s0 s1 => by
  obtain ⟨h1, h2, h3⟩ := h s s0 s1
  have e0 : d (495 + 4 * s.toNat) 0 = c (495 + 4 * s.toNat) 0 := hx _ (by omega) (by omega) 0
  have ev : su_v (495 + 4 * s.toNat) d = su_v (495 + 4 * s.toNat) c := su_vs (S := fun a => ¬ (495 ≤ a ∧ a < 527)) (fun a ha i => hx a (by omega) (by omega) i) (by omega) (by omega) (by omega) (by omega)
  have ew : rf_v 527 s d = rf_v 527 s c := rf_vs (S := fun a => ¬ (532 ≤ a ∧ a ≤ 536)) (fun a ha i => hm a (by omega) (by omega) i) (by omega) (by omega) (by omega) (by omega)
  refine ⟨by rw [e0, hm (527 + 5) (by omega) (by omega) s]; exact h1, by rw [ev, ew]; exact h2, by rw [e0, ev]; exact h3⟩
/-- one sum changes -/
theorem lq_S.up {c d : aq_C} {s : Int} {aa : Nat} (h : lq_S c) (haa : aa = 495 + 4 * s.toNat) (hx : ∀ a, 495 ≤ a → a < 527 → ¬ (a = aa ∨ a = aa + 1 ∨ a = aa + 2 ∨ a = aa + 3) → ∀ i, d a i = c a i) (h5 : ∀ i, i ≠ s → d (527 + 5) i = c (527 + 5) i ∧ d (527 + 6) i = c (527 + 6) i) (h7 : ∀ i, (∀ j, 0 ≤ j → j < 40 → i ≠ 40 * s + j) → d (527 + 7) i = c (527 + 7) i ∧ d (527 + 8) i = c (527 + 8) i ∧ d (527 + 9) i = c (527 + 9) i) (s0 : 0 ≤ s) (s1 : s < 8) (hr : lq_r d s) : lq_S d := fun x x0 x1 => by
  by_cases e : x = s
  · rw [e]
    exact hr
  · obtain ⟨h1, h2, h3⟩ := h x x0 x1
    have e0 : d (495 + 4 * x.toNat) 0 = c (495 + 4 * x.toNat) 0 := hx _ (by omega) (by omega) (by omega) 0
    have ev : su_v (495 + 4 * x.toNat) d = su_v (495 + 4 * x.toNat) c := su_vs (S := fun a => ¬ ((495 ≤ a ∧ a < 527) ∧ ¬ (a = aa ∨ a = aa + 1 ∨ a = aa + 2 ∨ a = aa + 3))) (fun a ha i => hx a (by omega) (by omega) (by omega) i) (by omega) (by omega) (by omega) (by omega)
    have z := h3.2.1
    refine ⟨by rw [e0, (h5 x e).1]; exact h1, ?_, by rw [e0, ev]; exact h3⟩
    rw [ev]
    refine sm_et h2 ⟨(h5 x e).2.symm, fun j j0 j1 => ?_⟩
    have hz : (rf_v 527 x c).1 ≤ 40 := by rw [← h2.1]; exact z
    have k := h7 (40 * x + j) (fun j2 a0 a1 => by omega)
    exact ⟨k.1.symm, k.2.1.symm, k.2.2.symm⟩
theorem lq_S0 {c : aq_C} (h1 : ∀ j, j < 8 → c (495 + 4 * j) 0 = 2 ∧ c (495 + 4 * j) 1 = 0) (h2 : ∀ s, 0 ≤ s → s < 8 → c (527 + 5) s = 2) (h3 : ∀ s, c (527 + 6) s = 0) : lq_S c := fun s s0 s1 => by
  have k := h1 s.toNat (by omega)
  exact ⟨by rw [k.1, h2 s s0 s1], sm_e0 k.2 (h3 s), sm_w0 k.2⟩
/-- clear -/
abbrev cl_ok (s n : Int) : Prop := (0 ≤ s ∧ s < 8) ∧ 1 ≤ n ∧ n ≤ 4
theorem lq_S.clear {c c1 c2 : aq_C} {s n : Int} (h : lq_S c) (s1 : aq_sm (fun a => a < 527) c c1) (s2 : aq_sm (fun a => 527 ≤ a ∧ a < 527 + 24) c1 c2)
    (x : aq_sm (fun x => x = 495 + 4 * s.toNat ∨ x = 495 + 4 * s.toNat + 1 ∨ x = 495 + 4 * s.toNat + 2 ∨ x = 495 + 4 * s.toNat + 3) c c1 ∧ (cl_ok s n → c1 (495 + 4 * s.toNat) 0 = n ∧ c1 (495 + 4 * s.toNat) 1 = 0) ∧ (¬ cl_ok s n → ∀ x i, c1 x i = c x i))
    (m : (∀ i, i ≠ s → c2 (527 + 5) i = c1 (527 + 5) i ∧ c2 (527 + 6) i = c1 (527 + 6) i) ∧ (∀ i, (∀ j, 0 ≤ j → j < 40 → i ≠ 40 * s + j) → c2 (527 + 7) i = c1 (527 + 7) i ∧ c2 (527 + 8) i = c1 (527 + 8) i ∧ c2 (527 + 9) i = c1 (527 + 9) i) ∧ (cl_ok s n → c2 (527 + 5) s = n ∧ c2 (527 + 6) s = 0) ∧ (¬ cl_ok s n → ∀ x i, c2 x i = c1 x i)) : lq_S c2 ∧ ca_a (c (495 + 4 * s.toNat) 1) s n = ca_a (c1 (527 + 6) s) s n := by
  obtain ⟨x1, x2, x3⟩ := x
  obtain ⟨m1, m2, m3, m4⟩ := m
  by_cases e : cl_ok s n
  · have k := h s e.1.1 e.1.2
    have kz : c (495 + 4 * s.toNat) 1 = c (527 + 6) s := k.2.1.1
    refine ⟨h.up (s := s) rfl (fun a a0 a1 a2 i => by rw [s2 a (by omega) i, x1 a a2 i]) (fun i hi => by rw [(m1 i hi).1, (m1 i hi).2, s1 _ (by omega), s1 _ (by omega)]; exact ⟨rfl, rfl⟩) (fun i hi => by rw [(m2 i hi).1, (m2 i hi).2.1, (m2 i hi).2.2, s1 _ (by omega), s1 _ (by omega), s1 _ (by omega)]; exact ⟨rfl, rfl, rfl⟩) e.1.1 e.1.2 ?_, by rw [kz, s1 _ (by omega)]⟩
    have z0 : c2 (495 + 4 * s.toNat) 0 = n := by rw [s2 _ (by omega)]; exact (x2 e).1
    have z1 : c2 (495 + 4 * s.toNat) 1 = 0 := by rw [s2 _ (by omega)]; exact (x2 e).2
    exact ⟨by rw [z0, (m3 e).1], sm_e0 z1 (m3 e).2, sm_w0 z1⟩
  · refine ⟨h.st (fun a _ _ i => by rw [m4 e, x3 e]) (fun a _ _ i => by rw [m4 e, x3 e]), ?_⟩
    unfold ca_a
    rw [if_neg e, if_neg e]
/-- add -/
theorem ad_c {n s b p f : Int} {t u : sm_} (hw : sm_w (bx_K n) t) (he : sm_e t u) : (ad_a n t s b p f).1 = (ad_a n u s b p f).1 ∧ sm_e (ad_a n t s b p f).2 (ad_a n u s b p f).2 ∧ sm_w (bx_K n) (ad_a n t s b p f).2 := by
  by_cases e : ((0 ≤ s ∧ s < 8) ∧ (1 ≤ n ∧ n ≤ 4 ∧ 0 ≤ b ∧ b < bx_K n)) ∧ (0 ≤ p ∧ p ≤ 20) ∧ -1000000 ≤ f ∧ f ≤ 1000000
  · have hf : sm_ok f := by unfold sm_ok; omega
    rcases sm_jr (b := b) (p := p) (f := f) hw he with ⟨h1, h2⟩ | ⟨a, a2, h1, h2, h3⟩
    · have e1 : ad_a n t s b p f = (-5, t) := by unfold ad_a; rw [if_pos e, h1]
      have e2 : ad_a n u s b p f = (-5, u) := by unfold ad_a; rw [if_pos e, h2]
      rw [e1, e2]
      exact ⟨rfl, he, hw⟩
    · have e1 : ad_a n t s b p f = (a.1, a) := by unfold ad_a; rw [if_pos e, h1]
      have e2 : ad_a n u s b p f = (a2.1, a2) := by unfold ad_a; rw [if_pos e, h2]
      rw [e1, e2]
      exact ⟨h3.1, h3, sm_jw hw (by omega) (by omega) (by omega) (by omega) hf h1⟩
  · have e1 : ad_a n t s b p f = (-1, t) := by unfold ad_a; rw [if_neg e]
    have e2 : ad_a n u s b p f = (-1, u) := by unfold ad_a; rw [if_neg e]
    rw [e1, e2]
    exact ⟨rfl, he, hw⟩
theorem ad_o {n s b p f : Int} {t : sm_} (h : ¬ (0 ≤ s ∧ s < 8)) : ad_a n t s b p f = (-1, t) := by
  unfold ad_a
  rw [if_neg (fun q => h q.1.1)]
theorem lq_S.add {c c1 c2 : aq_C} {s b p f : Int} (h : lq_S c) (s1 : aq_sm (fun a => a < 527) c c1) (s2 : aq_sm (fun a => 527 ≤ a ∧ a < 527 + 24) c1 c2)
    (x : aq_sm (fun x => x = 495 + 4 * s.toNat ∨ x = 495 + 4 * s.toNat + 1 ∨ x = 495 + 4 * s.toNat + 2 ∨ x = 495 + 4 * s.toNat + 3) c c1 ∧ c1 (495 + 4 * s.toNat) 0 = c (495 + 4 * s.toNat) 0 ∧ sm_e (ad_a (c (495 + 4 * s.toNat) 0) (su_v (495 + 4 * s.toNat) c) s b p f).2 (su_v (495 + 4 * s.toNat) c1))
    (m : (∀ i, i ≠ s → c2 (527 + 5) i = c1 (527 + 5) i ∧ c2 (527 + 6) i = c1 (527 + 6) i) ∧ (∀ i, (∀ j, 0 ≤ j → j < 40 → i ≠ 40 * s + j) → c2 (527 + 7) i = c1 (527 + 7) i ∧ c2 (527 + 8) i = c1 (527 + 8) i ∧ c2 (527 + 9) i = c1 (527 + 9) i) ∧ c2 (527 + 5) s = c1 (527 + 5) s ∧ sm_e (ad_a (c1 (527 + 5) s) (rf_v 527 s c1) s b p f).2 (rf_v 527 s c2)) : lq_S c2 ∧ (ad_a (c (495 + 4 * s.toNat) 0) (su_v (495 + 4 * s.toNat) c) s b p f).1 = (ad_a (c1 (527 + 5) s) (rf_v 527 s c1) s b p f).1 := by
  obtain ⟨x1, x2, x3⟩ := x
  obtain ⟨m1, m2, m3, m4⟩ := m
  by_cases e : 0 ≤ s ∧ s < 8
  · obtain ⟨k1, k2, k3⟩ := h s e.1 e.2
    have er : rf_v 527 s c1 = rf_v 527 s c := rf_vs s1 (by omega) (by omega) (by omega) (by omega)
    have en : c1 (527 + 5) s = c (527 + 5) s := s1 _ (by omega) s
    rw [er, en, ← k1] at m4
    have ac := ad_c (s := s) (b := b) (p := p) (f := f) k3 k2
    refine ⟨h.up (s := s) rfl (fun a a0 a1 a2 i => by rw [s2 a (by omega) i, x1 a a2 i]) (fun i hi => by rw [(m1 i hi).1, (m1 i hi).2, s1 _ (by omega), s1 _ (by omega)]; exact ⟨rfl, rfl⟩) (fun i hi => by rw [(m2 i hi).1, (m2 i hi).2.1, (m2 i hi).2.2, s1 _ (by omega), s1 _ (by omega), s1 _ (by omega)]; exact ⟨rfl, rfl, rfl⟩) e.1 e.2 ?_, by rw [er, en, ← k1]; exact ac.1⟩
    have z0 : c2 (495 + 4 * s.toNat) 0 = c (495 + 4 * s.toNat) 0 := by rw [s2 _ (by omega)]; exact x2
    have zv : su_v (495 + 4 * s.toNat) c2 = su_v (495 + 4 * s.toNat) c1 := su_vs s2 (by omega) (by omega) (by omega) (by omega)
    exact ⟨by rw [z0, m3, en, k1], by rw [zv]; exact sm_et (sm_es x3) (sm_et ac.2.1 m4), by rw [z0, zv]; exact sm_we ac.2.2 x3⟩
  · refine ⟨fun x x0 xl => ?_, by rw [ad_o e, ad_o e]⟩
    rw [ad_o e] at x3
    obtain ⟨k1, k2, k3⟩ := h x x0 xl
    have kz := k3.2.1
    have ez : c2 (527 + 5) x = c (527 + 5) x := by rw [(m1 x (by omega)).1, s1 _ (by omega)]
    have er : sm_e (rf_v 527 x c) (rf_v 527 x c2) := by
      refine ⟨by show c (527 + 6) x = c2 (527 + 6) x; rw [(m1 x (by omega)).2, s1 _ (by omega)], fun j j0 j1 => ?_⟩
      have hz : (rf_v 527 x c).1 ≤ 40 := by rw [← k2.1]; exact kz
      have k := m2 (40 * x + j) (fun j2 a0 a1 => by omega)
      rw [s1 _ (by omega), s1 _ (by omega), s1 _ (by omega)] at k
      exact ⟨k.1.symm, k.2.1.symm, k.2.2.symm⟩
    have ev : c2 (495 + 4 * x.toNat) 0 = c (495 + 4 * x.toNat) 0 ∧ sm_e (su_v (495 + 4 * x.toNat) c) (su_v (495 + 4 * x.toNat) c2) := by
      have zv : su_v (495 + 4 * x.toNat) c2 = su_v (495 + 4 * x.toNat) c1 := su_vs s2 (by omega) (by omega) (by omega) (by omega)
      rw [zv, s2 _ (by omega)]
      by_cases hx : x.toNat = s.toNat
      · rw [hx]
        exact ⟨x2, x3⟩
      · rw [x1 _ (by omega), su_vs x1 (by omega) (by omega) (by omega) (by omega)]
        exact ⟨rfl, sm_er⟩
    exact ⟨by rw [ev.1, ez]; exact k1, sm_et (sm_es ev.2) (sm_et k2 er), by rw [ev.1]; exact sm_we k3 ev.2⟩
/-- work -/
theorem lq_S.work {c c1 c2 : aq_C} {s w t u : Int} (h : lq_S c) (s1 : aq_sm (fun a => a < 527) c c1) (s2 : aq_sm (fun a => 527 ≤ a ∧ a < 527 + 24) c1 c2) (hn : ∀ x : Int, 0 ≤ x → x < 8 → 1 ≤ c (495 + 4 * x.toNat) 0 ∧ c (495 + 4 * x.toNat) 0 ≤ 4)
    (x : aq_sm (fun x => (x = 4 ∨ x = 4 + 1 ∨ x = 4 + 2 ∨ x = 4 + 3) ∨ x = 495 + 4 * s.toNat ∨ x = 495 + 4 * s.toNat + 1 ∨ x = 495 + 4 * s.toNat + 2 ∨ x = 495 + 4 * s.toNat + 3) c c1 ∧ (∀ v, (wk_k s w t u ∧ c (495 + 4 * t.toNat) 0 = c (495 + 4 * u.toNat) 0) → wk_o (c (495 + 4 * t.toNat) 0) w (su_v (495 + 4 * t.toNat) c) (su_v (495 + 4 * u.toNat) c) = some v → c1 (495 + 4 * s.toNat) 0 = c (495 + 4 * t.toNat) 0 ∧ sm_e v (su_v (495 + 4 * s.toNat) c1)) ∧ (((wk_k s w t u ∧ c (495 + 4 * t.toNat) 0 = c (495 + 4 * u.toNat) 0) → wk_o (c (495 + 4 * t.toNat) 0) w (su_v (495 + 4 * t.toNat) c) (su_v (495 + 4 * u.toNat) c) = none) → aq_sm (fun b => b = 4 ∨ b = 4 + 1 ∨ b = 4 + 2 ∨ b = 4 + 3) c c1))
    (m : (∀ i, i ≠ s → c2 (527 + 5) i = c1 (527 + 5) i ∧ c2 (527 + 6) i = c1 (527 + 6) i) ∧ (∀ i, (∀ j, 0 ≤ j → j < 40 → i ≠ 40 * s + j) → c2 (527 + 7) i = c1 (527 + 7) i ∧ c2 (527 + 8) i = c1 (527 + 8) i ∧ c2 (527 + 9) i = c1 (527 + 9) i) ∧ (∀ v, (wk_k s w t u ∧ c1 (527 + 5) t = c1 (527 + 5) u) → wk_o (c1 (527 + 5) t) w (rf_v 527 t c1) (rf_v 527 u c1) = some v → c2 (527 + 5) s = c1 (527 + 5) t ∧ sm_e v (rf_v 527 s c2)) ∧ (((wk_k s w t u ∧ c1 (527 + 5) t = c1 (527 + 5) u) → wk_o (c1 (527 + 5) t) w (rf_v 527 t c1) (rf_v 527 u c1) = none) → aq_sm (mo_S 527) c1 c2)) : lq_S c2 ∧ wk_a (c (495 + 4 * t.toNat) 0) (c (495 + 4 * u.toNat) 0) (su_v (495 + 4 * t.toNat) c) (su_v (495 + 4 * u.toNat) c) s w t u = wk_a (c1 (527 + 5) t) (c1 (527 + 5) u) (rf_v 527 t c1) (rf_v 527 u c1) s w t u := by
  obtain ⟨x1, x2, x3⟩ := x
  obtain ⟨m1, m2, m3, m4⟩ := m
  have stay : ∀ {P Q : Prop}, (aq_sm (fun b => b = 4 ∨ b = 4 + 1 ∨ b = 4 + 2 ∨ b = 4 + 3) c c1) → aq_sm (mo_S 527) c1 c2 → lq_S c2 := fun {P Q} y1 y2 => h.st (fun a a0 a1 i => by rw [s2 a (by omega) i, y1 a (by omega) i]) (fun a a0 a1 i => by rw [y2 a (by unfold mo_S; omega) i, s1 a (by omega) i])
  rw [rf_vs s1 (by omega) (by omega) (by omega) (by omega), rf_vs s1 (by omega) (by omega) (by omega) (by omega), s1 (527 + 5) (by omega) t, s1 (527 + 5) (by omega) u] at m3 m4
  rw [rf_vs s1 (by omega) (by omega) (by omega) (by omega), rf_vs s1 (by omega) (by omega) (by omega) (by omega), s1 (527 + 5) (by omega) t, s1 (527 + 5) (by omega) u]
  by_cases e : wk_k s w t u
  · obtain ⟨es, ew, et, eu⟩ := id e
    obtain ⟨t1, t2, t3⟩ := h t et.1 et.2
    obtain ⟨u1, u2, u3⟩ := h u eu.1 eu.2
    rw [← t1, ← u1] at m3 m4 ⊢
    by_cases e2 : c (495 + 4 * t.toNat) 0 = c (495 + 4 * u.toNat) 0
    · have hc := wk_c (w := w) (hn t et.1 et.2).1 (hn t et.1 et.2).2 t3 t2 (by rw [e2]; exact u3) u2
      have ea : wk_a (c (495 + 4 * t.toNat) 0) (c (495 + 4 * u.toNat) 0) (su_v (495 + 4 * t.toNat) c) (su_v (495 + 4 * u.toNat) c) s w t u = wk_a (c (495 + 4 * t.toNat) 0) (c (495 + 4 * u.toNat) 0) (rf_v 527 t c) (rf_v 527 u c) s w t u := by
        unfold wk_a
        rw [if_pos e, if_pos e, if_pos e2, if_pos e2]
        exact rox_z hc.1
      refine ⟨?_, ea⟩
      rcases hc.1 with ⟨h1, h2⟩ | ⟨a, b, h1, h2, h3⟩
      · exact stay (P := True) (Q := True) (x3 (fun _ => h1)) (m4 (fun _ => h2))
      · have y1 := x2 a ⟨e, e2⟩ h1
        have y2 := m3 b ⟨e, e2⟩ h2
        refine h.up (s := s) rfl (fun q a0 a1 a2 i => by rw [s2 q (by omega) i, x1 q (by omega) i]) (fun i hi => by rw [(m1 i hi).1, (m1 i hi).2, s1 _ (by omega), s1 _ (by omega)]; exact ⟨rfl, rfl⟩) (fun i hi => by rw [(m2 i hi).1, (m2 i hi).2.1, (m2 i hi).2.2, s1 _ (by omega), s1 _ (by omega), s1 _ (by omega)]; exact ⟨rfl, rfl, rfl⟩) es.1 es.2 ?_
        have z0 : c2 (495 + 4 * s.toNat) 0 = c (495 + 4 * t.toNat) 0 := by rw [s2 _ (by omega)]; exact y1.1
        have zv : su_v (495 + 4 * s.toNat) c2 = su_v (495 + 4 * s.toNat) c1 := su_vs s2 (by omega) (by omega) (by omega) (by omega)
        exact ⟨by rw [z0, y2.1], by rw [zv]; exact sm_et (sm_es y1.2) (sm_et h3 y2.2), by rw [z0, zv]; exact sm_we (hc.2 a h1) y1.2⟩
    · refine ⟨stay (P := True) (Q := True) (x3 (fun q => absurd q.2 e2)) (m4 (fun q => absurd q.2 e2)), ?_⟩
      unfold wk_a
      rw [if_pos e, if_pos e, if_neg e2, if_neg e2]
  · refine ⟨stay (P := True) (Q := True) (x3 (fun q => absurd q.1 e)) (m4 (fun q => absurd q.1 e)), ?_⟩
    unfold wk_a
    rw [if_neg e, if_neg e]
/-- answers that are the same: sum, term, same, closed -/
theorem lq_S.sum {c c1 : aq_C} {s w : Int} (h : lq_S c) (s1 : aq_sm (fun a => a < 527) c c1) : sq_a (c (495 + 4 * s.toNat) 0) (c (495 + 4 * s.toNat) 1) s w = sq_a (c1 (527 + 5) s) (c1 (527 + 6) s) s w := by
  rw [s1 _ (by omega), s1 _ (by omega)]
  by_cases e : 0 ≤ s ∧ s < 8
  · obtain ⟨k1, k2, -⟩ := h s e.1 e.2
    have kz : c (495 + 4 * s.toNat) 1 = c (527 + 6) s := k2.1
    rw [k1, kz]
  · unfold sq_a
    rw [if_neg (fun q => e q.1), if_neg (fun q => e q.1)]
theorem lq_S.term {c c1 : aq_C} {s i w : Int} (h : lq_S c) (s1 : aq_sm (fun a => a < 527) c c1) : tq_a (su_v (495 + 4 * s.toNat) c) s i w = tq_a (rf_v 527 s c1) s i w := by
  rw [rf_vs s1 (by omega) (by omega) (by omega) (by omega)]
  by_cases e : 0 ≤ s ∧ s < 8
  · exact tq_c (h s e.1 e.2).2.1
  · unfold tq_a
    rw [if_neg (fun q => e q.1), if_neg (fun q => e q.1)]
theorem lq_S.same {c c1 : aq_C} {s t : Int} (h : lq_S c) (s1 : aq_sm (fun a => a < 527) c c1) : sv_a (c (495 + 4 * s.toNat) 0) (su_v (495 + 4 * s.toNat) c) (c (495 + 4 * t.toNat) 0) (su_v (495 + 4 * t.toNat) c) s t = sv_a (c1 (527 + 5) s) (rf_v 527 s c1) (c1 (527 + 5) t) (rf_v 527 t c1) s t := by
  rw [rf_vs s1 (by omega) (by omega) (by omega) (by omega), rf_vs s1 (by omega) (by omega) (by omega) (by omega), s1 (527 + 5) (by omega) s, s1 (527 + 5) (by omega) t]
  by_cases e : (0 ≤ s ∧ s < 8) ∧ 0 ≤ t ∧ t < 8
  · obtain ⟨k1, k2, -⟩ := h s e.1.1 e.1.2
    obtain ⟨l1, l2, -⟩ := h t e.2.1 e.2.2
    rw [k1, l1]
    exact sv_c k2 l2
  · unfold sv_a
    rw [if_neg e, if_neg e]
theorem lq_S.closed {c c1 : aq_C} {s p : Int} (h : lq_S c) (s1 : aq_sm (fun a => a < 527) c c1) : cw_a (c (495 + 4 * s.toNat) 0) (su_v (495 + 4 * s.toNat) c) s p = cw_a (c1 (527 + 5) s) (rf_v 527 s c1) s p := by
  rw [rf_vs s1 (by omega) (by omega) (by omega) (by omega), s1 (527 + 5) (by omega) s]
  by_cases e : 0 ≤ s ∧ s < 8
  · obtain ⟨k1, k2, -⟩ := h s e.1 e.2
    rw [k1]
    exact cw_c k2
  · unfold cw_a
    rw [if_neg (fun q => e q.1), if_neg (fun q => e q.1)]
def lq_fx (c d : aq_C) : Prop := aq_sm (fun a => a < 495) c d
def lq_fm (c d : aq_C) : Prop := aq_sm (fun a => a = 527 ∨ (527 + 10 ≤ a ∧ a < 527 + 24)) c d
theorem lq_S.k {c c1 c2 : aq_C} (h : lq_S c) (f1 : lq_fx c c1) (f2 : lq_fm c1 c2) : lq_S c2 := h.st (fun a a0 a1 i => by rw [f2 a (by omega) i, f1 a (by omega) i]) (fun a a0 a1 i => by rw [f2 a (by omega) i, f1 a (by omega) i])
theorem ly_w {m s : Nat} {F : aq_F} {c : aq_C} {C : am_C} {t : am_S} {A : Option am_V → Prop} (h : am_E C t (aq_Z m s F (fun a => a < 495) c (fun r d => A r ∧ cl_I d))) : am_E C t (aq_Z m s F (fun a => a < 527) c (fun r d => (A r ∧ lq_fx c d) ∧ cl_I d)) := by
  refine h.imp ?_
  rintro r h2 ⟨d, e1, e2, e3, e4⟩
  exact ⟨d, e1, aq_smi e2 (fun a h => by omega), ⟨e3, e2⟩, e4⟩
theorem lz_w {m s : Nat} {F : aq_F} {c : aq_C} {C : am_C} {t : am_S} {A : Option am_V → Prop} (h : am_E C t (aq_Z m s F (fun a => a = 527 ∨ (527 + 10 ≤ a ∧ a < 527 + 24)) c (fun r d => A r ∧ mo_I 527 d))) : am_E C t (aq_Z m s F (fun a => 527 ≤ a ∧ a < 527 + 24) c (fun r d => (A r ∧ lq_fm c d) ∧ mo_I 527 d)) := by
  refine h.imp ?_
  rintro r h2 ⟨d, e1, e2, e3, e4⟩
  exact ⟨d, e1, aq_smi e2 (fun a h => by omega), ⟨e3, e2⟩, e4⟩
theorem ly_e {m s : Nat} {F : aq_F} {c : aq_C} {C : am_C} {t : am_S} {A : Option am_V → Prop} (h : am_E C t (aq_Z m s F (fun a => a < 527) c (fun r d => A r ∧ cl_I d ∧ ∀ x i, d x i = c x i))) : am_E C t (aq_Z m s F (fun a => a < 527) c (fun r d => (A r ∧ lq_fx c d) ∧ cl_I d)) := by
  refine h.imp ?_
  rintro r h2 ⟨d, e1, e2, e3, e4, e5⟩
  exact ⟨d, e1, e2, ⟨e3, fun a _ i => e5 a i⟩, e4⟩
theorem lz_e {m s : Nat} {F : aq_F} {c : aq_C} {C : am_C} {t : am_S} {A : Option am_V → Prop} (h : am_E C t (aq_Z m s F (fun a => 527 ≤ a ∧ a < 527 + 24) c (fun r d => A r ∧ mo_I 527 d ∧ ∀ x i, d x i = c x i))) : am_E C t (aq_Z m s F (fun a => 527 ≤ a ∧ a < 527 + 24) c (fun r d => (A r ∧ lq_fm c d) ∧ mo_I 527 d)) := by
  refine h.imp ?_
  rintro r h2 ⟨d, e1, e2, e3, e4, e5⟩
  exact ⟨d, e1, e2, ⟨e3, fun a _ i => e5 a i⟩, e4⟩
theorem lz_c {m s : Nat} {F : aq_F} {c : aq_C} {C : am_C} {t : am_S} {A : Option am_V → Prop} (h : am_E C t (aq_Z m s F (fun a => 527 ≤ a ∧ a < 527 + 24) c (fun r d => A r ∧ mo_I 527 d ∧ aq_sm (fun a => a = 527 + 13) c d))) : am_E C t (aq_Z m s F (fun a => 527 ≤ a ∧ a < 527 + 24) c (fun r d => (A r ∧ lq_fm c d) ∧ mo_I 527 d)) := by
  refine h.imp ?_
  rintro r h2 ⟨d, e1, e2, e3, e4, e5⟩
  exact ⟨d, e1, e2, ⟨e3, aq_smi e5 (fun a h => by omega)⟩, e4⟩
theorem ly_r {m s : Nat} {F : aq_F} {c : aq_C} {C : am_C} {t : am_S} {A : Option am_V → Prop} {B : aq_C → Prop} (h : am_E C t (aq_Z m s F (fun a => a < 527) c (fun r d => A r ∧ cl_I d ∧ B d))) : am_E C t (aq_Z m s F (fun a => a < 527) c (fun r d => (A r ∧ B d) ∧ cl_I d)) := by
  refine h.imp ?_
  rintro r h2 ⟨d, e1, e2, e3, e4, e5⟩
  exact ⟨d, e1, e2, ⟨e3, e5⟩, e4⟩
theorem lz_r {m s : Nat} {F : aq_F} {c : aq_C} {C : am_C} {t : am_S} {A : Option am_V → Prop} {B : aq_C → Prop} (h : am_E C t (aq_Z m s F (fun a => 527 ≤ a ∧ a < 527 + 24) c (fun r d => A r ∧ mo_I 527 d ∧ B d))) : am_E C t (aq_Z m s F (fun a => 527 ≤ a ∧ a < 527 + 24) c (fun r d => (A r ∧ B d) ∧ mo_I 527 d)) := by
  refine h.imp ?_
  rintro r h2 ⟨d, e1, e2, e3, e4, e5⟩
  exact ⟨d, e1, e2, ⟨e3, e5⟩, e4⟩
/-- row, cross, back: an answer, and no sum changes -/
theorem ly_row {m s : Nat} {F : aq_F} {c : aq_C} (hC : sb_C m F) (hI : cl_I c) {l : Int} : am_E ac_X4_row (0, [vR 0, vI l], [], aq_h m s F c) (aq_Z m s F (fun a => a < 495) c (fun r d => aq_vi r ∧ cl_I d)) := by
  refine (qf_X4_row hC hI).imp ?_
  rintro r h2 ⟨d, e1, e2, e3, e4⟩
  refine ⟨d, e1, e2, ?_, e3⟩
  rcases e4 with ⟨_, _, q, _⟩ | ⟨_, q, _⟩ <;> exact ⟨_, q⟩
theorem lz_row {m s : Nat} {F : aq_F} {c : aq_C} {y : Nat} (hC : mo_C m F y) (hI : mo_I y c) {l : Int} : am_E ac_X5_row (0, [vR y, vI l], [], aq_h m s F c) (aq_Z m s F (fun a => a = y ∨ (y + 10 ≤ a ∧ a < y + 24)) c (fun r d => aq_vi r ∧ mo_I y d)) := by
  refine (qg_X5_row hC hI).imp ?_
  rintro r h2 ⟨d, e1, e2, e3, e4⟩
  refine ⟨d, e1, e2, ?_, e3⟩
  rcases e4 with ⟨_, _, q, _⟩ | ⟨_, q, _⟩ <;> exact ⟨_, q⟩
theorem ly_cross {m s : Nat} {F : aq_F} {c : aq_C} (hC : sb_C m F) (hI : cl_I c) {l : Int} : am_E ac_X4_cross (0, [vR 0, vI l], [], aq_h m s F c) (aq_Z m s F (fun a => a < 495) c (fun r d => aq_vi r ∧ cl_I d)) := by
  refine (qf_X4_cross hC hI).imp ?_
  rintro r h2 ⟨d, e1, e2, e3, e4⟩
  refine ⟨d, e1, e2, ?_, e3⟩
  rcases e4 with ⟨_, q, _⟩ | ⟨_, _, q, _⟩ | ⟨_, _, q, _⟩ <;> exact ⟨_, q⟩
theorem lz_cross {m s : Nat} {F : aq_F} {c : aq_C} {y : Nat} (hC : mo_C m F y) (hI : mo_I y c) {l : Int} (hr : am_r32 l) : am_E ac_X5_cross (0, [vR y, vI l, vU], [], aq_h m s F c) (aq_Z m s F (fun a => a = y ∨ (y + 10 ≤ a ∧ a < y + 24)) c (fun r d => aq_vi r ∧ mo_I y d)) := by
  refine (qg_X5_cross hC hI (by have := hr.1; omega) (by have := hr.2; omega)).imp ?_
  rintro r h2 ⟨d, e1, e2, e3, e4⟩
  refine ⟨d, e1, e2, ?_, e3⟩
  rcases e4 with ⟨_, q, _⟩ | ⟨_, _, q, _⟩ | ⟨_, _, q, _⟩ <;> exact ⟨_, q⟩
theorem ly_back {m s : Nat} {F : aq_F} {c : aq_C} (hC : sb_C m F) (hI : cl_I c) : am_E ac_X4_back (0, [vR 0], [], aq_h m s F c) (aq_Z m s F (fun a => a < 495) c (fun r d => aq_vi r ∧ cl_I d)) := by
  refine (qf_X4_back hC hI).imp ?_
  rintro r h2 ⟨d, e1, e2, e3, e4⟩
  refine ⟨d, e1, e2, ?_, e3⟩
  rcases e4 with ⟨_, q, _⟩ | ⟨_, q, _⟩ <;> exact ⟨_, q⟩
theorem lz_back {m s : Nat} {F : aq_F} {c : aq_C} {y : Nat} (hC : mo_C m F y) (hI : mo_I y c) : am_E ac_X5_back (0, [vR y], [], aq_h m s F c) (aq_Z m s F (fun a => a = y ∨ (y + 10 ≤ a ∧ a < y + 24)) c (fun r d => aq_vi r ∧ mo_I y d)) := by
  refine (qg_X5_back hC hI).imp ?_
  rintro r h2 ⟨d, e1, e2, e3, e4⟩
  refine ⟨d, e1, e2, ?_, e3⟩
  rcases e4 with ⟨_, q, _⟩ | ⟨_, q, _⟩ <;> exact ⟨_, q⟩
