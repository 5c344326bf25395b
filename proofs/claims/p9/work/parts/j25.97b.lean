
theorem sx_0 {o n K f : Nat} {v : Int} {c c1 c2 : aq_C} (h1 : 1 ≤ n) (h4 : n ≤ 4) (hK : (K : Int) = bx_K (n : Int)) (hz : ∀ i, 0 ≤ i → i < (K : Int) → c (o + 3 + K) i = -1) (hf : f ≠ o + 3 + K) (hv : v = fd_ (n : Int) 0) (e1 : aq_u c f 0 v = c1) (e2 : aq_u c1 (o + 3 + K) (c1 f 0) 0 = c2) : bx_sx o n K f 1 c2 := by
  have t0 := tb_0 n (by omega) h1
  have ev : c1 f 0 = v := by rw [← e1, aq_us]
  rw [ev] at e2
  refine ⟨fun j j0 j1 => ?_, fun b b0 bK => ?_⟩
  · have ej : j = 0 := by omega
    rw [ej, ← e2, aq_un (Or.inl hf), ev, hv]
  · have tb := tb_A_a (n := (n : Int)) (x := b) (by omega) (by omega) b0 (by omega)
    by_cases eb : b = v
    · have e5 : ix_ (n : Int) b = 0 := by
        rw [eb, hv]
        exact (tb_A_a (n := (n : Int)) (x := 0) (by omega) (by omega) (by omega) (by omega)).2.2.1.2.2
      have e6 : ln_ (n : Int) b = 0 := by rw [eb, hv]; exact t0.2.1
      exact ⟨fun _ => ⟨by rw [← e2, eb, aq_us, ← eb, e6], fun i i0 i1 => absurd i1 (by omega)⟩, fun q => absurd q (by omega)⟩
    · have e5 : ix_ (n : Int) b ≠ 0 := fun q => eb (by have := tb.2.1.2.2; rw [q] at this; rw [hv]; exact this.symm)
      have := tb.2.1.1
      refine ⟨fun q => absurd q (by omega), fun _ => ?_⟩
      rw [← e2, aq_un (Or.inr eb), ← e1, aq_un (Or.inl (Ne.symm hf))]
      exact hz b b0 bK

theorem qz_spellAll {m s : Nat} {F : aq_F} {c : aq_C} {o n K : Nat} (hB : bx_0 m F o n K) (hKn : (K : Int) = bx_K (n : Int)) (hK1 : 1 ≤ K) (hL : F (o + 3 + K) = (0, K, fun _ => .inl 0)) (hGg : F (o + 4 + K) = (3, K, fun j => aq_g K j (o + 5 + K + j))) (hGr : ∀ b, b < K → F (o + 5 + K + b) = (0, 6, fun _ => .inl 0)) {tN : Int → Int → Int} (hNg : F (o + 5 + 2 * K) = (3, K, fun j => aq_g K j (o + 6 + 2 * K + j))) (hNr : ∀ b, b < K → F (o + 6 + 2 * K + b) = (0, 2 * n - 2, fun j => .inr (vI (tN (b : Int) (j : Int))))) (hNt : ∀ b k : Int, 0 ≤ b → b < (K : Int) → 0 ≤ k → k < 2 * (n : Int) - 2 → tN b k = bn_ (n : Int) b k) (hr : aq_rg (o + 6 + 3 * K) (2 * (n : Int)) 0 (2 * (n : Int)) c) : am_E ac_X0_spellAll (0, [vR o, vU, vU, vU, vU, vU], [], aq_h m s F c) (fun r h2 => ∃ (s2 : Nat) (F2 : aq_F) (d : aq_C), r = none ∧ h2 = aq_h (m + 1) s2 F2 d ∧ s2 = s + K ∧ (∀ a, a ≠ m → F2 a = F a) ∧ aq_sm (fun a => a = o + 6 + 3 * K ∨ a = o + 7 + 3 * K ∨ a = o + 3 + K ∨ (o + 5 + K ≤ a ∧ a < o + 5 + K + K) ∨ a = m) c d ∧ aq_rg (o + 6 + 3 * K) (2 * (n : Int)) 0 (2 * (n : Int)) d ∧ bx_sx o n K m (K : Int) d) := by
  obtain ⟨hm, hn1, hn4, hK, hFo, hFd, hFs⟩ := hB
  refine am_E.go (t2 := (1, [vR o, vU, vU, vU, vU, vU], [vI 0], aq_h m s F c)) rfl rfl ?_
  refine am_E.go (t2 := (2, [vR o, vI 0, vU, vU, vU, vU], [], aq_h m s F c)) rfl rfl ?_
  refine qb_spell_u (S := (fun a => a = o + 6 + 3 * K ∨ a = o + 7 + 3 * K ∨ a = o + 3 + K ∨ (o + 5 + K ≤ a ∧ a < o + 5 + K + K) ∨ a = m)) ⟨hm, hn1, hn4, hK, hFo, hFd, hFs⟩ (by omega) (by omega) hL (by omega) 106 0 c (aq_sm0 (c := c)) (by omega) (by omega) hr (fun i h1 h2 => absurd h2 (by omega)) (by omega) ?_
  intro b1 c1 s1 hr1 hz1
  refine am_E.go (t2 := (24, [vR o, vI b1, vU, vU, vU, vU], [vR o], aq_h m s F c1)) rfl rfl ?_
  refine aq_gf (v := vI (K : Int)) rfl (by omega) hFo (by decide) rfl ?_
  refine aq_nwa (n := K) (a := m) (m2 := m + 1) rfl (by decide) rfl (by omega) rfl rfl ?_
  intro s2 F2 c2 es e1 e2 e3 e4
  have hB2 : bx_0 (m + 1) F2 o n K := bx_0m ⟨hm, hn1, hn4, hK, hFo, hFd, hFs⟩ (fun a ha => e2 a (by omega)) (by omega)
  have hL2 : F2 (o + 3 + K) = (0, K, fun _ => .inl 0) := by rw [e2 _ (by omega)]; exact hL
  have hGg2 : F2 (o + 4 + K) = (3, K, fun j => aq_g K j (o + 5 + K + j)) := by rw [e2 _ (by omega)]; exact hGg
  have hGr2 : ∀ b, b < K → F2 (o + 5 + K + b) = (0, 6, fun _ => .inl 0) := fun b hb => by rw [e2 _ (by omega)]; exact hGr b hb
  have hNg2 : F2 (o + 5 + 2 * K) = (3, K, fun j => aq_g K j (o + 6 + 2 * K + j)) := by rw [e2 _ (by omega)]; exact hNg
  have hNr2 : ∀ b, b < K → F2 (o + 6 + 2 * K + b) = (0, 2 * n - 2, fun j => .inr (vI (tN (b : Int) (j : Int)))) := fun b hb => by rw [e2 _ (by omega)]; exact hNr b hb
  have hr2 : aq_rg (o + 6 + 3 * K) (2 * (n : Int)) 0 (2 * (n : Int)) c2 := fun i i0 i1 => by rw [e4 _ (by omega)]; exact hr1 i i0 i1
  have hz2 : ∀ i, 0 ≤ i → i < (K : Int) → c2 (o + 3 + K) i = -1 := fun i i0 i1 => by rw [e4 _ (by omega)]; exact hz1 i i0 i1
  have t0 := tb_0 n (by omega) hn1
  have tA0 := (tb_A_a (n := (n : Int)) (x := 0) (by omega) (by omega) (by omega) (by omega)).2.2.1
  refine am_E.imp (Z := aq_Z (m + 1) s2 F2 (fun a => a = o + 6 + 3 * K ∨ a = o + 7 + 3 * K ∨ a = o + 3 + K ∨ (o + 5 + K ≤ a ∧ a < o + 5 + K + K) ∨ a = m) c2 (fun r d => r = none ∧ aq_rg (o + 6 + 3 * K) (2 * (n : Int)) 0 (2 * (n : Int)) d ∧ bx_sx o n K m (K : Int) d)) ?_ ?_
  · obtain ⟨hm, hn1, hn4, hK, hFo, hFd, hFs⟩ := hB2
    show am_E _ (29, [vR o, vI b1, vU, vU, vU, vU], [vR m], aq_h (m + 1) s2 F2 c2) _
    refine am_E.go (t2 := (30, [vR o, vR m, vU, vU, vU, vU], [], aq_h (m + 1) s2 F2 c2)) rfl rfl ?_
    refine am_E.go (t2 := (31, [vR o, vR m, vU, vU, vU, vU], [vR m], aq_h (m + 1) s2 F2 c2)) rfl rfl ?_
    refine am_E.go (t2 := (32, [vR o, vR m, vU, vU, vU, vU], [vI 0, vR m], aq_h (m + 1) s2 F2 c2)) rfl rfl ?_
    refine am_E.go (t2 := (33, [vR o, vR m, vU, vU, vU, vU], [vR o, vI 0, vR m], aq_h (m + 1) s2 F2 c2)) rfl rfl ?_
    refine am_E.go (t2 := (34, [vR o, vR m, vU, vU, vU, vU], [vI 0, vR o, vI 0, vR m], aq_h (m + 1) s2 F2 c2)) rfl rfl ?_
    refine aq_callv (y := 2) (as2 := [vI 0]) (rest := [vI 0, vR m]) rfl rfl (by decide) (Nat.le_of_ble_eq_true rfl) rfl rfl (Nat.le_of_ble_eq_true rfl) (by omega) hFo rfl (Nat.le_of_ble_eq_true rfl) (qz_ofLetter ⟨hm, hn1, hn4, hK, hFo, hFd, hFs⟩ (Or.inl rfl) hr2) ?_
    rintro r5 h5 ⟨c_51, rfl, sc_51, hrc_51, rfl⟩
    show am_E _ (37, [vR o, vR m, vU, vU, vU, vU], [vI (nu_o (bx_ol n 0) (2 * (n : Int)) 9 0 0 (2 * (n : Int) - 1)), vI 0, vR m], aq_h (m + 1) s2 F2 c_51) _
    refine aq_as (kd := 0) rfl rfl (by omega) e1 (by omega) (by omega) rfl rfl ?_
    show am_E _ (38, [vR o, vR m, vU, vU, vU, vU], [], aq_h (m + 1) s2 F2 (aq_u c_51 m 0 (nu_o (bx_ol n 0) (2 * (n : Int)) 9 0 0 (2 * (n : Int) - 1)))) _
    generalize hdc_52 : aq_u c_51 m 0 (nu_o (bx_ol n 0) (2 * (n : Int)) 9 0 0 (2 * (n : Int) - 1)) = c_52
    have sc_52 := aq_smu (aq_smt (aq_sm0 (c := c2) (S := (fun a => a = o + 6 + 3 * K ∨ a = o + 7 + 3 * K ∨ a = o + 3 + K ∨ (o + 5 + K ≤ a ∧ a < o + 5 + K + K) ∨ a = m))) (aq_smi sc_51 (fun a h => by omega))) hdc_52 (by omega)
    have hdrc_52 := aq_rgn hrc_51 hdc_52 (by omega)
    refine am_E.go (t2 := (39, [vR o, vR m, vU, vU, vU, vU], [vR o], aq_h (m + 1) s2 F2 c_52)) rfl rfl ?_
    refine aq_gf (v := vR (o + 3 + K)) rfl (by omega) hFo (by decide) rfl ?_
    show am_E _ (42, [vR o, vR m, vU, vU, vU, vU], [vR (o + 3 + K)], aq_h (m + 1) s2 F2 c_52) _
    refine am_E.go (t2 := (43, [vR o, vR m, vU, vU, vU, vU], [vR m, vR (o + 3 + K)], aq_h (m + 1) s2 F2 c_52)) rfl rfl ?_
    refine am_E.go (t2 := (44, [vR o, vR m, vU, vU, vU, vU], [vI 0, vR m, vR (o + 3 + K)], aq_h (m + 1) s2 F2 c_52)) rfl rfl ?_
    refine aq_al (ok := fun k => k == 0) (v := vI (c_52 m 0)) rfl rfl (by omega) e1 rfl (by omega) (by omega) rfl ?_
    show am_E _ (45, [vR o, vR m, vU, vU, vU, vU], [vI (c_52 m 0), vR (o + 3 + K)], aq_h (m + 1) s2 F2 c_52) _
    have f_53 : c_52 m 0 = nu_o (bx_ol n 0) (2 * (n : Int)) 9 0 0 (2 * (n : Int) - 1) := by rw [← hdc_52, aq_us]
    refine am_E.go (t2 := (46, [vR o, vR m, vU, vU, vU, vU], [vI 0, vI (c_52 m 0), vR (o + 3 + K)], aq_h (m + 1) s2 F2 c_52)) rfl rfl ?_
    refine aq_as (kd := 0) rfl rfl (by omega) hL2 (by omega) (by omega) rfl rfl ?_
    show am_E _ (47, [vR o, vR m, vU, vU, vU, vU], [], aq_h (m + 1) s2 F2 (aq_u c_52 (o + 3 + K) (c_52 m 0) 0)) _
    generalize hdc_54 : aq_u c_52 (o + 3 + K) (c_52 m 0) 0 = c_54
    have sc_54 := aq_smu sc_52 hdc_54 (by omega)
    have hdrc_54 := aq_rgn hdrc_52 hdc_54 (by omega)
    refine am_E.go (t2 := (48, [vR o, vR m, vU, vU, vU, vU], [vI 1], aq_h (m + 1) s2 F2 c_54)) rfl rfl ?_
    refine am_E.go (t2 := (49, [vR o, vR m, vI 1, vU, vU, vU], [], aq_h (m + 1) s2 F2 c_54)) rfl rfl ?_
    refine am_E.go (t2 := (50, [vR o, vR m, vI 1, vU, vU, vU], [vI 0], aq_h (m + 1) s2 F2 c_54)) rfl rfl ?_
    refine am_E.go (t2 := (51, [vR o, vR m, vI 1, vI 0, vU, vU], [], aq_h (m + 1) s2 F2 c_54)) rfl rfl ?_
    exact qz_spell_o (S := (fun a => a = o + 6 + 3 * K ∨ a = o + 7 + 3 * K ∨ a = o + 3 + K ∨ (o + 5 + K ≤ a ∧ a < o + 5 + K + K) ∨ a = m)) ⟨hm, hn1, hn4, hK, hFo, hFd, hFs⟩ (by omega) (by omega) hL2 hGg2 hGr2 (by omega) (fun b hb => by omega) hNg2 hNr2 hNt hKn (f := m) (by omega) e1 (by omega) (by omega) 106 1 0 (vU) (vU) c_54 sc_54 (by omega) (by omega) (by omega) hdrc_54 t0.2.2.symm (sx_0 hn1 hn4 hKn (fun i i0 i1 => by rw [sc_51 _ (by omega)]; exact hz2 i i0 i1) (by omega) t0.1.symm hdc_52 hdc_54) (by omega)
  · rintro r h2 ⟨d, rfl, g2, rfl, g4, g5⟩
    refine ⟨s2, F2, d, rfl, rfl, es, e2, fun a ha i => ?_, g4, g5⟩
    rw [g2 a ha i, e4 a (by omega) i]
    exact s1 a ha i
def bx_Z (o n K sT : Nat) (F : aq_F) (c : aq_C) : Option am_V → am_H → Prop := fun r h2 => ∃ (s2 : Nat) (F2 : aq_F) (c2 : aq_C), r = none ∧ h2 = aq_h (o + 10 + 3 * K) s2 F2 c2 ∧ s2 ≤ sT ∧ sb_B (o + 10 + 3 * K) F2 o n K ∧ (∀ b, b < o → F2 b = F b) ∧ (∀ b, b < o → ∀ j, c2 b j = c b j) ∧ aq_rg (o + 6 + 3 * K) (2 * (n : Int)) 0 (2 * (n : Int)) c2
theorem qb_ini1 {m s : Nat} {F : aq_F} {c : aq_C} {o n K : Nat} {tP : Int → Int → Int} (hm : m = o + 9 + 3 * K) (h1 : 1 ≤ n) (h4 : n ≤ 4) (hK : (K : Int) = bx_K (n : Int)) (hB : bx_0 m F o n K) (hP : bx_p F o n K tP) (hfi : ∀ x : Int, 0 ≤ x → x < (K : Int) → fi (n : Int) (tP ((x.toNat : Nat) : Int)))
    (hR : F (o + 2 + K) = (0, K, fun _ => .inl 0)) (hL : F (o + 3 + K) = (0, K, fun _ => .inl 0)) (hGg : F (o + 4 + K) = (3, K, fun j => aq_g K j (o + 5 + K + j))) (hGr : ∀ b, b < K → F (o + 5 + K + b) = (0, 6, fun _ => .inl 0)) (hNg : F (o + 5 + 2 * K) = (3, K, fun j => aq_g K j (o + 6 + 2 * K + j))) (hNr : ∀ b, b < K → F (o + 6 + 2 * K + b) = (0, 2 * n - 2, fun _ => .inl 0))
    (hz : ∀ b, o + 2 + K ≤ b → b < o + 7 + 3 * K → ∀ j, c b j = 0) : am_E ac_X0_init (128, [vR o, vI (n : Int), vI 0], [], aq_h m s F c) (bx_Z o n K (s + K) F c) := by
  have hKb := bx_K105 h1 h4 hK
  refine qz_rings_l (S := fun a => a = o + 6 + 3 * K ∨ a = o + 7 + 3 * K ∨ a = o + 2 + K) hB (Or.inl rfl) (Or.inr (Or.inl rfl)) hP hR (Or.inr (Or.inr rfl)) hK 106 0 c (aq_sm0 (c := c)) (by omega) (by omega) (fun i i0 i1 => by rw [hz _ (by omega) (by omega)]; omega) (fun i i0 i1 => absurd i1 (by omega)) (by omega) ?_
  intro b1 c1 s1 r1 g1
  have hFo := hB.2.2.2.2.1
  refine am_E.go (t2 := (159, [vR o, vI (n : Int), vI b1], [vR o], aq_h m s F c1)) rfl rfl ?_
  refine aq_callv (y := 1) (as2 := []) (rest := []) rfl rfl (by decide) (Nat.le_of_ble_eq_true rfl) rfl rfl (Nat.le_of_ble_eq_true rfl) (by omega) hFo rfl (Nat.le_of_ble_eq_true rfl) (qz_stackLetters (S := fun a => a = o + 6 + 3 * K ∨ a = o + 7 + 3 * K ∨ (o + 6 + 2 * K ≤ a ∧ a < o + 6 + 3 * K)) hB (Or.inl rfl) (Or.inr (Or.inl rfl)) hP hNg hNr (fun b hb => Or.inr (Or.inr (by omega))) hK hfi r1) ?_
  rintro r5 h5 ⟨c2, rfl, s2, rfl, r2, n2⟩
  show am_E _ (162, [vR o, vI (n : Int), vI b1], [], aq_h m s F c2) _
  have g2 : ∀ i, 0 ≤ i → i < (K : Int) → c2 (o + 2 + K) i = rg_ (n : Int) i := fun i i0 i1 => by rw [s2 _ (by omega)]; exact g1 i i0 i1
  have n3 : ∀ b k : Int, 0 ≤ b → b < (K : Int) → 0 ≤ k → k < 2 * (n : Int) - 2 → c2 (o + 6 + 2 * K + b.toNat) k = bn_ (n : Int) b k := fun b k b0 b1 k0 k1 => by
    have rl := lb_r (n := (n : Int)) (k := k) (by omega) (by omega) k0 k1
    rw [n2 b k b0 b1 k0 k1]
    refine bn_e (by omega) (by omega) b0 (by omega) k0 k1 (fun i i0 i1 => ?_) (fun i i0 i1 => ?_)
    · rw [Int.toNat_of_nonneg b0]
      exact (hP.2.2 b i b0 b1 i0 i1).2.2
    · rw [Int.toNat_of_nonneg rl.1]
      exact (hP.2.2 (lb_ (n : Int) k) i rl.1 (by omega) i0 i1).2.2
  have f0 : ∀ a, (a = o + 2 + K ∨ (o + 6 + 2 * K ≤ a ∧ a < o + 6 + 3 * K)) → ∃ w, F a = (0, w, fun _ => .inl 0) := by
    intro a ha
    rcases ha with ha | ha
    · exact ⟨K, by rw [ha]; exact hR⟩
    · have := hNr (a - (o + 6 + 2 * K)) (by omega)
      rw [show o + 6 + 2 * K + (a - (o + 6 + 2 * K)) = a by omega] at this
      exact ⟨_, this⟩
  rw [aq_fzh f0]
  have y1 : ∀ a, ¬ (a = o + 2 + K ∨ (o + 6 + 2 * K ≤ a ∧ a < o + 6 + 3 * K)) → aq_fz (fun a => a = o + 2 + K ∨ (o + 6 + 2 * K ≤ a ∧ a < o + 6 + 3 * K)) F c2 a = F a := fun a ha => aq_fzn ha
  have y2 : aq_fz (fun a => a = o + 2 + K ∨ (o + 6 + 2 * K ≤ a ∧ a < o + 6 + 3 * K)) F c2 (o + 2 + K) = (0, K, fun j => .inr (vI (c2 (o + 2 + K) (j : Int)))) := aq_fzy (Or.inl rfl) hR
  have y3 : ∀ b, b < K → aq_fz (fun a => a = o + 2 + K ∨ (o + 6 + 2 * K ≤ a ∧ a < o + 6 + 3 * K)) F c2 (o + 6 + 2 * K + b) = (0, 2 * n - 2, fun j => .inr (vI (c2 (o + 6 + 2 * K + ((b : Int)).toNat) (j : Int)))) := fun b hb => by
    rw [Int.toNat_natCast]
    exact aq_fzy (Or.inr (by omega)) (hNr b hb)
  generalize aq_fz (fun a => a = o + 2 + K ∨ (o + 6 + 2 * K ≤ a ∧ a < o + 6 + 3 * K)) F c2 = F3 at y1 y2 y3 ⊢
  have hB3 : bx_0 m F3 o n K := by
    obtain ⟨k1, k2, k3, k4, k5, k6, k7⟩ := hB
    exact ⟨k1, k2, k3, k4, by rw [y1 _ (by omega)]; exact k5, by rw [y1 _ (by omega)]; exact k6, by rw [y1 _ (by omega)]; exact k7⟩
  have hP3 : bx_p F3 o n K tP := ⟨by rw [y1 _ (by omega)]; exact hP.1, fun b hb => by rw [y1 _ (by omega)]; exact hP.2.1 b hb, hP.2.2⟩
  have hNt3 : ∀ b k : Int, 0 ≤ b → b < (K : Int) → 0 ≤ k → k < 2 * (n : Int) - 2 → 0 ≤ c2 (o + 6 + 2 * K + b.toNat) k ∧ c2 (o + 6 + 2 * K + b.toNat) k < 5000 ∧ c2 (o + 6 + 2 * K + b.toNat) k % 1000 < (K : Int) := fun b k b0 b1 k0 k1 => by
    have := (tb_N_a (n := (n : Int)) (x := b) (k := k) (by omega) (by omega) b0 (by omega) k0 (by omega)) k1
    rw [n3 b k b0 b1 k0 k1, hK]
    exact this
  refine am_E.go (t2 := (163, [vR o, vI (n : Int), vI b1], [vR o], aq_h m s F3 c2)) rfl rfl ?_
  refine aq_callv (y := 1) (as2 := []) (rest := []) rfl rfl (by decide) (Nat.le_of_ble_eq_true rfl) rfl rfl (Nat.le_of_ble_eq_true rfl) (by omega) hB3.2.2.2.2.1 rfl (Nat.le_of_ble_eq_true rfl) (qz_spellAll hB3 hK hKb.1 (by rw [y1 _ (by omega)]; exact hL) (by rw [y1 _ (by omega)]; exact hGg) (fun b hb => by rw [y1 _ (by omega)]; exact hGr b hb) (tN := fun b k => c2 (o + 6 + 2 * K + b.toNat) k) (by rw [y1 _ (by omega)]; exact hNg) y3 n3 r2) ?_
  rintro r6 h6 ⟨s4, F4, c4, rfl, rfl, es, y4, s5, r4, sx⟩
  have sl : ∀ b : Int, 0 ≤ b → b < (K : Int) → c4 (o + 3 + K) b = ln_ (n : Int) b ∧ (0 ≤ ln_ (n : Int) b ∧ ln_ (n : Int) b ≤ 6) ∧ ∀ i, 0 ≤ i → i < ln_ (n : Int) b → c4 (o + 5 + K + b.toNat) i = sp_ (n : Int) b i := fun b b0 b1 => by
    have tA := tb_A_a (n := (n : Int)) (x := b) (by omega) (by omega) b0 (by omega)
    have k := (sx.2 b b0 b1).1 (by have := tA.2.1.2.1; omega)
    exact ⟨k.1, tA.1, k.2⟩
  show am_E _ (166, [vR o, vI (n : Int), vI b1], [], aq_h (m + 1) s4 F4 c4) _
  have f4 : ∀ a, (a = o + 3 + K ∨ (o + 5 + K ≤ a ∧ a < o + 5 + 2 * K)) → ∃ w, F4 a = (0, w, fun _ => .inl 0) := by
    intro a ha
    rcases ha with ha | ha
    · exact ⟨K, by rw [ha, y4 _ (by omega), y1 _ (by omega)]; exact hL⟩
    · have := hGr (a - (o + 5 + K)) (by omega)
      rw [show o + 5 + K + (a - (o + 5 + K)) = a by omega] at this
      exact ⟨_, by rw [y4 _ (by omega), y1 _ (by omega)]; exact this⟩
  rw [aq_fzh f4]
  have z1 : ∀ a, ¬ (a = o + 3 + K ∨ (o + 5 + K ≤ a ∧ a < o + 5 + 2 * K)) → aq_fz (fun a => a = o + 3 + K ∨ (o + 5 + K ≤ a ∧ a < o + 5 + 2 * K)) F4 c4 a = F4 a := fun a ha => aq_fzn ha
  have z2 : aq_fz (fun a => a = o + 3 + K ∨ (o + 5 + K ≤ a ∧ a < o + 5 + 2 * K)) F4 c4 (o + 3 + K) = (0, K, fun j => .inr (vI (c4 (o + 3 + K) (j : Int)))) := aq_fzy (Or.inl rfl) (by rw [y4 _ (by omega), y1 _ (by omega)]; exact hL)
  have z3 : ∀ b, b < K → aq_fz (fun a => a = o + 3 + K ∨ (o + 5 + K ≤ a ∧ a < o + 5 + 2 * K)) F4 c4 (o + 5 + K + b) = (0, 6, fun j => .inr (vI (c4 (o + 5 + K + ((b : Int)).toNat) (j : Int)))) := fun b hb => by
    rw [Int.toNat_natCast]
    exact aq_fzy (Or.inr (by omega)) (by rw [y4 _ (by omega), y1 _ (by omega)]; exact hGr b hb)
  generalize aq_fz (fun a => a = o + 3 + K ∨ (o + 5 + K ≤ a ∧ a < o + 5 + 2 * K)) F4 c4 = F5 at z1 z2 z3 ⊢
  have hF5 : ∀ a, a ≠ m → ¬ (a = o + 3 + K ∨ (o + 5 + K ≤ a ∧ a < o + 5 + 2 * K)) → F5 a = F3 a := fun a ha1 ha2 => by rw [z1 a ha2, y4 a ha1]
  refine am_E.ret rfl rfl ⟨s4, F5, c4, rfl, ?_, by omega, ⟨tP, fun b i => c4 (o + 5 + K + b.toNat) i, fun b k => c2 (o + 6 + 2 * K + b.toNat) k, fun i => c2 (o + 2 + K) i, fun i => c4 (o + 3 + K) i, ?_, ?_, ⟨z2, ?_, z3, ?_, fun b hb => ?_, fun b b0 b1 => ?_, fun b i b0 b1 i0 i1 => ?_, hNt3⟩, ⟨?_, fun b b0 b1 => ?_⟩, ?_, ⟨fun b b0 b1 => ⟨g2 b b0 b1, (sl b b0 b1).1⟩, fun b i b0 b1 i0 i1 => (sl b b0 b1).2.2 i i0 i1, n3⟩⟩, fun b hb => ?_, fun b hb j => ?_, r4⟩
  · rw [show o + 10 + 3 * K = m + 1 by omega]
  · obtain ⟨k1, k2, k3, k4, k5, k6, k7⟩ := hB3
    exact ⟨by omega, k2, k3, k4, by rw [hF5 _ (by omega) (by omega)]; exact k5, by rw [hF5 _ (by omega) (by omega)]; exact k6, by rw [hF5 _ (by omega) (by omega)]; exact k7⟩
  · exact ⟨by rw [hF5 _ (by omega) (by omega)]; exact hP3.1, fun b hb => by rw [hF5 _ (by omega) (by omega)]; exact hP3.2.1 b hb, hP3.2.2⟩
  · rw [hF5 _ (by omega) (by omega), y1 _ (by omega)]
    exact hGg
  · rw [hF5 _ (by omega) (by omega), y1 _ (by omega)]
    exact hNg
  · rw [hF5 _ (by omega) (by omega)]
    exact y3 b hb
  · have := sl b b0 b1
    show -1 ≤ c4 (o + 3 + K) b ∧ c4 (o + 3 + K) b ≤ 6
    omega
  · have k1 := sl b b0 b1
    have k2 : i < ln_ (n : Int) b := by rw [← k1.1]; exact i1
    have k3 := (tb_S_a (n := (n : Int)) (x := b) (k := i) (by omega) (by omega) b0 (by omega) i0 (by omega)) k2
    show 0 ≤ c4 (o + 5 + K + b.toNat) i ∧ c4 (o + 5 + K + b.toNat) i < 2 * (n : Int) - 2
    rw [k1.2.2 i i0 k2]
    exact k3
  · rw [hF5 _ (by omega) (by omega)]
    exact y2
  · have := g2 b b0 b1
    have tA := (tb_A_a (n := (n : Int)) (x := b) (by omega) (by omega) b0 (by omega)).2.2.2
    show 0 ≤ c2 (o + 2 + K) b ∧ c2 (o + 2 + K) b ≤ 8
    omega
  · have := ol_n (l := 0) h1 h4 (Or.inl rfl)
    rw [← hK] at this
    exact this
  · rw [hF5 _ (by omega) (by omega), y1 _ (by omega)]
  · rw [s5 _ (by omega), s2 _ (by omega), s1 _ (by omega)]
theorem qb_init {s : Nat} {F : aq_F} {c : aq_C} {o n K : Nat} (h1 : 1 ≤ n) (h4 : n ≤ 4) (hK : (K : Int) = bx_K (n : Int)) (hF : F o = (10, 11, bx_t0)) (hc : ∀ j, c o j = 0) : am_E ac_X0_init (0, [vR o, vI (n : Int), vU], [], aq_h (o + 1) s F c) (bx_Z o n K (s + 2900) F c) := by
  have hKb := bx_K105 h1 h4 hK
  refine qb_ini0 h1 h4 hK hF hc ?_
  intro s2 F2 c2 hs ⟨i1, i2, i3, i4, i5, i6, i7, i8, i9, i10, i11⟩ hb hcb hz
  have hB : bx_0 (o + 8 + 3 * K) F2 o n K := ⟨Nat.le_refl _, h1, h4, hKb.2, i1, i2, i3⟩
  refine am_E.go (t2 := (123, [vR o, vI (n : Int), vU], [vR o], aq_h (o + 8 + 3 * K) s2 F2 c2)) rfl rfl ?_
  refine aq_callv (y := 1) (as2 := []) (rest := []) rfl rfl (by decide) (Nat.le_of_ble_eq_true rfl) rfl rfl (Nat.le_of_ble_eq_true rfl) (by omega) i1 rfl (Nat.le_of_ble_eq_true rfl) (qb_listPairings hB hK i4 i5) ?_
  rintro r5 h5 ⟨s3, F3, c3, rfl, rfl, es, e2, e3, e4⟩
  show am_E _ (126, [vR o, vI (n : Int), vU], [], aq_h (o + 8 + 3 * K + 1) s3 F3 c3) _
  have f0 : ∀ a, (o + 2 ≤ a ∧ a < o + 2 + K) → ∃ w, F3 a = (0, w, fun _ => .inl 0) := by
    intro a ha
    have := i5 (a - (o + 2)) (by omega)
    rw [show o + 2 + (a - (o + 2)) = a by omega] at this
    exact ⟨_, by rw [e2 _ (by omega)]; exact this⟩
  rw [aq_fzh f0]
  have y1 : ∀ a, ¬ (o + 2 ≤ a ∧ a < o + 2 + K) → aq_fz (fun a => o + 2 ≤ a ∧ a < o + 2 + K) F3 c3 a = F3 a := fun a ha => aq_fzn ha
  have y3 : ∀ b, b < K → aq_fz (fun a => o + 2 ≤ a ∧ a < o + 2 + K) F3 c3 (o + 2 + b) = (0, 2 * n, fun j => .inr (vI (c3 (o + 2 + ((b : Int)).toNat) (j : Int)))) := fun b hb => by
    rw [Int.toNat_natCast]
    exact aq_fzy ⟨by omega, by omega⟩ (by rw [e2 _ (by omega)]; exact i5 b hb)
  generalize aq_fz (fun a => o + 2 ≤ a ∧ a < o + 2 + K) F3 c3 = F4 at y1 y3 ⊢
  have hF4 : ∀ a, a ≠ o + 8 + 3 * K → ¬ (o + 2 ≤ a ∧ a < o + 2 + K) → F4 a = F2 a := fun a ha1 ha2 => by rw [y1 a ha2, e2 a ha1]
  have hfi : ∀ x : Int, 0 ≤ x → x < (K : Int) → fi (n : Int) (fun i => c3 (o + 2 + x.toNat) i) := fun x x0 x1 => fi_c (pr_fi (by omega) (by omega) x0 (by omega)) (fun i i0 i1 => e4 x i x0 x1 i0 i1)
  refine am_E.go (t2 := (127, [vR o, vI (n : Int), vU], [vI 0], aq_h (o + 8 + 3 * K + 1) s3 F4 c3)) rfl rfl ?_
  refine am_E.go (t2 := (128, [vR o, vI (n : Int), vI 0], [], aq_h (o + 8 + 3 * K + 1) s3 F4 c3)) rfl rfl ?_
  refine am_E.imp (qb_ini1 (m := o + 8 + 3 * K + 1) (tP := fun b i => c3 (o + 2 + b.toNat) i) (by omega) h1 h4 hK ?_ ?_ (fun x x0 x1 => ?_) ?_ ?_ ?_ (fun b hb => ?_) ?_ (fun b hb => ?_) (fun b b0 b1 j => ?_)) ?_
  · exact ⟨by omega, h1, h4, hKb.2, by rw [hF4 _ (by omega) (by omega)]; exact i1, by rw [hF4 _ (by omega) (by omega)]; exact i2, by rw [hF4 _ (by omega) (by omega)]; exact i3⟩
  · refine ⟨by rw [hF4 _ (by omega) (by omega)]; exact i4, y3, fun b p b0 b1 p0 p1 => ?_⟩
    have := hfi b b0 b1 p p0 p1
    exact ⟨this.1, this.2.1, e4 b p b0 b1 p0 p1⟩
  · have := hfi x x0 x1
    rw [Int.toNat_natCast]
    exact this
  · rw [hF4 _ (by omega) (by omega)]; exact i6
  · rw [hF4 _ (by omega) (by omega)]; exact i7
  · rw [hF4 _ (by omega) (by omega)]; exact i8
  · rw [hF4 _ (by omega) (by omega)]; exact i9 b hb
  · rw [hF4 _ (by omega) (by omega)]; exact i10
  · rw [hF4 _ (by omega) (by omega)]; exact i11 b hb
  · rw [e3 _ (by omega)]; exact hz b (by omega) (by omega) j
  · rintro r h2 ⟨s5, F5, c5, g1, g2, g3, g4, g5, g6, g7⟩
    refine ⟨s5, F5, c5, g1, g2, by omega, g4, fun b hb5 => ?_, fun b hb5 j => ?_, g7⟩
    · rw [g5 b hb5, hF4 _ (by omega) (by omega)]; exact hb b hb5
    · rw [g6 b hb5 j, e3 _ (by omega)]; exact hcb b hb5 j

/-- nextDraft on plain numbers -/
def nd_ (n : Int) : Nat → Int → (Int → Int) → Int → Int
  | 0, _, v => v
  | d + 1, p, v => if 0 ≤ p ∧ v p = n then nd_ n d (p + -1) (fun i => if i = p then 0 else v i) else (if 0 ≤ p then (fun i => if i = p then v i + 1 else v i) else v)
/-- keepsWithin, isHalf, the left ones -/
def kw_ (f : Int → Int) (p q : Int) : Nat → Int → Int
  | 0, _ => 1
  | d + 1, r => if r < q then (if f r ≤ p ∨ q ≤ f r then 0 else kw_ f p q d (r + 1)) else 1
def hf_ (n : Int) (f : Int → Int) : Nat → Int → Int
  | 0, _ => 1
  | d + 1, p => if p < n then (if f p < n ∧ (f p = p ∨ f (f p) ≠ p) then 0 else if f p < n ∧ kw_ f p (f p) 6 (p + 1) = 0 then 0 else hf_ n f d (p + 1)) else 1
def lf_ (n : Int) (f : Int → Int) : Nat → Int → Int → Int
  | 0, _, x => x
  | d + 1, p, x => if p < n then lf_ n f d (p + 1) (x + if f p = n then 1 else 0) else x
theorem kw_b {f : Int → Int} {p q : Int} : ∀ (d : Nat) (r : Int), kw_ f p q d r = 0 ∨ kw_ f p q d r = 1
  | 0, _ => Or.inr rfl
  | d + 1, r => by
    rw [kw_]
    split
    · split
      · exact Or.inl rfl
      · exact kw_b d (r + 1)
    · exact Or.inr rfl
theorem hf_b {n : Int} {f : Int → Int} : ∀ (d : Nat) (p : Int), hf_ n f d p = 0 ∨ hf_ n f d p = 1
  | 0, _ => Or.inr rfl
  | d + 1, p => by
    rw [hf_]
    split
    · split
      · exact Or.inl rfl
      · split
        · exact Or.inl rfl
        · exact hf_b d (p + 1)
    · exact Or.inr rfl

theorem qx_keeps_l {m s : Nat} {F : aq_F} {c : aq_C} {o n : Nat} (hH : hc_0 m F o n) (hc : hc_I o n c) {p q T : Int} (hp : 0 ≤ p) (hq : q ≤ (n : Int)) : ∀ (d : Nat) (r : Int) (h0 : 0 ≤ r) (ht : kw_ (c (o + 16)) p q d r = T) (hd : max 0 (q - r) < (d : Int)), am_E ac_X2_keepsWithin (4, [vR (o + 16), vI p, vI q, vI r], [], aq_h m s F c) (aq_P m s F c (fun r => r = some (vI T)))
  | 0, r, h0, ht, hd => by exfalso; omega
  | d + 1, r, h0, ht, hd => by
    obtain ⟨hm, hn1, hn4, hFo, hFl, hFg, hFt, hFp, hFq, hFd, hFs⟩ := hH
    refine am_E.go (t2 := (5, [vR (o + 16), vI p, vI q, vI r], [vI r], aq_h m s F c)) rfl rfl ?_
    refine am_E.go (t2 := (6, [vR (o + 16), vI p, vI q, vI r], [vI q, vI r], aq_h m s F c)) rfl rfl ?_
    refine ae_icmp rfl (fun (q_1 : q ≤ r) => ?_) (fun (q_1 : r < q) => ?_)
    · refine am_E.go (t2 := (32, [vR (o + 16), vI p, vI q, vI r], [vI 1], aq_h m s F c)) rfl rfl ?_
      refine am_E.ret rfl rfl ?_
      refine ⟨rfl, ?_⟩
      rw [← ht, kw_, if_neg (by omega)]
    · refine am_E.go (t2 := (10, [vR (o + 16), vI p, vI q, vI r], [vR (o + 16)], aq_h m s F c)) rfl rfl ?_
      refine am_E.go (t2 := (11, [vR (o + 16), vI p, vI q, vI r], [vI r, vR (o + 16)], aq_h m s F c)) rfl rfl ?_
      refine aq_al (ok := fun k => k == 0) (v := vI (c (o + 16) r)) rfl rfl (by omega) hFd rfl (by omega) (by omega) rfl ?_
      show am_E _ (12, [vR (o + 16), vI p, vI q, vI r], [vI (c (o + 16) r)], aq_h m s F c) _
      have f_2 := hc.1 r (by omega) (by omega)
      refine am_E.go (t2 := (13, [vR (o + 16), vI p, vI q, vI r], [vI p, vI (c (o + 16) r)], aq_h m s F c)) rfl rfl ?_
      refine ae_icmp rfl (fun (q_3 : (c (o + 16) r) ≤ p) => ?_) (fun (q_3 : p < (c (o + 16) r)) => ?_)
      · refine am_E.go (t2 := (24, [vR (o + 16), vI p, vI q, vI r], [vI 0], aq_h m s F c)) rfl rfl ?_
        refine am_E.ret rfl rfl ?_
        refine ⟨rfl, ?_⟩
        rw [← ht, kw_, if_pos (by omega), if_pos (by omega)]
      · refine am_E.go (t2 := (17, [vR (o + 16), vI p, vI q, vI r], [vR (o + 16)], aq_h m s F c)) rfl rfl ?_
        refine am_E.go (t2 := (18, [vR (o + 16), vI p, vI q, vI r], [vI r, vR (o + 16)], aq_h m s F c)) rfl rfl ?_
        refine aq_al (ok := fun k => k == 0) (v := vI (c (o + 16) r)) rfl rfl (by omega) hFd rfl (by omega) (by omega) rfl ?_
        show am_E _ (19, [vR (o + 16), vI p, vI q, vI r], [vI (c (o + 16) r)], aq_h m s F c) _
        have f_4 := hc.1 r (by omega) (by omega)
        refine am_E.go (t2 := (20, [vR (o + 16), vI p, vI q, vI r], [vI q, vI (c (o + 16) r)], aq_h m s F c)) rfl rfl ?_
        refine ae_icmp rfl (fun (q_5 : (c (o + 16) r) < q) => ?_) (fun (q_5 : q ≤ (c (o + 16) r)) => ?_)
        · refine ae_iinc rfl rfl (am_ri (by omega) (by omega)) ?_
          show am_E _ (28, [vR (o + 16), vI p, vI q, vI (r + 1)], [], aq_h m s F c) _
          refine am_E.go (t2 := (4, [vR (o + 16), vI p, vI q, vI (r + 1)], [], aq_h m s F c)) rfl rfl ?_
          exact qx_keeps_l ⟨hm, hn1, hn4, hFo, hFl, hFg, hFt, hFp, hFq, hFd, hFs⟩ hc hp hq d (r + 1) (by omega) (by rw [← ht, kw_, if_pos (by omega), if_neg (by omega)]) (by omega)
        · refine am_E.go (t2 := (24, [vR (o + 16), vI p, vI q, vI r], [vI 0], aq_h m s F c)) rfl rfl ?_
          refine am_E.ret rfl rfl ?_
          refine ⟨rfl, ?_⟩
          rw [← ht, kw_, if_pos (by omega), if_pos (by omega)]

theorem qx_keepsWithin {m s : Nat} {F : aq_F} {c : aq_C} {o n : Nat} (hH : hc_0 m F o n) (hc : hc_I o n c) {p q : Int} (hp : 0 ≤ p) (hp2 : p < (n : Int)) (hq : q ≤ (n : Int)) : am_E ac_X2_keepsWithin (0, [vR (o + 16), vI p, vI q, vU], [], aq_h m s F c) (aq_P m s F c (fun r => r = some (vI (kw_ (c (o + 16)) p q 6 (p + 1))))) := by
  obtain ⟨hm, hn1, hn4, hFo, hFl, hFg, hFt, hFp, hFq, hFd, hFs⟩ := hH
  refine am_E.go (t2 := (1, [vR (o + 16), vI p, vI q, vU], [vI p], aq_h m s F c)) rfl rfl ?_
  refine am_E.go (t2 := (2, [vR (o + 16), vI p, vI q, vU], [vI 1, vI p], aq_h m s F c)) rfl rfl ?_
  refine ae_add rfl (am_ri (by omega) (by omega)) ?_
  show am_E _ (3, [vR (o + 16), vI p, vI q, vU], [vI (p + 1)], aq_h m s F c) _
  refine am_E.go (t2 := (4, [vR (o + 16), vI p, vI q, vI (p + 1)], [], aq_h m s F c)) rfl rfl ?_
  exact qx_keeps_l ⟨hm, hn1, hn4, hFo, hFl, hFg, hFt, hFp, hFq, hFd, hFs⟩ hc hp hq 6 (p + 1) (by omega) rfl (by omega)

theorem qx_isHalf_l {m s : Nat} {F : aq_F} {c : aq_C} {o n : Nat} (hH : hc_0 m F o n) (hc : hc_I o n c) {T : Int} : ∀ (d : Nat) (p : Int) (v3 : am_V) (h0 : 0 ≤ p) (h1 : p ≤ (n : Int)) (ht : hf_ (n : Int) (c (o + 16)) d p = T) (hd : (n : Int) - p < (d : Int)), am_E ac_X2_isHalf (2, [vR o, vR (o + 16), vI p, v3], [], aq_h m s F c) (aq_P m s F c (fun r => r = some (vI T)))
  | 0, p, v3, h0, h1, ht, hd => by exfalso; omega
  | d + 1, p, v3, h0, h1, ht, hd => by
    obtain ⟨hm, hn1, hn4, hFo, hFl, hFg, hFt, hFp, hFq, hFd, hFs⟩ := hH
    refine am_E.go (t2 := (3, [vR o, vR (o + 16), vI p, v3], [vI p], aq_h m s F c)) rfl rfl ?_
    refine am_E.go (t2 := (4, [vR o, vR (o + 16), vI p, v3], [vR o, vI p], aq_h m s F c)) rfl rfl ?_
    refine aq_gf (v := vI (n : Int)) rfl (by omega) hFo (by decide) rfl ?_
    show am_E _ (7, [vR o, vR (o + 16), vI p, v3], [vI (n : Int), vI p], aq_h m s F c) _
    refine ae_icmp rfl (fun (q_1 : (n : Int) ≤ p) => ?_) (fun (q_1 : p < (n : Int)) => ?_)
    · refine am_E.go (t2 := (62, [vR o, vR (o + 16), vI p, v3], [vI 1], aq_h m s F c)) rfl rfl ?_
      refine am_E.ret rfl rfl ?_
      refine ⟨rfl, ?_⟩
      rw [← ht, hf_, if_neg (by omega)]
    · refine am_E.go (t2 := (11, [vR o, vR (o + 16), vI p, v3], [vR (o + 16)], aq_h m s F c)) rfl rfl ?_
      refine am_E.go (t2 := (12, [vR o, vR (o + 16), vI p, v3], [vI p, vR (o + 16)], aq_h m s F c)) rfl rfl ?_
      refine aq_al (ok := fun k => k == 0) (v := vI (c (o + 16) p)) rfl rfl (by omega) hFd rfl (by omega) (by omega) rfl ?_
      show am_E _ (13, [vR o, vR (o + 16), vI p, v3], [vI (c (o + 16) p)], aq_h m s F c) _
      have f_2 := hc.1 p (by omega) (by omega)
      refine am_E.go (t2 := (14, [vR o, vR (o + 16), vI p, vI (c (o + 16) p)], [], aq_h m s F c)) rfl rfl ?_
      refine am_E.go (t2 := (15, [vR o, vR (o + 16), vI p, vI (c (o + 16) p)], [vI (c (o + 16) p)], aq_h m s F c)) rfl rfl ?_
      refine am_E.go (t2 := (16, [vR o, vR (o + 16), vI p, vI (c (o + 16) p)], [vR o, vI (c (o + 16) p)], aq_h m s F c)) rfl rfl ?_
      refine aq_gf (v := vI (n : Int)) rfl (by omega) hFo (by decide) rfl ?_
      show am_E _ (19, [vR o, vR (o + 16), vI p, vI (c (o + 16) p)], [vI (n : Int), vI (c (o + 16) p)], aq_h m s F c) _
      refine ae_icmp rfl (fun (q_3 : (n : Int) ≤ (c (o + 16) p)) => ?_) (fun (q_3 : (c (o + 16) p) < (n : Int)) => ?_)
      · refine am_E.go (t2 := (37, [vR o, vR (o + 16), vI p, vI (c (o + 16) p)], [vI (c (o + 16) p)], aq_h m s F c)) rfl rfl ?_
        refine am_E.go (t2 := (38, [vR o, vR (o + 16), vI p, vI (c (o + 16) p)], [vR o, vI (c (o + 16) p)], aq_h m s F c)) rfl rfl ?_
        refine aq_gf (v := vI (n : Int)) rfl (by omega) hFo (by decide) rfl ?_
        show am_E _ (41, [vR o, vR (o + 16), vI p, vI (c (o + 16) p)], [vI (n : Int), vI (c (o + 16) p)], aq_h m s F c) _
        refine ae_icmp rfl (fun (q_4 : (n : Int) ≤ (c (o + 16) p)) => ?_) (fun (q_4 : (c (o + 16) p) < (n : Int)) => ?_)
        · refine ae_iinc rfl rfl (am_ri (by omega) (by omega)) ?_
          show am_E _ (58, [vR o, vR (o + 16), vI (p + 1), vI (c (o + 16) p)], [], aq_h m s F c) _
          refine am_E.go (t2 := (2, [vR o, vR (o + 16), vI (p + 1), vI (c (o + 16) p)], [], aq_h m s F c)) rfl rfl ?_
          exact qx_isHalf_l ⟨hm, hn1, hn4, hFo, hFl, hFg, hFt, hFp, hFq, hFd, hFs⟩ hc d (p + 1) (vI (c (o + 16) p)) (by omega) (by omega) (by rw [← ht, hf_, if_pos (by omega), if_neg (by omega), if_neg (by omega)]) (by omega)
        · refine am_E.go (t2 := (45, [vR o, vR (o + 16), vI p, vI (c (o + 16) p)], [vR (o + 16)], aq_h m s F c)) rfl rfl ?_
          refine am_E.go (t2 := (46, [vR o, vR (o + 16), vI p, vI (c (o + 16) p)], [vI p, vR (o + 16)], aq_h m s F c)) rfl rfl ?_
          refine am_E.go (t2 := (47, [vR o, vR (o + 16), vI p, vI (c (o + 16) p)], [vI (c (o + 16) p), vI p, vR (o + 16)], aq_h m s F c)) rfl rfl ?_
          refine am_E.call rfl rfl rfl (Nat.le_of_ble_eq_true rfl) (qx_keepsWithin ⟨hm, hn1, hn4, hFo, hFl, hFg, hFt, hFp, hFq, hFd, hFs⟩ hc (by omega) (by omega) (by omega)) ?_
          rintro r5 h5 ⟨rfl, rfl⟩
          show am_E _ (50, [vR o, vR (o + 16), vI p, vI (c (o + 16) p)], [vI (kw_ (c (o + 16)) p (c (o + 16) p) 6 (p + 1))], aq_h m s F c) _
          have hkb := kw_b (f := (c (o + 16))) (p := p) (q := (c (o + 16) p)) 6 (p + 1)
          refine ae_if0 rfl (fun (q_5 : (kw_ (c (o + 16)) p (c (o + 16) p) 6 (p + 1)) ≠ 0) => ?_) (fun (q_5 : (kw_ (c (o + 16)) p (c (o + 16) p) 6 (p + 1)) = 0) => ?_)
          · refine ae_iinc rfl rfl (am_ri (by omega) (by omega)) ?_
            show am_E _ (58, [vR o, vR (o + 16), vI (p + 1), vI (c (o + 16) p)], [], aq_h m s F c) _
            refine am_E.go (t2 := (2, [vR o, vR (o + 16), vI (p + 1), vI (c (o + 16) p)], [], aq_h m s F c)) rfl rfl ?_
            exact qx_isHalf_l ⟨hm, hn1, hn4, hFo, hFl, hFg, hFt, hFp, hFq, hFd, hFs⟩ hc d (p + 1) (vI (c (o + 16) p)) (by omega) (by omega) (by rw [← ht, hf_, if_pos (by omega), if_neg (by omega), if_neg (by omega)]) (by omega)
          · refine am_E.go (t2 := (54, [vR o, vR (o + 16), vI p, vI (c (o + 16) p)], [vI 0], aq_h m s F c)) rfl rfl ?_
            refine am_E.ret rfl rfl ?_
            refine ⟨rfl, ?_⟩
            first | rw [← ht, hf_, if_pos (by omega), if_pos (by omega)] | rw [← ht, hf_, if_pos (by omega), if_neg (by omega), if_pos (by omega)]
      · refine am_E.go (t2 := (23, [vR o, vR (o + 16), vI p, vI (c (o + 16) p)], [vI (c (o + 16) p)], aq_h m s F c)) rfl rfl ?_
        refine am_E.go (t2 := (24, [vR o, vR (o + 16), vI p, vI (c (o + 16) p)], [vI p, vI (c (o + 16) p)], aq_h m s F c)) rfl rfl ?_
        refine ae_icmp rfl (fun (q_6 : (c (o + 16) p) = p) => ?_) (fun (q_6 : (c (o + 16) p) ≠ p) => ?_)
        · refine am_E.go (t2 := (35, [vR o, vR (o + 16), vI p, vI (c (o + 16) p)], [vI 0], aq_h m s F c)) rfl rfl ?_
          refine am_E.ret rfl rfl ?_
          refine ⟨rfl, ?_⟩
          first | rw [← ht, hf_, if_pos (by omega), if_pos (by omega)] | rw [← ht, hf_, if_pos (by omega), if_neg (by omega), if_pos (by omega)]
        · refine am_E.go (t2 := (28, [vR o, vR (o + 16), vI p, vI (c (o + 16) p)], [vR (o + 16)], aq_h m s F c)) rfl rfl ?_
          refine am_E.go (t2 := (29, [vR o, vR (o + 16), vI p, vI (c (o + 16) p)], [vI (c (o + 16) p), vR (o + 16)], aq_h m s F c)) rfl rfl ?_
          refine aq_al (ok := fun k => k == 0) (v := vI (c (o + 16) (c (o + 16) p))) rfl rfl (by omega) hFd rfl (by omega) (by omega) rfl ?_
          show am_E _ (30, [vR o, vR (o + 16), vI p, vI (c (o + 16) p)], [vI (c (o + 16) (c (o + 16) p))], aq_h m s F c) _
          have f_7 := hc.1 (c (o + 16) p) (by omega) (by omega)
          refine am_E.go (t2 := (31, [vR o, vR (o + 16), vI p, vI (c (o + 16) p)], [vI p, vI (c (o + 16) (c (o + 16) p))], aq_h m s F c)) rfl rfl ?_
          refine ae_icmp rfl (fun (q_8 : (c (o + 16) (c (o + 16) p)) = p) => ?_) (fun (q_8 : (c (o + 16) (c (o + 16) p)) ≠ p) => ?_)
          · refine am_E.go (t2 := (37, [vR o, vR (o + 16), vI p, vI (c (o + 16) p)], [vI (c (o + 16) p)], aq_h m s F c)) rfl rfl ?_
            refine am_E.go (t2 := (38, [vR o, vR (o + 16), vI p, vI (c (o + 16) p)], [vR o, vI (c (o + 16) p)], aq_h m s F c)) rfl rfl ?_
            refine aq_gf (v := vI (n : Int)) rfl (by omega) hFo (by decide) rfl ?_
            show am_E _ (41, [vR o, vR (o + 16), vI p, vI (c (o + 16) p)], [vI (n : Int), vI (c (o + 16) p)], aq_h m s F c) _
            refine ae_icmp rfl (fun (q_9 : (n : Int) ≤ (c (o + 16) p)) => ?_) (fun (q_9 : (c (o + 16) p) < (n : Int)) => ?_)
            · refine ae_iinc rfl rfl (am_ri (by omega) (by omega)) ?_
              show am_E _ (58, [vR o, vR (o + 16), vI (p + 1), vI (c (o + 16) p)], [], aq_h m s F c) _
              refine am_E.go (t2 := (2, [vR o, vR (o + 16), vI (p + 1), vI (c (o + 16) p)], [], aq_h m s F c)) rfl rfl ?_
              exact qx_isHalf_l ⟨hm, hn1, hn4, hFo, hFl, hFg, hFt, hFp, hFq, hFd, hFs⟩ hc d (p + 1) (vI (c (o + 16) p)) (by omega) (by omega) (by rw [← ht, hf_, if_pos (by omega), if_neg (by omega), if_neg (by omega)]) (by omega)
            · refine am_E.go (t2 := (45, [vR o, vR (o + 16), vI p, vI (c (o + 16) p)], [vR (o + 16)], aq_h m s F c)) rfl rfl ?_
              refine am_E.go (t2 := (46, [vR o, vR (o + 16), vI p, vI (c (o + 16) p)], [vI p, vR (o + 16)], aq_h m s F c)) rfl rfl ?_
              refine am_E.go (t2 := (47, [vR o, vR (o + 16), vI p, vI (c (o + 16) p)], [vI (c (o + 16) p), vI p, vR (o + 16)], aq_h m s F c)) rfl rfl ?_
              refine am_E.call rfl rfl rfl (Nat.le_of_ble_eq_true rfl) (qx_keepsWithin ⟨hm, hn1, hn4, hFo, hFl, hFg, hFt, hFp, hFq, hFd, hFs⟩ hc (by omega) (by omega) (by omega)) ?_
              rintro r5 h5 ⟨rfl, rfl⟩
              show am_E _ (50, [vR o, vR (o + 16), vI p, vI (c (o + 16) p)], [vI (kw_ (c (o + 16)) p (c (o + 16) p) 6 (p + 1))], aq_h m s F c) _
              have hkb := kw_b (f := (c (o + 16))) (p := p) (q := (c (o + 16) p)) 6 (p + 1)
              refine ae_if0 rfl (fun (q_10 : (kw_ (c (o + 16)) p (c (o + 16) p) 6 (p + 1)) ≠ 0) => ?_) (fun (q_10 : (kw_ (c (o + 16)) p (c (o + 16) p) 6 (p + 1)) = 0) => ?_)
              · refine ae_iinc rfl rfl (am_ri (by omega) (by omega)) ?_
                show am_E _ (58, [vR o, vR (o + 16), vI (p + 1), vI (c (o + 16) p)], [], aq_h m s F c) _
                refine am_E.go (t2 := (2, [vR o, vR (o + 16), vI (p + 1), vI (c (o + 16) p)], [], aq_h m s F c)) rfl rfl ?_
                exact qx_isHalf_l ⟨hm, hn1, hn4, hFo, hFl, hFg, hFt, hFp, hFq, hFd, hFs⟩ hc d (p + 1) (vI (c (o + 16) p)) (by omega) (by omega) (by rw [← ht, hf_, if_pos (by omega), if_neg (by omega), if_neg (by omega)]) (by omega)
              · refine am_E.go (t2 := (54, [vR o, vR (o + 16), vI p, vI (c (o + 16) p)], [vI 0], aq_h m s F c)) rfl rfl ?_
                refine am_E.ret rfl rfl ?_
                refine ⟨rfl, ?_⟩
                first | rw [← ht, hf_, if_pos (by omega), if_pos (by omega)] | rw [← ht, hf_, if_pos (by omega), if_neg (by omega), if_pos (by omega)]
          · refine am_E.go (t2 := (35, [vR o, vR (o + 16), vI p, vI (c (o + 16) p)], [vI 0], aq_h m s F c)) rfl rfl ?_
            refine am_E.ret rfl rfl ?_
            refine ⟨rfl, ?_⟩
            first | rw [← ht, hf_, if_pos (by omega), if_pos (by omega)] | rw [← ht, hf_, if_pos (by omega), if_neg (by omega), if_pos (by omega)]

theorem qx_isHalf {m s : Nat} {F : aq_F} {c : aq_C} {o n : Nat} (hH : hc_0 m F o n) (hc : hc_I o n c) : am_E ac_X2_isHalf (0, [vR o, vR (o + 16), vU, vU], [], aq_h m s F c) (aq_P m s F c (fun r => r = some (vI (hf_ (n : Int) (c (o + 16)) 6 0)))) := by
  obtain ⟨hm, hn1, hn4, hFo, hFl, hFg, hFt, hFp, hFq, hFd, hFs⟩ := hH
  refine am_E.go (t2 := (1, [vR o, vR (o + 16), vU, vU], [vI 0], aq_h m s F c)) rfl rfl ?_
  refine am_E.go (t2 := (2, [vR o, vR (o + 16), vI 0, vU], [], aq_h m s F c)) rfl rfl ?_
  exact qx_isHalf_l ⟨hm, hn1, hn4, hFo, hFl, hFg, hFt, hFp, hFq, hFd, hFs⟩ hc 6 0 (vU) (by omega) (by omega) rfl (by omega)

theorem qx_next_l {m s : Nat} {F : aq_F} {c0 : aq_C} {o n : Nat} (hH : hc_0 m F o n) {T : Int → Int} : ∀ (d : Nat) (v : Int → Int) (p : Int) (c : aq_C) (hs : aq_sm (fun a => a = o + 16) c0 c) (h0 : -1 ≤ p) (h1 : p < (n : Int)) (hv : ∀ i, 0 ≤ i → i < (n : Int) → c (o + 16) i = v i) (hb : ∀ i, 0 ≤ i → i < (n : Int) → 0 ≤ v i ∧ v i ≤ 100) (ht : ∀ i, 0 ≤ i → i < (n : Int) → nd_ (n : Int) d p v i = T i) (hd : p + 1 < (d : Int)), am_E ac_X2_nextDraft (7, [vR o, vI p], [], aq_h m s F c) (aq_Z m s F (fun a => a = o + 16) c0 (fun r d => r = none ∧ ∀ i, 0 ≤ i → i < (n : Int) → d (o + 16) i = T i))
  | 0, v, p, c, hs, h0, h1, hv, hb, ht, hd => by exfalso; omega
  | d + 1, v, p, c, hs, h0, h1, hv, hb, ht, hd => by
    obtain ⟨hm, hn1, hn4, hFo, hFl, hFg, hFt, hFp, hFq, hFd, hFs⟩ := hH
    refine am_E.go (t2 := (8, [vR o, vI p], [vI p], aq_h m s F c)) rfl rfl ?_
    refine ae_if0 rfl (fun (q_1 : p < 0) => ?_) (fun (q_1 : 0 ≤ p) => ?_)
    · refine am_E.go (t2 := (38, [vR o, vI p], [vI p], aq_h m s F c)) rfl rfl ?_
      refine ae_if0 rfl (fun (q_2 : p < 0) => ?_) (fun (q_2 : 0 ≤ p) => ?_)
      · refine am_E.ret rfl rfl ?_
        refine ⟨_, rfl, hs, rfl, fun i h5 h6 => ?_⟩
        rw [← ht i h5 h6, nd_, if_neg (by omega), if_neg (by omega)]
        exact hv i h5 h6
      · refine am_E.go (t2 := (42, [vR o, vI p], [vR o], aq_h m s F c)) rfl rfl ?_
        refine aq_gf (v := vR (o + 16)) rfl (by omega) hFo (by decide) rfl ?_
        show am_E _ (45, [vR o, vI p], [vR (o + 16)], aq_h m s F c) _
        refine am_E.go (t2 := (46, [vR o, vI p], [vI p, vR (o + 16)], aq_h m s F c)) rfl rfl ?_
        refine am_E.go (t2 := (47, [vR o, vI p], [vI p, vR (o + 16), vI p, vR (o + 16)], aq_h m s F c)) rfl rfl ?_
        refine aq_al (ok := fun k => k == 0) (v := vI (c (o + 16) p)) rfl rfl (by omega) hFd rfl (by omega) (by omega) rfl ?_
        show am_E _ (48, [vR o, vI p], [vI (c (o + 16) p), vI p, vR (o + 16)], aq_h m s F c) _
        have f_3 := hv p (by omega) (by omega)
        have f_3b := hb p (by omega) (by omega)
        refine am_E.go (t2 := (49, [vR o, vI p], [vI 1, vI (c (o + 16) p), vI p, vR (o + 16)], aq_h m s F c)) rfl rfl ?_
        refine ae_add rfl (am_ri (by omega) (by omega)) ?_
        show am_E _ (50, [vR o, vI p], [vI ((c (o + 16) p) + 1), vI p, vR (o + 16)], aq_h m s F c) _
        refine aq_as (kd := 0) rfl rfl (by omega) hFd (by omega) (by omega) rfl rfl ?_
        show am_E _ (51, [vR o, vI p], [], aq_h m s F (aq_u c (o + 16) p ((c (o + 16) p) + 1))) _
        generalize hdc_4 : aq_u c (o + 16) p ((c (o + 16) p) + 1) = c_4
        have sc_4 := aq_smu hs hdc_4 rfl
        refine am_E.ret rfl rfl ?_
        refine ⟨_, rfl, sc_4, rfl, fun i h5 h6 => ?_⟩
        rw [← ht i h5 h6, nd_, if_neg (by omega), if_pos (by omega), ← hdc_4]
        unfold aq_u
        by_cases e : i = p
        · rw [if_pos ⟨rfl, e⟩, if_pos e, e, hv p (by omega) (by omega)]
        · rw [if_neg (fun q => e q.2), if_neg e]
          exact hv i h5 h6
    · refine am_E.go (t2 := (12, [vR o, vI p], [vR o], aq_h m s F c)) rfl rfl ?_
      refine aq_gf (v := vR (o + 16)) rfl (by omega) hFo (by decide) rfl ?_
      show am_E _ (15, [vR o, vI p], [vR (o + 16)], aq_h m s F c) _
      refine am_E.go (t2 := (16, [vR o, vI p], [vI p, vR (o + 16)], aq_h m s F c)) rfl rfl ?_
      refine aq_al (ok := fun k => k == 0) (v := vI (c (o + 16) p)) rfl rfl (by omega) hFd rfl (by omega) (by omega) rfl ?_
      show am_E _ (17, [vR o, vI p], [vI (c (o + 16) p)], aq_h m s F c) _
      have f_5 := hv p (by omega) (by omega)
      have f_5b := hb p (by omega) (by omega)
      refine am_E.go (t2 := (18, [vR o, vI p], [vR o, vI (c (o + 16) p)], aq_h m s F c)) rfl rfl ?_
      refine aq_gf (v := vI (n : Int)) rfl (by omega) hFo (by decide) rfl ?_
      show am_E _ (21, [vR o, vI p], [vI (n : Int), vI (c (o + 16) p)], aq_h m s F c) _
      refine ae_icmp rfl (fun (q_6 : (c (o + 16) p) ≠ (n : Int)) => ?_) (fun (q_6 : (c (o + 16) p) = (n : Int)) => ?_)
      · refine am_E.go (t2 := (38, [vR o, vI p], [vI p], aq_h m s F c)) rfl rfl ?_
        refine ae_if0 rfl (fun (q_7 : p < 0) => ?_) (fun (q_7 : 0 ≤ p) => ?_)
        · refine am_E.ret rfl rfl ?_
          refine ⟨_, rfl, hs, rfl, fun i h5 h6 => ?_⟩
          rw [← ht i h5 h6, nd_, if_neg (by omega), if_neg (by omega)]
          exact hv i h5 h6
        · refine am_E.go (t2 := (42, [vR o, vI p], [vR o], aq_h m s F c)) rfl rfl ?_
          refine aq_gf (v := vR (o + 16)) rfl (by omega) hFo (by decide) rfl ?_
          show am_E _ (45, [vR o, vI p], [vR (o + 16)], aq_h m s F c) _
          refine am_E.go (t2 := (46, [vR o, vI p], [vI p, vR (o + 16)], aq_h m s F c)) rfl rfl ?_
          refine am_E.go (t2 := (47, [vR o, vI p], [vI p, vR (o + 16), vI p, vR (o + 16)], aq_h m s F c)) rfl rfl ?_
          refine aq_al (ok := fun k => k == 0) (v := vI (c (o + 16) p)) rfl rfl (by omega) hFd rfl (by omega) (by omega) rfl ?_
          show am_E _ (48, [vR o, vI p], [vI (c (o + 16) p), vI p, vR (o + 16)], aq_h m s F c) _
          have f_8 := hv p (by omega) (by omega)
          have f_8b := hb p (by omega) (by omega)
          refine am_E.go (t2 := (49, [vR o, vI p], [vI 1, vI (c (o + 16) p), vI p, vR (o + 16)], aq_h m s F c)) rfl rfl ?_
          refine ae_add rfl (am_ri (by omega) (by omega)) ?_
          show am_E _ (50, [vR o, vI p], [vI ((c (o + 16) p) + 1), vI p, vR (o + 16)], aq_h m s F c) _
          refine aq_as (kd := 0) rfl rfl (by omega) hFd (by omega) (by omega) rfl rfl ?_
          show am_E _ (51, [vR o, vI p], [], aq_h m s F (aq_u c (o + 16) p ((c (o + 16) p) + 1))) _
          generalize hdc_9 : aq_u c (o + 16) p ((c (o + 16) p) + 1) = c_9
          have sc_9 := aq_smu hs hdc_9 rfl
          refine am_E.ret rfl rfl ?_
          refine ⟨_, rfl, sc_9, rfl, fun i h5 h6 => ?_⟩
          rw [← ht i h5 h6, nd_, if_neg (by omega), if_pos (by omega), ← hdc_9]
          unfold aq_u
          by_cases e : i = p
          · rw [if_pos ⟨rfl, e⟩, if_pos e, e, hv p (by omega) (by omega)]
          · rw [if_neg (fun q => e q.2), if_neg e]
            exact hv i h5 h6
      · refine am_E.go (t2 := (25, [vR o, vI p], [vR o], aq_h m s F c)) rfl rfl ?_
        refine aq_gf (v := vR (o + 16)) rfl (by omega) hFo (by decide) rfl ?_
        show am_E _ (28, [vR o, vI p], [vR (o + 16)], aq_h m s F c) _
        refine am_E.go (t2 := (29, [vR o, vI p], [vI p, vR (o + 16)], aq_h m s F c)) rfl rfl ?_
        refine am_E.go (t2 := (30, [vR o, vI p], [vI 0, vI p, vR (o + 16)], aq_h m s F c)) rfl rfl ?_
        refine aq_as (kd := 0) rfl rfl (by omega) hFd (by omega) (by omega) rfl rfl ?_
        show am_E _ (31, [vR o, vI p], [], aq_h m s F (aq_u c (o + 16) p 0)) _
        generalize hdc_10 : aq_u c (o + 16) p 0 = c_10
        have sc_10 := aq_smu hs hdc_10 rfl
        refine ae_iinc rfl rfl (am_ri (by omega) (by omega)) ?_
        show am_E _ (34, [vR o, vI (p + (-1))], [], aq_h m s F c_10) _
        refine am_E.go (t2 := (7, [vR o, vI (p + (-1))], [], aq_h m s F c_10)) rfl rfl ?_
        exact qx_next_l ⟨hm, hn1, hn4, hFo, hFl, hFg, hFt, hFp, hFq, hFd, hFs⟩ d (fun i => if i = p then 0 else v i) (p + (-1)) c_10 sc_10 (by omega) (by omega) (fun i h5 h6 => by rw [← hdc_10]; unfold aq_u; by_cases e : i = p; (rw [if_pos ⟨rfl, e⟩, if_pos e]); rw [if_neg (fun q => e q.2), if_neg e]; exact hv i h5 h6) (fun i h5 h6 => by by_cases e : i = p; (rw [if_pos e]; omega); rw [if_neg e]; exact hb i h5 h6) (fun i h5 h6 => by rw [← ht i h5 h6, nd_, if_pos (by omega)]) (by omega)

theorem qx_nextDraft {m s : Nat} {F : aq_F} {c : aq_C} {o n : Nat} (hH : hc_0 m F o n) {v : Int → Int} (hv : ∀ i, 0 ≤ i → i < (n : Int) → c (o + 16) i = v i) (hb : ∀ i, 0 ≤ i → i < (n : Int) → 0 ≤ v i ∧ v i ≤ 100) : am_E ac_X2_nextDraft (0, [vR o, vU], [], aq_h m s F c) (aq_Z m s F (fun a => a = o + 16) c (fun r d => r = none ∧ ∀ i, 0 ≤ i → i < (n : Int) → d (o + 16) i = nd_ (n : Int) 6 ((n : Int) - 1) v i)) := by
  obtain ⟨hm, hn1, hn4, hFo, hFl, hFg, hFt, hFp, hFq, hFd, hFs⟩ := hH
  refine am_E.go (t2 := (1, [vR o, vU], [vR o], aq_h m s F c)) rfl rfl ?_
  refine aq_gf (v := vI (n : Int)) rfl (by omega) hFo (by decide) rfl ?_
  show am_E _ (4, [vR o, vU], [vI (n : Int)], aq_h m s F c) _
  refine am_E.go (t2 := (5, [vR o, vU], [vI 1, vI (n : Int)], aq_h m s F c)) rfl rfl ?_
  refine ae_sub rfl (am_ri (by omega) (by omega)) ?_
  show am_E _ (6, [vR o, vU], [vI ((n : Int) - 1)], aq_h m s F c) _
  refine am_E.go (t2 := (7, [vR o, vI ((n : Int) - 1)], [], aq_h m s F c)) rfl rfl ?_
  exact qx_next_l ⟨hm, hn1, hn4, hFo, hFl, hFg, hFt, hFp, hFq, hFd, hFs⟩ 6 v ((n : Int) - 1) c (aq_sm0 (c := c) (S := (fun a => a = o + 16))) (by omega) (by omega) hv hb (fun _ _ _ => rfl) (by omega)

theorem qx_keep_l {m s : Nat} {F : aq_F} {c0 : aq_C} {o n : Nat} {z : Int} (hH : hc_0 m F o n) (hz0 : 0 ≤ z) (hz6 : z < 6) {T : Int} : ∀ (d : Nat) (p : Int) (c : aq_C) (hs : aq_sm (fun a => a = o ∨ a = o + 1 ∨ a = o + 10 + z.toNat) c0 c) (h0 : 0 ≤ p) (h1 : p ≤ (n : Int)) (hsz : c o 6 = z) (hx0 : 0 ≤ c (o + 1) z) (hx1 : c (o + 1) z ≤ p) (ht : lf_ (n : Int) (c0 (o + 16)) d p (c (o + 1) z) = T) (hlo : ∀ i, i ≠ z → c (o + 1) i = c0 (o + 1) i) (hrw : ∀ i, 0 ≤ i → i < (n : Int) → c (o + 10 + z.toNat) i = c0 (o + 16) i) (hd : (n : Int) - p < (d : Int)), am_E ac_X2_keepDraft (24, [vR o, vI p], [], aq_h m s F c) (aq_Z m s F (fun a => a = o ∨ a = o + 1 ∨ a = o + 10 + z.toNat) c0 (fun r d => r = none ∧ d o 6 = z + 1 ∧ d (o + 1) z = T ∧ (∀ i, i ≠ z → d (o + 1) i = c0 (o + 1) i) ∧ ∀ i, 0 ≤ i → i < (n : Int) → d (o + 10 + z.toNat) i = c0 (o + 16) i))
  | 0, p, c, hs, h0, h1, hsz, hx0, hx1, ht, hlo, hrw, hd => by exfalso; omega
  | d + 1, p, c, hs, h0, h1, hsz, hx0, hx1, ht, hlo, hrw, hd => by
    obtain ⟨hm, hn1, hn4, hFo, hFl, hFg, hFt, hFp, hFq, hFd, hFs⟩ := hH
    refine am_E.go (t2 := (25, [vR o, vI p], [vI p], aq_h m s F c)) rfl rfl ?_
    refine am_E.go (t2 := (26, [vR o, vI p], [vR o, vI p], aq_h m s F c)) rfl rfl ?_
    refine aq_gf (v := vI (n : Int)) rfl (by omega) hFo (by decide) rfl ?_
    show am_E _ (29, [vR o, vI p], [vI (n : Int), vI p], aq_h m s F c) _
    refine ae_icmp rfl (fun (q_1 : (n : Int) ≤ p) => ?_) (fun (q_1 : p < (n : Int)) => ?_)
    · refine am_E.go (t2 := (69, [vR o, vI p], [vR o], aq_h m s F c)) rfl rfl ?_
      refine am_E.go (t2 := (70, [vR o, vI p], [vR o, vR o], aq_h m s F c)) rfl rfl ?_
      refine aq_gf (v := vI (c o 6)) rfl (by omega) hFo (by decide) rfl ?_
      show am_E _ (73, [vR o, vI p], [vI (c o 6), vR o], aq_h m s F c) _
      have f_2 := hsz
      refine am_E.go (t2 := (74, [vR o, vI p], [vI 1, vI (c o 6), vR o], aq_h m s F c)) rfl rfl ?_
      refine ae_add rfl (am_ri (by omega) (by omega)) ?_
      show am_E _ (75, [vR o, vI p], [vI ((c o 6) + 1), vR o], aq_h m s F c) _
      refine aq_pf rfl (by omega) hFo (by decide) rfl rfl ?_
      show am_E _ (78, [vR o, vI p], [], aq_h m s F (aq_u c o 6 ((c o 6) + 1))) _
      generalize hdc_3 : aq_u c o 6 ((c o 6) + 1) = c_3
      have sc_3 := aq_smu hs hdc_3 (by omega)
      refine am_E.ret rfl rfl ?_
      exact ⟨_, rfl, sc_3, rfl, by rw [← hdc_3, aq_us, hsz], by rw [← hdc_3, aq_un (Or.inl (by omega)), ← ht, lf_, if_neg (by omega)], fun i hi => by rw [← hdc_3, aq_un (Or.inl (by omega))]; exact hlo i hi, fun i h5 h6 => by rw [← hdc_3, aq_un (Or.inl (by omega))]; exact hrw i h5 h6⟩
    · refine am_E.go (t2 := (33, [vR o, vI p], [vR o], aq_h m s F c)) rfl rfl ?_
      refine aq_gf (v := vR (o + 1)) rfl (by omega) hFo (by decide) rfl ?_
      show am_E _ (36, [vR o, vI p], [vR (o + 1)], aq_h m s F c) _
      refine am_E.go (t2 := (37, [vR o, vI p], [vR o, vR (o + 1)], aq_h m s F c)) rfl rfl ?_
      refine aq_gf (v := vI (c o 6)) rfl (by omega) hFo (by decide) rfl ?_
      show am_E _ (40, [vR o, vI p], [vI (c o 6), vR (o + 1)], aq_h m s F c) _
      have f_4 := hsz
      refine am_E.go (t2 := (41, [vR o, vI p], [vI (c o 6), vR (o + 1), vI (c o 6), vR (o + 1)], aq_h m s F c)) rfl rfl ?_
      refine aq_al (ok := fun k => k == 0) (v := vI (c (o + 1) (c o 6))) rfl rfl (by omega) hFl rfl (by omega) (by omega) rfl ?_
      show am_E _ (42, [vR o, vI p], [vI (c (o + 1) (c o 6)), vI (c o 6), vR (o + 1)], aq_h m s F c) _
      have f_5 : c (o + 1) (c o 6) = c (o + 1) z := by rw [hsz]
      refine am_E.go (t2 := (43, [vR o, vI p], [vR o, vI (c (o + 1) (c o 6)), vI (c o 6), vR (o + 1)], aq_h m s F c)) rfl rfl ?_
      refine aq_gf (v := vR (o + 16)) rfl (by omega) hFo (by decide) rfl ?_
      show am_E _ (46, [vR o, vI p], [vR (o + 16), vI (c (o + 1) (c o 6)), vI (c o 6), vR (o + 1)], aq_h m s F c) _
      refine am_E.go (t2 := (47, [vR o, vI p], [vI p, vR (o + 16), vI (c (o + 1) (c o 6)), vI (c o 6), vR (o + 1)], aq_h m s F c)) rfl rfl ?_
      refine aq_al (ok := fun k => k == 0) (v := vI (c (o + 16) p)) rfl rfl (by omega) hFd rfl (by omega) (by omega) rfl ?_
      show am_E _ (48, [vR o, vI p], [vI (c (o + 16) p), vI (c (o + 1) (c o 6)), vI (c o 6), vR (o + 1)], aq_h m s F c) _
      have f_6 : c (o + 16) p = c0 (o + 16) p := hs _ (by omega) _
      refine am_E.go (t2 := (49, [vR o, vI p], [vR o, vI (c (o + 16) p), vI (c (o + 1) (c o 6)), vI (c o 6), vR (o + 1)], aq_h m s F c)) rfl rfl ?_
      refine aq_gf (v := vI (n : Int)) rfl (by omega) hFo (by decide) rfl ?_
      show am_E _ (52, [vR o, vI p], [vI (n : Int), vI (c (o + 16) p), vI (c (o + 1) (c o 6)), vI (c o 6), vR (o + 1)], aq_h m s F c) _
      refine ae_icmp rfl (fun (q_7 : (c (o + 16) p) ≠ (n : Int)) => ?_) (fun (q_7 : (c (o + 16) p) = (n : Int)) => ?_)
      · refine am_E.go (t2 := (60, [vR o, vI p], [vI 0, vI (c (o + 1) (c o 6)), vI (c o 6), vR (o + 1)], aq_h m s F c)) rfl rfl ?_
        refine ae_add rfl (am_ri (by omega) (by omega)) ?_
        show am_E _ (61, [vR o, vI p], [vI ((c (o + 1) (c o 6)) + 0), vI (c o 6), vR (o + 1)], aq_h m s F c) _
        refine aq_as (kd := 0) rfl rfl (by omega) hFl (by omega) (by omega) rfl rfl ?_
        show am_E _ (62, [vR o, vI p], [], aq_h m s F (aq_u c (o + 1) (c o 6) ((c (o + 1) (c o 6)) + 0))) _
        generalize hdc_8 : aq_u c (o + 1) (c o 6) ((c (o + 1) (c o 6)) + 0) = c_8
        have sc_8 := aq_smu hs hdc_8 (by omega)
        refine ae_iinc rfl rfl (am_ri (by omega) (by omega)) ?_
        show am_E _ (65, [vR o, vI (p + 1)], [], aq_h m s F c_8) _
        refine am_E.go (t2 := (24, [vR o, vI (p + 1)], [], aq_h m s F c_8)) rfl rfl ?_
        exact qx_keep_l ⟨hm, hn1, hn4, hFo, hFl, hFg, hFt, hFp, hFq, hFd, hFs⟩ hz0 hz6 d (p + 1) c_8 sc_8 (by omega) (by omega) (by rw [← hdc_8, aq_un (Or.inl (by omega))]; exact hsz) (by rw [← hdc_8, hsz, aq_us]; omega) (by rw [← hdc_8, hsz, aq_us]; omega) (by rw [← ht, lf_, if_pos (by omega), ← hdc_8, hsz, aq_us]; first | rw [if_pos (by omega)] | rw [if_neg (by omega)]) (fun i hi => by rw [← hdc_8, hsz, aq_un (Or.inr hi)]; exact hlo i hi) (fun i h5 h6 => by rw [← hdc_8, aq_un (Or.inl (by omega))]; exact hrw i h5 h6) (by omega)
      · refine am_E.go (t2 := (56, [vR o, vI p], [vI 1, vI (c (o + 1) (c o 6)), vI (c o 6), vR (o + 1)], aq_h m s F c)) rfl rfl ?_
        refine am_E.go (t2 := (60, [vR o, vI p], [vI 1, vI (c (o + 1) (c o 6)), vI (c o 6), vR (o + 1)], aq_h m s F c)) rfl rfl ?_
        refine ae_add rfl (am_ri (by omega) (by omega)) ?_
        show am_E _ (61, [vR o, vI p], [vI ((c (o + 1) (c o 6)) + 1), vI (c o 6), vR (o + 1)], aq_h m s F c) _
        refine aq_as (kd := 0) rfl rfl (by omega) hFl (by omega) (by omega) rfl rfl ?_
        show am_E _ (62, [vR o, vI p], [], aq_h m s F (aq_u c (o + 1) (c o 6) ((c (o + 1) (c o 6)) + 1))) _
        generalize hdc_9 : aq_u c (o + 1) (c o 6) ((c (o + 1) (c o 6)) + 1) = c_9
        have sc_9 := aq_smu hs hdc_9 (by omega)
        refine ae_iinc rfl rfl (am_ri (by omega) (by omega)) ?_
        show am_E _ (65, [vR o, vI (p + 1)], [], aq_h m s F c_9) _
        refine am_E.go (t2 := (24, [vR o, vI (p + 1)], [], aq_h m s F c_9)) rfl rfl ?_
        exact qx_keep_l ⟨hm, hn1, hn4, hFo, hFl, hFg, hFt, hFp, hFq, hFd, hFs⟩ hz0 hz6 d (p + 1) c_9 sc_9 (by omega) (by omega) (by rw [← hdc_9, aq_un (Or.inl (by omega))]; exact hsz) (by rw [← hdc_9, hsz, aq_us]; omega) (by rw [← hdc_9, hsz, aq_us]; omega) (by rw [← ht, lf_, if_pos (by omega), ← hdc_9, hsz, aq_us]; first | rw [if_pos (by omega)] | rw [if_neg (by omega)]) (fun i hi => by rw [← hdc_9, hsz, aq_un (Or.inr hi)]; exact hlo i hi) (fun i h5 h6 => by rw [← hdc_9, aq_un (Or.inl (by omega))]; exact hrw i h5 h6) (by omega)

theorem qx_keepDraft {m s : Nat} {F : aq_F} {c : aq_C} {o n : Nat} {z : Int} (hH : hc_0 m F o n) (hz0 : 0 ≤ z) (hz6 : z < 6) (hsz : c o 6 = z) (hl0 : c (o + 1) z = 0) : am_E ac_X2_keepDraft (0, [vR o, vU], [], aq_h m s F c) (aq_Z m s F (fun a => a = o ∨ a = o + 1 ∨ a = o + 10 + z.toNat) c (fun r d => r = none ∧ d o 6 = z + 1 ∧ d (o + 1) z = lf_ (n : Int) (c (o + 16)) 6 0 0 ∧ (∀ i, i ≠ z → d (o + 1) i = c (o + 1) i) ∧ ∀ i, 0 ≤ i → i < (n : Int) → d (o + 10 + z.toNat) i = c (o + 16) i)) := by
  obtain ⟨hm, hn1, hn4, hFo, hFl, hFg, hFt, hFp, hFq, hFd, hFs⟩ := hH
  refine am_E.go (t2 := (1, [vR o, vU], [vR o], aq_h m s F c)) rfl rfl ?_
  refine aq_gf (v := vR (o + 16)) rfl (by omega) hFo (by decide) rfl ?_
  show am_E _ (4, [vR o, vU], [vR (o + 16)], aq_h m s F c) _
  refine am_E.go (t2 := (5, [vR o, vU], [vI 0, vR (o + 16)], aq_h m s F c)) rfl rfl ?_
  refine am_E.go (t2 := (6, [vR o, vU], [vR o, vI 0, vR (o + 16)], aq_h m s F c)) rfl rfl ?_
  refine aq_gf (v := vR (o + 9)) rfl (by omega) hFo (by decide) rfl ?_
  show am_E _ (9, [vR o, vU], [vR (o + 9), vI 0, vR (o + 16)], aq_h m s F c) _
  refine am_E.go (t2 := (10, [vR o, vU], [vR o, vR (o + 9), vI 0, vR (o + 16)], aq_h m s F c)) rfl rfl ?_
  refine aq_gf (v := vI (c o 6)) rfl (by omega) hFo (by decide) rfl ?_
  show am_E _ (13, [vR o, vU], [vI (c o 6), vR (o + 9), vI 0, vR (o + 16)], aq_h m s F c) _
  have f_1 := hsz
  refine aq_al (ok := fun k => decide (3 ≤ k) && decide (k < 7)) (v := vR (o + 10 + z.toNat)) rfl rfl (by omega) hFp rfl (by omega) (by omega) (aq_gi2 (by omega) (by omega)) ?_
  show am_E _ (14, [vR o, vU], [vR (o + 10 + z.toNat), vI 0, vR (o + 16)], aq_h m s F c) _
  refine am_E.go (t2 := (15, [vR o, vU], [vI 0, vR (o + 10 + z.toNat), vI 0, vR (o + 16)], aq_h m s F c)) rfl rfl ?_
  refine am_E.go (t2 := (16, [vR o, vU], [vR o, vI 0, vR (o + 10 + z.toNat), vI 0, vR (o + 16)], aq_h m s F c)) rfl rfl ?_
  refine aq_gf (v := vI (n : Int)) rfl (by omega) hFo (by decide) rfl ?_
  show am_E _ (19, [vR o, vU], [vI (n : Int), vI 0, vR (o + 10 + z.toNat), vI 0, vR (o + 16)], aq_h m s F c) _
  refine aq_cpy (n := ((n : Int) : Int).toNat) (sp := (0 : Int).toNat) (dp := (0 : Int).toNat) rfl (by omega) (by omega) hFd (hFq _ (by omega)) (by decide) (by omega) (by omega) (by omega) (by omega) (by omega) ?_
  show am_E _ (22, [vR o, vU], [], aq_h m s F (aq_cp c (o + 16) (0 : Int).toNat (o + 10 + z.toNat) (0 : Int).toNat ((n : Int) : Int).toNat)) _
  generalize hdc_2 : aq_cp c (o + 16) (0 : Int).toNat (o + 10 + z.toNat) (0 : Int).toNat ((n : Int) : Int).toNat = c_2
  have sc_2 := aq_smc (aq_sm0 (c := c) (S := (fun a => a = o ∨ a = o + 1 ∨ a = o + 10 + z.toNat))) hdc_2 (by omega)
  refine am_E.go (t2 := (23, [vR o, vU], [vI 0], aq_h m s F c_2)) rfl rfl ?_
  refine am_E.go (t2 := (24, [vR o, vI 0], [], aq_h m s F c_2)) rfl rfl ?_
  exact qx_keep_l ⟨hm, hn1, hn4, hFo, hFl, hFg, hFt, hFp, hFq, hFd, hFs⟩ hz0 hz6 6 0 c_2 sc_2 (by omega) (by omega) (by rw [← hdc_2]; unfold aq_cp; rw [if_neg (by omega)]; exact hsz) (by rw [(show c_2 (o + 1) z = 0 by rw [← hdc_2]; unfold aq_cp; rw [if_neg (by omega)]; exact hl0)]; omega) (by rw [(show c_2 (o + 1) z = 0 by rw [← hdc_2]; unfold aq_cp; rw [if_neg (by omega)]; exact hl0)]; omega) (by rw [(show c_2 (o + 1) z = 0 by rw [← hdc_2]; unfold aq_cp; rw [if_neg (by omega)]; exact hl0)]) (fun i _ => by rw [← hdc_2]; unfold aq_cp; rw [if_neg (by omega)]) (fun i h5 h6 => by rw [← hdc_2]; unfold aq_cp; rw [if_pos ⟨rfl, by omega, by omega⟩]; congr 1; omega) (by omega)

def hN (n : Int) : Int := if n = 1 then 2 else if n = 2 then 9 else if n = 3 then 64 else 625
/-- the codes of the halves -/
def hk_c (n : Int) : List Int := if n = 1 then [1] else if n = 2 then [3, 8] else if n = 3 then [19, 57, 63] else [142, 149, 430, 559, 617, 624]
def kz_ (n i : Int) : Int := (((hk_c n).filter (fun q => decide (q < i))).length : Int)
def hx_ck (n : Int) (N : Nat) : Bool := (List.range N).all (fun i => decide (kz_ n ((i : Int) + 1) = kz_ n i + hf_ n (dg_n n i) 6 0) && decide (0 ≤ kz_ n i ∧ kz_ n i ≤ 6) && (decide (hf_ n (dg_n n i) 6 0 = 0) || (decide (kz_ n i < 6) && decide (lf_ n (dg_n n i) 6 0 0 = hx_l n (kz_ n i)) && (List.range n.toNat).all (fun p => decide (dg_n n i p = hx_d n (kz_ n i) p)))) && (List.range n.toNat).all (fun p => decide (nd_ n 6 (n - 1) (dg_n n i) p = dg_n n ((i : Int) + 1) p) && decide (0 ≤ dg_n n i p ∧ dg_n n i p ≤ n)))
theorem hx_k1 : hx_ck 1 2 = true := by decide +kernel
theorem hx_k2 : hx_ck 2 9 = true := by decide +kernel
theorem hx_k3 : hx_ck 3 64 = true := by decide +kernel
theorem hx_k4 : hx_ck 4 625 = true := by decide +kernel
theorem hx_kn {n i : Int} (h1 : 1 ≤ n) (h4 : n ≤ 4) (h0 : 0 ≤ i) (hi : i < hN n) : kz_ n (i + 1) = kz_ n i + hf_ n (dg_n n i) 6 0 ∧ 0 ≤ kz_ n i ∧ kz_ n i ≤ 6 ∧ (hf_ n (dg_n n i) 6 0 ≠ 0 → kz_ n i < 6 ∧ lf_ n (dg_n n i) 6 0 0 = hx_l n (kz_ n i) ∧ ∀ p, 0 ≤ p → p < n → dg_n n i p = hx_d n (kz_ n i) p) ∧ ∀ p, 0 ≤ p → p < n → nd_ n 6 (n - 1) (dg_n n i) p = dg_n n (i + 1) p ∧ 0 ≤ dg_n n i p ∧ dg_n n i p ≤ n := by
  have ei : ((i.toNat : Nat) : Int) = i := Int.toNat_of_nonneg h0
  have key : ∀ N : Nat, hx_ck n N = true → i < (N : Int) → _ := fun N hk hN => List.all_eq_true.mp hk i.toNat (List.mem_range.mpr (by omega))
  have hq : ∃ N : Nat, hx_ck n N = true ∧ i < (N : Int) := by
    have hn : n = 1 ∨ n = 2 ∨ n = 3 ∨ n = 4 := by omega
    rcases hn with hn | hn | hn | hn <;> subst hn
    · exact ⟨2, hx_k1, hi⟩
    · exact ⟨9, hx_k2, hi⟩
    · exact ⟨64, hx_k3, hi⟩
    · exact ⟨625, hx_k4, hi⟩
  obtain ⟨N, hk, hN⟩ := hq
  have h := key N hk hN
  simp only [ei, Bool.and_eq_true, Bool.or_eq_true, decide_eq_true_eq, List.all_eq_true, List.mem_range] at h
  obtain ⟨⟨⟨a1, a2⟩, a3⟩, a4⟩ := h
  refine ⟨a1, a2.1, a2.2, fun q => ?_, fun p p0 p1 => ?_⟩
  · rcases a3 with a3 | ⟨⟨a3, a5⟩, a6⟩
    · exact absurd a3 q
    · refine ⟨a3, a5, fun p p0 p1 => ?_⟩
      have := a6 p.toNat (by omega)
      rw [Int.toNat_of_nonneg p0] at this
      exact this
  · have := a4 p.toNat (by omega)
    rw [Int.toNat_of_nonneg p0] at this
    exact this
theorem kw_c {f g : Int → Int} {p q n : Int} (hq : q ≤ n) (h : ∀ i, 0 ≤ i → i < n → f i = g i) : ∀ (d : Nat) (r : Int), 0 ≤ r → kw_ f p q d r = kw_ g p q d r
  | 0, _, _ => rfl
  | d + 1, r, hr => by
    rw [kw_, kw_]
    by_cases e : r < q
    · rw [if_pos e, if_pos e, h r hr (by omega), kw_c hq h d (r + 1) (by omega)]
    · rw [if_neg e, if_neg e]
theorem hf_c {f g : Int → Int} {n : Int} (h : ∀ i, 0 ≤ i → i < n → f i = g i) (hg : ∀ i, 0 ≤ i → i < n → 0 ≤ g i ∧ g i ≤ n) : ∀ (d : Nat) (p : Int), 0 ≤ p → hf_ n f d p = hf_ n g d p
  | 0, _, _ => rfl
  | d + 1, p, hp => by
    rw [hf_, hf_]
    by_cases e : p < n
    · rw [if_pos e, if_pos e, h p hp e, hf_c h hg d (p + 1) (by omega)]
      by_cases e2 : g p < n
      · rw [h (g p) (hg p hp e).1 e2, kw_c (n := n) (hg p hp e).2 h 6 (p + 1) (by omega)]
      · rw [if_neg (fun q => e2 q.1), if_neg (fun q => e2 q.1), if_neg (fun q => e2 q.1), if_neg (fun q => e2 q.1)]
    · rw [if_neg e, if_neg e]
theorem lf_c {f g : Int → Int} {n : Int} (h : ∀ i, 0 ≤ i → i < n → f i = g i) : ∀ (d : Nat) (p x : Int), 0 ≤ p → lf_ n f d p x = lf_ n g d p x
  | 0, _, _, _ => rfl
  | d + 1, p, x, hp => by
    rw [lf_, lf_]
    by_cases e : p < n
    · rw [if_pos e, if_pos e, h p hp e, lf_c h d (p + 1) _ (by omega)]
    · rw [if_neg e, if_neg e]
/-- behind the codes before i -/
def hx_I (o n : Nat) (i : Int) (c : aq_C) : Prop := (∀ p, 0 ≤ p → p < (n : Int) → c (o + 16) p = dg_n (n : Int) i p) ∧ c o 6 = kz_ (n : Int) i ∧ ∀ h : Nat, h < 6 → ((h : Int) < kz_ (n : Int) i → c (o + 1) (h : Int) = hx_l (n : Int) (h : Int) ∧ ∀ p, 0 ≤ p → p < (n : Int) → c (o + 10 + h) p = hx_d (n : Int) (h : Int) p) ∧ (kz_ (n : Int) i ≤ (h : Int) → c (o + 1) (h : Int) = 0 ∧ ∀ p, c (o + 10 + h) p = 0)
theorem hx_hc {o n : Nat} {i : Int} {c : aq_C} (h1 : 1 ≤ n) (h4 : n ≤ 4) (h0 : 0 ≤ i) (hi : i < hN (n : Int)) (h : hx_I o n i c) (hd : ∀ q : Int, 0 ≤ q → q < hx_z (n : Int) → ∀ p, 0 ≤ p → p < (n : Int) → 0 ≤ hx_d (n : Int) q p ∧ hx_d (n : Int) q p ≤ (n : Int)) (hz : kz_ (n : Int) i ≤ hx_z (n : Int)) : hc_I o n c := by
  obtain ⟨a1, a2, a3, a4, a5⟩ := hx_kn (n := (n : Int)) (by omega) (by omega) h0 hi
  refine ⟨fun p p0 p1 => ?_, fun q hq p p0 p1 => ?_, by rw [h.2.1]; exact a2, by rw [h.2.1]; exact a3⟩
  · rw [h.1 p p0 p1]
    have := a5 p p0 p1
    omega
  · have b := h.2.2 q hq
    by_cases e : (q : Int) < kz_ (n : Int) i
    · rw [(b.1 e).2 p p0 p1]
      have := hd q (by omega) (by omega) p p0 p1
      omega
    · rw [(b.2 (by omega)).2 p]
      omega
theorem hx_s0 {o n : Nat} {i : Int} {c d : aq_C} (h1 : 1 ≤ n) (h4 : n ≤ 4) (h0 : 0 ≤ i) (hi : i < hN (n : Int)) (h : hx_I o n i c) (hf : hf_ (n : Int) (dg_n (n : Int) i) 6 0 = 0) (hs : aq_sm (fun a => a = o + 16) c d) (hd : ∀ p, 0 ≤ p → p < (n : Int) → d (o + 16) p = nd_ (n : Int) 6 ((n : Int) - 1) (dg_n (n : Int) i) p) : hx_I o n (i + 1) d := by
  obtain ⟨a1, a2, a3, a4, a5⟩ := hx_kn (n := (n : Int)) (by omega) (by omega) h0 hi
  rw [hf] at a1
  have ek : kz_ (n : Int) (i + 1) = kz_ (n : Int) i := by omega
  refine ⟨fun p p0 p1 => by rw [hd p p0 p1]; exact (a5 p p0 p1).1, by rw [ek, hs _ (by omega)]; exact h.2.1, fun q hq => ?_⟩
  rw [ek]
  have b := h.2.2 q hq
  simp only [hs (o + 1) (by omega), hs (o + 10 + q) (by omega)]
  exact b
theorem hx_s1 {o n : Nat} {i z : Int} {c k d : aq_C} (h1 : 1 ≤ n) (h4 : n ≤ 4) (h0 : 0 ≤ i) (hi : i < hN (n : Int)) (h : hx_I o n i c) (hf : hf_ (n : Int) (dg_n (n : Int) i) 6 0 ≠ 0) (hz : z = kz_ (n : Int) i) (sk : aq_sm (fun a => a = o ∨ a = o + 1 ∨ a = o + 10 + z.toNat) c k) (k1 : k o 6 = z + 1) (k2 : k (o + 1) z = lf_ (n : Int) (c (o + 16)) 6 0 0) (k3 : ∀ i, i ≠ z → k (o + 1) i = c (o + 1) i) (k4 : ∀ i, 0 ≤ i → i < (n : Int) → k (o + 10 + z.toNat) i = c (o + 16) i) (hs : aq_sm (fun a => a = o + 16) k d) (hd : ∀ p, 0 ≤ p → p < (n : Int) → d (o + 16) p = nd_ (n : Int) 6 ((n : Int) - 1) (dg_n (n : Int) i) p) : hx_I o n (i + 1) d := by
  obtain ⟨a1, a2, a3, a4, a5⟩ := hx_kn (n := (n : Int)) (by omega) (by omega) h0 hi
  obtain ⟨b1, b2, b3⟩ := a4 hf
  have hb := hf_b (n := (n : Int)) (f := dg_n (n : Int) i) 6 0
  have ek : kz_ (n : Int) (i + 1) = z + 1 := by omega
  refine ⟨fun p p0 p1 => by rw [hd p p0 p1]; exact (a5 p p0 p1).1, by rw [ek, hs _ (by omega)]; exact k1, fun q hq => ?_⟩
  rw [ek]
  have b := h.2.2 q hq
  by_cases e : (q : Int) = z
  · have eq : z.toNat = q := by omega
    refine ⟨fun _ => ⟨?_, fun p p0 p1 => ?_⟩, fun g => absurd g (by omega)⟩
    · rw [hs _ (by omega), e, k2, lf_c h.1 6 0 0 (by omega), hz]
      exact b2
    · rw [hs _ (by omega), ← eq, k4 p p0 p1, h.1 p p0 p1, b3 p p0 p1, eq, e, hz]
  · have c1 : k (o + 1) (q : Int) = c (o + 1) (q : Int) := k3 _ e
    have c2 : ∀ p, k (o + 10 + q) p = c (o + 10 + q) p := sk _ (by omega)
    refine ⟨fun g => ?_, fun g => ?_⟩
    · have := b.1 (by omega)
      rw [hs _ (by omega), c1]
      exact ⟨this.1, fun p p0 p1 => by rw [hs _ (by omega), c2]; exact this.2 p p0 p1⟩
    · have := b.2 (by omega)
      rw [hs _ (by omega), c1]
      exact ⟨this.1, fun p => by rw [hs _ (by omega), c2]; exact this.2 p⟩
theorem hx_b1 : ∀ n : Nat, 1 ≤ n → n ≤ 4 → ∀ q : Nat, q < 6 → (q : Int) < hx_z (n : Int) → ∀ p : Nat, p < n → 0 ≤ hx_d (n : Int) q p ∧ hx_d (n : Int) q p ≤ (n : Int) := by
  intro n h1 h4
  have hn : n = 1 ∨ n = 2 ∨ n = 3 ∨ n = 4 := by omega
  rcases hn with hn | hn | hn | hn <;> subst hn <;> decide
theorem hx_b {n : Nat} (h1 : 1 ≤ n) (h4 : n ≤ 4) : ∀ q : Int, 0 ≤ q → q < hx_z (n : Int) → ∀ p, 0 ≤ p → p < (n : Int) → 0 ≤ hx_d (n : Int) q p ∧ hx_d (n : Int) q p ≤ (n : Int) := by
  intro q q0 q1 p p0 p1
  have hz : hx_z (n : Int) ≤ 6 := by
    have hn : n = 1 ∨ n = 2 ∨ n = 3 ∨ n = 4 := by omega
    rcases hn with hn | hn | hn | hn <;> subst hn <;> decide
  have := hx_b1 n h1 h4 q.toNat (by omega) (by omega) p.toNat (by omega)
  rw [Int.toNat_of_nonneg q0, Int.toNat_of_nonneg p0] at this
  exact this
theorem kz_z {n : Nat} (h1 : 1 ≤ n) (h4 : n ≤ 4) (i : Int) : kz_ (n : Int) i ≤ hx_z (n : Int) := by
  unfold kz_
  have h := List.length_filter_le (fun q => decide (q < i)) (hk_c (n : Int))
  have hn : n = 1 ∨ n = 2 ∨ n = 3 ∨ n = 4 := by omega
  have e : hx_z (n : Int) = ((hk_c (n : Int)).length : Int) := by
    rcases hn with hn | hn | hn | hn <;> subst hn <;> rfl
  rw [e]
  omega

theorem qx_init_l {m s : Nat} {F : aq_F} {c0 : aq_C} {o n : Nat} (hH : hc_0 m F o n) {D : Int} (hD : D = hN (n : Int)) (hD6 : D ≤ 625) : ∀ (d : Nat) (i : Int) (c : aq_C) (hs : aq_sm (fun a => o ≤ a ∧ a < o + 18) c0 c) (h0 : 0 ≤ i) (h1 : i ≤ D) (hx : hx_I o n i c) (hd : D - i < (d : Int)), am_E ac_X2_init (77, [vR o, vI (n : Int), vI D, vI i], [], aq_h m s F c) (aq_Z m s F (fun a => o ≤ a ∧ a < o + 18) c0 (fun r d => r = none ∧ hx_I o n D d))
  | 0, i, c, hs, h0, h1, hx, hd => by exfalso; omega
  | d + 1, i, c, hs, h0, h1, hx, hd => by
    obtain ⟨hm, hn1, hn4, hFo, hFl, hFg, hFt, hFp, hFq, hFd, hFs⟩ := hH
    refine am_E.go (t2 := (78, [vR o, vI (n : Int), vI D, vI i], [vI i], aq_h m s F c)) rfl rfl ?_
    refine am_E.go (t2 := (79, [vR o, vI (n : Int), vI D, vI i], [vI D, vI i], aq_h m s F c)) rfl rfl ?_
    refine ae_icmp rfl (fun (q_1 : D ≤ i) => ?_) (fun (q_1 : i < D) => ?_)
    · refine am_E.ret rfl rfl ?_
      exact ⟨_, rfl, hs, rfl, by rw [show D = i by omega]; exact hx⟩
    · have hkn := hx_kn (n := (n : Int)) (i := i) (by omega) (by omega) h0 (by omega)
      have hb2 := hkn.2.2.2.1
      refine am_E.go (t2 := (83, [vR o, vI (n : Int), vI D, vI i], [vR o], aq_h m s F c)) rfl rfl ?_
      refine am_E.go (t2 := (84, [vR o, vI (n : Int), vI D, vI i], [vR o, vR o], aq_h m s F c)) rfl rfl ?_
      refine aq_gf (v := vR (o + 16)) rfl (by omega) hFo (by decide) rfl ?_
      show am_E _ (87, [vR o, vI (n : Int), vI D, vI i], [vR (o + 16), vR o], aq_h m s F c) _
      refine aq_callv (y := 2) (as2 := [vR (o + 16)]) (rest := []) rfl rfl (by decide) (Nat.le_of_ble_eq_true rfl) rfl rfl (Nat.le_of_ble_eq_true rfl) (by omega) hFo rfl (Nat.le_of_ble_eq_true rfl) (qx_isHalf ⟨hm, hn1, hn4, hFo, hFl, hFg, hFt, hFp, hFq, hFd, hFs⟩ (hx_hc hn1 hn4 h0 (by omega) hx (hx_b hn1 hn4) (kz_z hn1 hn4 i))) ?_
      rintro r5 h5 ⟨rfl, rfl⟩
      show am_E _ (90, [vR o, vI (n : Int), vI D, vI i], [vI (hf_ (n : Int) (c (o + 16)) 6 0)], aq_h m s F c) _
      have ehf := hf_c (n := (n : Int)) hx.1 (fun q q0 q1 => (hkn.2.2.2.2 q q0 q1).2) 6 0 (by omega)
      rw [ehf]
      refine ae_if0 rfl (fun (q_2 : (hf_ (n : Int) (dg_n (n : Int) i) 6 0) = 0) => ?_) (fun (q_2 : (hf_ (n : Int) (dg_n (n : Int) i) 6 0) ≠ 0) => ?_)
      · refine am_E.go (t2 := (107, [vR o, vI (n : Int), vI D, vI i], [vR o], aq_h m s F c)) rfl rfl ?_
        refine aq_callv (y := 1) (as2 := []) (rest := []) rfl rfl (by decide) (Nat.le_of_ble_eq_true rfl) rfl rfl (Nat.le_of_ble_eq_true rfl) (by omega) hFo rfl (Nat.le_of_ble_eq_true rfl) (qx_nextDraft ⟨hm, hn1, hn4, hFo, hFl, hFg, hFt, hFp, hFq, hFd, hFs⟩ (v := dg_n (n : Int) i) hx.1 (fun q q0 q1 => by have := (hkn.2.2.2.2 q q0 q1).2; omega)) ?_
        rintro r5 h5 ⟨cn, rfl, sn, rfl, nx⟩
        show am_E _ (110, [vR o, vI (n : Int), vI D, vI i], [], aq_h m s F cn) _
        refine ae_iinc rfl rfl (am_ri (by omega) (by omega)) ?_
        show am_E _ (113, [vR o, vI (n : Int), vI D, vI (i + 1)], [], aq_h m s F cn) _
        refine am_E.go (t2 := (77, [vR o, vI (n : Int), vI D, vI (i + 1)], [], aq_h m s F cn)) rfl rfl ?_
        exact qx_init_l ⟨hm, hn1, hn4, hFo, hFl, hFg, hFt, hFp, hFq, hFd, hFs⟩ hD hD6 d (i + 1) cn (aq_smt hs (aq_smi sn (fun a h => by omega))) (by omega) (by omega) (hx_s0 hn1 hn4 h0 (by omega) hx (by omega) sn nx) (by omega)
      · refine am_E.go (t2 := (94, [vR o, vI (n : Int), vI D, vI i], [vR o], aq_h m s F c)) rfl rfl ?_
        refine aq_gf (v := vI (c o 6)) rfl (by omega) hFo (by decide) rfl ?_
        show am_E _ (97, [vR o, vI (n : Int), vI D, vI i], [vI (c o 6)], aq_h m s F c) _
        have f_3 := hx.2.1
        refine am_E.go (t2 := (99, [vR o, vI (n : Int), vI D, vI i], [vI 6, vI (c o 6)], aq_h m s F c)) rfl rfl ?_
        refine ae_icmp rfl (fun (q_4 : 6 ≤ (c o 6)) => ?_) (fun (q_4 : (c o 6) < 6) => ?_)
        · refine am_E.go (t2 := (107, [vR o, vI (n : Int), vI D, vI i], [vR o], aq_h m s F c)) rfl rfl ?_
          refine aq_callv (y := 1) (as2 := []) (rest := []) rfl rfl (by decide) (Nat.le_of_ble_eq_true rfl) rfl rfl (Nat.le_of_ble_eq_true rfl) (by omega) hFo rfl (Nat.le_of_ble_eq_true rfl) (qx_nextDraft ⟨hm, hn1, hn4, hFo, hFl, hFg, hFt, hFp, hFq, hFd, hFs⟩ (v := dg_n (n : Int) i) hx.1 (fun q q0 q1 => by have := (hkn.2.2.2.2 q q0 q1).2; omega)) ?_
          rintro r5 h5 ⟨cn, rfl, sn, rfl, nx⟩
          show am_E _ (110, [vR o, vI (n : Int), vI D, vI i], [], aq_h m s F cn) _
          refine ae_iinc rfl rfl (am_ri (by omega) (by omega)) ?_
          show am_E _ (113, [vR o, vI (n : Int), vI D, vI (i + 1)], [], aq_h m s F cn) _
          refine am_E.go (t2 := (77, [vR o, vI (n : Int), vI D, vI (i + 1)], [], aq_h m s F cn)) rfl rfl ?_
          exact qx_init_l ⟨hm, hn1, hn4, hFo, hFl, hFg, hFt, hFp, hFq, hFd, hFs⟩ hD hD6 d (i + 1) cn (aq_smt hs (aq_smi sn (fun a h => by omega))) (by omega) (by omega) (hx_s0 hn1 hn4 h0 (by omega) hx (by omega) sn nx) (by omega)
        · refine am_E.go (t2 := (103, [vR o, vI (n : Int), vI D, vI i], [vR o], aq_h m s F c)) rfl rfl ?_
          refine aq_callv (y := 1) (as2 := []) (rest := []) rfl rfl (by decide) (Nat.le_of_ble_eq_true rfl) rfl rfl (Nat.le_of_ble_eq_true rfl) (by omega) hFo rfl (Nat.le_of_ble_eq_true rfl) (qx_keepDraft (z := kz_ (n : Int) i) ⟨hm, hn1, hn4, hFo, hFl, hFg, hFt, hFp, hFq, hFd, hFs⟩ hkn.2.1 (by omega) hx.2.1 (by have hb6 := (hx.2.2 (kz_ (n : Int) i).toNat (by omega)).2 (by omega); rw [Int.toNat_of_nonneg hkn.2.1] at hb6; exact hb6.1)) ?_
          rintro r5 h5 ⟨ck, rfl, sk, rfl, k1, k2, k3, k4⟩
          show am_E _ (106, [vR o, vI (n : Int), vI D, vI i], [], aq_h m s F ck) _
          refine am_E.go (t2 := (107, [vR o, vI (n : Int), vI D, vI i], [vR o], aq_h m s F ck)) rfl rfl ?_
          refine aq_callv (y := 1) (as2 := []) (rest := []) rfl rfl (by decide) (Nat.le_of_ble_eq_true rfl) rfl rfl (Nat.le_of_ble_eq_true rfl) (by omega) hFo rfl (Nat.le_of_ble_eq_true rfl) (qx_nextDraft ⟨hm, hn1, hn4, hFo, hFl, hFg, hFt, hFp, hFq, hFd, hFs⟩ (v := dg_n (n : Int) i) (fun q q0 q1 => by rw [sk _ (by have := hkn.2.1; omega)]; exact hx.1 q q0 q1) (fun q q0 q1 => by have := (hkn.2.2.2.2 q q0 q1).2; omega)) ?_
          rintro r5 h5 ⟨cn, rfl, sn, rfl, nx⟩
          show am_E _ (110, [vR o, vI (n : Int), vI D, vI i], [], aq_h m s F cn) _
          refine ae_iinc rfl rfl (am_ri (by omega) (by omega)) ?_
          show am_E _ (113, [vR o, vI (n : Int), vI D, vI (i + 1)], [], aq_h m s F cn) _
          refine am_E.go (t2 := (77, [vR o, vI (n : Int), vI D, vI (i + 1)], [], aq_h m s F cn)) rfl rfl ?_
          exact qx_init_l ⟨hm, hn1, hn4, hFo, hFl, hFg, hFt, hFp, hFq, hFd, hFs⟩ hD hD6 d (i + 1) cn (aq_smt (aq_smt hs (aq_smi sk (fun a h => by have := hkn.2.1; omega))) (aq_smi sn (fun a h => by omega))) (by omega) (by omega) (hx_s1 hn1 hn4 h0 (by omega) hx (by omega) rfl sk k1 k2 k3 k4 sn nx) (by omega)

theorem qc_pw1 {m s : Nat} {F : aq_F} {c : aq_C} {o : Nat} {Z : Option am_V → am_H → Prop} (k : am_E ac_X2_init (77, [vR o, vI 1, vI 2, vI 0], [], aq_h m s F c) Z) : am_E ac_X2_init (54, [vR o, vI 1, vU, vU], [], aq_h m s F c) Z := by
  refine am_E.go (t2 := (55, [vR o, vI 1, vU, vU], [vI 1], aq_h m s F c)) rfl rfl ?_
  refine am_E.go (t2 := (56, [vR o, vI 1, vI 1, vU], [], aq_h m s F c)) rfl rfl ?_
  refine am_E.go (t2 := (57, [vR o, vI 1, vI 1, vU], [vI 0], aq_h m s F c)) rfl rfl ?_
  refine am_E.go (t2 := (58, [vR o, vI 1, vI 1, vI 0], [], aq_h m s F c)) rfl rfl ?_
  refine am_E.go (t2 := (59, [vR o, vI 1, vI 1, vI 0], [vI 0], aq_h m s F c)) rfl rfl ?_
  refine am_E.go (t2 := (60, [vR o, vI 1, vI 1, vI 0], [vI 1, vI 0], aq_h m s F c)) rfl rfl ?_
  refine am_E.go (t2 := (63, [vR o, vI 1, vI 1, vI 0], [], aq_h m s F c)) rfl rfl ?_
  refine am_E.go (t2 := (64, [vR o, vI 1, vI 1, vI 0], [vI 1], aq_h m s F c)) rfl rfl ?_
  refine am_E.go (t2 := (65, [vR o, vI 1, vI 1, vI 0], [vI 1, vI 1], aq_h m s F c)) rfl rfl ?_
  refine am_E.go (t2 := (66, [vR o, vI 1, vI 1, vI 0], [vI 1, vI 1, vI 1], aq_h m s F c)) rfl rfl ?_
  refine am_E.go (t2 := (67, [vR o, vI 1, vI 1, vI 0], [vI 2, vI 1], aq_h m s F c)) rfl rfl ?_
  refine am_E.go (t2 := (68, [vR o, vI 1, vI 1, vI 0], [vI 2], aq_h m s F c)) rfl rfl ?_
  refine am_E.go (t2 := (69, [vR o, vI 1, vI 2, vI 0], [], aq_h m s F c)) rfl rfl ?_
  refine am_E.go (t2 := (72, [vR o, vI 1, vI 2, vI 1], [], aq_h m s F c)) rfl rfl ?_
  refine am_E.go (t2 := (58, [vR o, vI 1, vI 2, vI 1], [], aq_h m s F c)) rfl rfl ?_
  refine am_E.go (t2 := (59, [vR o, vI 1, vI 2, vI 1], [vI 1], aq_h m s F c)) rfl rfl ?_
  refine am_E.go (t2 := (60, [vR o, vI 1, vI 2, vI 1], [vI 1, vI 1], aq_h m s F c)) rfl rfl ?_
  refine am_E.go (t2 := (75, [vR o, vI 1, vI 2, vI 1], [], aq_h m s F c)) rfl rfl ?_
  refine am_E.go (t2 := (76, [vR o, vI 1, vI 2, vI 1], [vI 0], aq_h m s F c)) rfl rfl ?_
  refine am_E.go (t2 := (77, [vR o, vI 1, vI 2, vI 0], [], aq_h m s F c)) rfl rfl ?_
  exact k

theorem qc_pw2 {m s : Nat} {F : aq_F} {c : aq_C} {o : Nat} {Z : Option am_V → am_H → Prop} (k : am_E ac_X2_init (77, [vR o, vI 2, vI 9, vI 0], [], aq_h m s F c) Z) : am_E ac_X2_init (54, [vR o, vI 2, vU, vU], [], aq_h m s F c) Z := by
  refine am_E.go (t2 := (55, [vR o, vI 2, vU, vU], [vI 1], aq_h m s F c)) rfl rfl ?_
  refine am_E.go (t2 := (56, [vR o, vI 2, vI 1, vU], [], aq_h m s F c)) rfl rfl ?_
  refine am_E.go (t2 := (57, [vR o, vI 2, vI 1, vU], [vI 0], aq_h m s F c)) rfl rfl ?_
  refine am_E.go (t2 := (58, [vR o, vI 2, vI 1, vI 0], [], aq_h m s F c)) rfl rfl ?_
  refine am_E.go (t2 := (59, [vR o, vI 2, vI 1, vI 0], [vI 0], aq_h m s F c)) rfl rfl ?_
  refine am_E.go (t2 := (60, [vR o, vI 2, vI 1, vI 0], [vI 2, vI 0], aq_h m s F c)) rfl rfl ?_
  refine am_E.go (t2 := (63, [vR o, vI 2, vI 1, vI 0], [], aq_h m s F c)) rfl rfl ?_
  refine am_E.go (t2 := (64, [vR o, vI 2, vI 1, vI 0], [vI 1], aq_h m s F c)) rfl rfl ?_
  refine am_E.go (t2 := (65, [vR o, vI 2, vI 1, vI 0], [vI 2, vI 1], aq_h m s F c)) rfl rfl ?_
  refine am_E.go (t2 := (66, [vR o, vI 2, vI 1, vI 0], [vI 1, vI 2, vI 1], aq_h m s F c)) rfl rfl ?_
  refine am_E.go (t2 := (67, [vR o, vI 2, vI 1, vI 0], [vI 3, vI 1], aq_h m s F c)) rfl rfl ?_
  refine am_E.go (t2 := (68, [vR o, vI 2, vI 1, vI 0], [vI 3], aq_h m s F c)) rfl rfl ?_
  refine am_E.go (t2 := (69, [vR o, vI 2, vI 3, vI 0], [], aq_h m s F c)) rfl rfl ?_
  refine am_E.go (t2 := (72, [vR o, vI 2, vI 3, vI 1], [], aq_h m s F c)) rfl rfl ?_
  refine am_E.go (t2 := (58, [vR o, vI 2, vI 3, vI 1], [], aq_h m s F c)) rfl rfl ?_
  refine am_E.go (t2 := (59, [vR o, vI 2, vI 3, vI 1], [vI 1], aq_h m s F c)) rfl rfl ?_
  refine am_E.go (t2 := (60, [vR o, vI 2, vI 3, vI 1], [vI 2, vI 1], aq_h m s F c)) rfl rfl ?_
  refine am_E.go (t2 := (63, [vR o, vI 2, vI 3, vI 1], [], aq_h m s F c)) rfl rfl ?_
  refine am_E.go (t2 := (64, [vR o, vI 2, vI 3, vI 1], [vI 3], aq_h m s F c)) rfl rfl ?_
  refine am_E.go (t2 := (65, [vR o, vI 2, vI 3, vI 1], [vI 2, vI 3], aq_h m s F c)) rfl rfl ?_
  refine am_E.go (t2 := (66, [vR o, vI 2, vI 3, vI 1], [vI 1, vI 2, vI 3], aq_h m s F c)) rfl rfl ?_
  refine am_E.go (t2 := (67, [vR o, vI 2, vI 3, vI 1], [vI 3, vI 3], aq_h m s F c)) rfl rfl ?_
  refine am_E.go (t2 := (68, [vR o, vI 2, vI 3, vI 1], [vI 9], aq_h m s F c)) rfl rfl ?_
  refine am_E.go (t2 := (69, [vR o, vI 2, vI 9, vI 1], [], aq_h m s F c)) rfl rfl ?_
  refine am_E.go (t2 := (72, [vR o, vI 2, vI 9, vI 2], [], aq_h m s F c)) rfl rfl ?_
  refine am_E.go (t2 := (58, [vR o, vI 2, vI 9, vI 2], [], aq_h m s F c)) rfl rfl ?_
  refine am_E.go (t2 := (59, [vR o, vI 2, vI 9, vI 2], [vI 2], aq_h m s F c)) rfl rfl ?_
  refine am_E.go (t2 := (60, [vR o, vI 2, vI 9, vI 2], [vI 2, vI 2], aq_h m s F c)) rfl rfl ?_
  refine am_E.go (t2 := (75, [vR o, vI 2, vI 9, vI 2], [], aq_h m s F c)) rfl rfl ?_
  refine am_E.go (t2 := (76, [vR o, vI 2, vI 9, vI 2], [vI 0], aq_h m s F c)) rfl rfl ?_
  refine am_E.go (t2 := (77, [vR o, vI 2, vI 9, vI 0], [], aq_h m s F c)) rfl rfl ?_
  exact k

theorem qc_pw3 {m s : Nat} {F : aq_F} {c : aq_C} {o : Nat} {Z : Option am_V → am_H → Prop} (k : am_E ac_X2_init (77, [vR o, vI 3, vI 64, vI 0], [], aq_h m s F c) Z) : am_E ac_X2_init (54, [vR o, vI 3, vU, vU], [], aq_h m s F c) Z := by
  refine am_E.go (t2 := (55, [vR o, vI 3, vU, vU], [vI 1], aq_h m s F c)) rfl rfl ?_
  refine am_E.go (t2 := (56, [vR o, vI 3, vI 1, vU], [], aq_h m s F c)) rfl rfl ?_
  refine am_E.go (t2 := (57, [vR o, vI 3, vI 1, vU], [vI 0], aq_h m s F c)) rfl rfl ?_
  refine am_E.go (t2 := (58, [vR o, vI 3, vI 1, vI 0], [], aq_h m s F c)) rfl rfl ?_
  refine am_E.go (t2 := (59, [vR o, vI 3, vI 1, vI 0], [vI 0], aq_h m s F c)) rfl rfl ?_
  refine am_E.go (t2 := (60, [vR o, vI 3, vI 1, vI 0], [vI 3, vI 0], aq_h m s F c)) rfl rfl ?_
  refine am_E.go (t2 := (63, [vR o, vI 3, vI 1, vI 0], [], aq_h m s F c)) rfl rfl ?_
  refine am_E.go (t2 := (64, [vR o, vI 3, vI 1, vI 0], [vI 1], aq_h m s F c)) rfl rfl ?_
  refine am_E.go (t2 := (65, [vR o, vI 3, vI 1, vI 0], [vI 3, vI 1], aq_h m s F c)) rfl rfl ?_
  refine am_E.go (t2 := (66, [vR o, vI 3, vI 1, vI 0], [vI 1, vI 3, vI 1], aq_h m s F c)) rfl rfl ?_
  refine am_E.go (t2 := (67, [vR o, vI 3, vI 1, vI 0], [vI 4, vI 1], aq_h m s F c)) rfl rfl ?_
  refine am_E.go (t2 := (68, [vR o, vI 3, vI 1, vI 0], [vI 4], aq_h m s F c)) rfl rfl ?_
  refine am_E.go (t2 := (69, [vR o, vI 3, vI 4, vI 0], [], aq_h m s F c)) rfl rfl ?_
  refine am_E.go (t2 := (72, [vR o, vI 3, vI 4, vI 1], [], aq_h m s F c)) rfl rfl ?_
  refine am_E.go (t2 := (58, [vR o, vI 3, vI 4, vI 1], [], aq_h m s F c)) rfl rfl ?_
  refine am_E.go (t2 := (59, [vR o, vI 3, vI 4, vI 1], [vI 1], aq_h m s F c)) rfl rfl ?_
  refine am_E.go (t2 := (60, [vR o, vI 3, vI 4, vI 1], [vI 3, vI 1], aq_h m s F c)) rfl rfl ?_
  refine am_E.go (t2 := (63, [vR o, vI 3, vI 4, vI 1], [], aq_h m s F c)) rfl rfl ?_
  refine am_E.go (t2 := (64, [vR o, vI 3, vI 4, vI 1], [vI 4], aq_h m s F c)) rfl rfl ?_
  refine am_E.go (t2 := (65, [vR o, vI 3, vI 4, vI 1], [vI 3, vI 4], aq_h m s F c)) rfl rfl ?_
  refine am_E.go (t2 := (66, [vR o, vI 3, vI 4, vI 1], [vI 1, vI 3, vI 4], aq_h m s F c)) rfl rfl ?_
  refine am_E.go (t2 := (67, [vR o, vI 3, vI 4, vI 1], [vI 4, vI 4], aq_h m s F c)) rfl rfl ?_
  refine am_E.go (t2 := (68, [vR o, vI 3, vI 4, vI 1], [vI 16], aq_h m s F c)) rfl rfl ?_
  refine am_E.go (t2 := (69, [vR o, vI 3, vI 16, vI 1], [], aq_h m s F c)) rfl rfl ?_
  refine am_E.go (t2 := (72, [vR o, vI 3, vI 16, vI 2], [], aq_h m s F c)) rfl rfl ?_
  refine am_E.go (t2 := (58, [vR o, vI 3, vI 16, vI 2], [], aq_h m s F c)) rfl rfl ?_
  refine am_E.go (t2 := (59, [vR o, vI 3, vI 16, vI 2], [vI 2], aq_h m s F c)) rfl rfl ?_
  refine am_E.go (t2 := (60, [vR o, vI 3, vI 16, vI 2], [vI 3, vI 2], aq_h m s F c)) rfl rfl ?_
  refine am_E.go (t2 := (63, [vR o, vI 3, vI 16, vI 2], [], aq_h m s F c)) rfl rfl ?_
  refine am_E.go (t2 := (64, [vR o, vI 3, vI 16, vI 2], [vI 16], aq_h m s F c)) rfl rfl ?_
  refine am_E.go (t2 := (65, [vR o, vI 3, vI 16, vI 2], [vI 3, vI 16], aq_h m s F c)) rfl rfl ?_
  refine am_E.go (t2 := (66, [vR o, vI 3, vI 16, vI 2], [vI 1, vI 3, vI 16], aq_h m s F c)) rfl rfl ?_
  refine am_E.go (t2 := (67, [vR o, vI 3, vI 16, vI 2], [vI 4, vI 16], aq_h m s F c)) rfl rfl ?_
  refine am_E.go (t2 := (68, [vR o, vI 3, vI 16, vI 2], [vI 64], aq_h m s F c)) rfl rfl ?_
  refine am_E.go (t2 := (69, [vR o, vI 3, vI 64, vI 2], [], aq_h m s F c)) rfl rfl ?_
  refine am_E.go (t2 := (72, [vR o, vI 3, vI 64, vI 3], [], aq_h m s F c)) rfl rfl ?_
  refine am_E.go (t2 := (58, [vR o, vI 3, vI 64, vI 3], [], aq_h m s F c)) rfl rfl ?_
  refine am_E.go (t2 := (59, [vR o, vI 3, vI 64, vI 3], [vI 3], aq_h m s F c)) rfl rfl ?_
  refine am_E.go (t2 := (60, [vR o, vI 3, vI 64, vI 3], [vI 3, vI 3], aq_h m s F c)) rfl rfl ?_
  refine am_E.go (t2 := (75, [vR o, vI 3, vI 64, vI 3], [], aq_h m s F c)) rfl rfl ?_
  refine am_E.go (t2 := (76, [vR o, vI 3, vI 64, vI 3], [vI 0], aq_h m s F c)) rfl rfl ?_
  refine am_E.go (t2 := (77, [vR o, vI 3, vI 64, vI 0], [], aq_h m s F c)) rfl rfl ?_
  exact k

theorem qc_pw4 {m s : Nat} {F : aq_F} {c : aq_C} {o : Nat} {Z : Option am_V → am_H → Prop} (k : am_E ac_X2_init (77, [vR o, vI 4, vI 625, vI 0], [], aq_h m s F c) Z) : am_E ac_X2_init (54, [vR o, vI 4, vU, vU], [], aq_h m s F c) Z := by
  refine am_E.go (t2 := (55, [vR o, vI 4, vU, vU], [vI 1], aq_h m s F c)) rfl rfl ?_
  refine am_E.go (t2 := (56, [vR o, vI 4, vI 1, vU], [], aq_h m s F c)) rfl rfl ?_
  refine am_E.go (t2 := (57, [vR o, vI 4, vI 1, vU], [vI 0], aq_h m s F c)) rfl rfl ?_
  refine am_E.go (t2 := (58, [vR o, vI 4, vI 1, vI 0], [], aq_h m s F c)) rfl rfl ?_
  refine am_E.go (t2 := (59, [vR o, vI 4, vI 1, vI 0], [vI 0], aq_h m s F c)) rfl rfl ?_
  refine am_E.go (t2 := (60, [vR o, vI 4, vI 1, vI 0], [vI 4, vI 0], aq_h m s F c)) rfl rfl ?_
  refine am_E.go (t2 := (63, [vR o, vI 4, vI 1, vI 0], [], aq_h m s F c)) rfl rfl ?_
  refine am_E.go (t2 := (64, [vR o, vI 4, vI 1, vI 0], [vI 1], aq_h m s F c)) rfl rfl ?_
  refine am_E.go (t2 := (65, [vR o, vI 4, vI 1, vI 0], [vI 4, vI 1], aq_h m s F c)) rfl rfl ?_
  refine am_E.go (t2 := (66, [vR o, vI 4, vI 1, vI 0], [vI 1, vI 4, vI 1], aq_h m s F c)) rfl rfl ?_
  refine am_E.go (t2 := (67, [vR o, vI 4, vI 1, vI 0], [vI 5, vI 1], aq_h m s F c)) rfl rfl ?_
  refine am_E.go (t2 := (68, [vR o, vI 4, vI 1, vI 0], [vI 5], aq_h m s F c)) rfl rfl ?_
  refine am_E.go (t2 := (69, [vR o, vI 4, vI 5, vI 0], [], aq_h m s F c)) rfl rfl ?_
  refine am_E.go (t2 := (72, [vR o, vI 4, vI 5, vI 1], [], aq_h m s F c)) rfl rfl ?_
  refine am_E.go (t2 := (58, [vR o, vI 4, vI 5, vI 1], [], aq_h m s F c)) rfl rfl ?_
  refine am_E.go (t2 := (59, [vR o, vI 4, vI 5, vI 1], [vI 1], aq_h m s F c)) rfl rfl ?_
  refine am_E.go (t2 := (60, [vR o, vI 4, vI 5, vI 1], [vI 4, vI 1], aq_h m s F c)) rfl rfl ?_
  refine am_E.go (t2 := (63, [vR o, vI 4, vI 5, vI 1], [], aq_h m s F c)) rfl rfl ?_
  refine am_E.go (t2 := (64, [vR o, vI 4, vI 5, vI 1], [vI 5], aq_h m s F c)) rfl rfl ?_
  refine am_E.go (t2 := (65, [vR o, vI 4, vI 5, vI 1], [vI 4, vI 5], aq_h m s F c)) rfl rfl ?_
  refine am_E.go (t2 := (66, [vR o, vI 4, vI 5, vI 1], [vI 1, vI 4, vI 5], aq_h m s F c)) rfl rfl ?_
  refine am_E.go (t2 := (67, [vR o, vI 4, vI 5, vI 1], [vI 5, vI 5], aq_h m s F c)) rfl rfl ?_
  refine am_E.go (t2 := (68, [vR o, vI 4, vI 5, vI 1], [vI 25], aq_h m s F c)) rfl rfl ?_
  refine am_E.go (t2 := (69, [vR o, vI 4, vI 25, vI 1], [], aq_h m s F c)) rfl rfl ?_
  refine am_E.go (t2 := (72, [vR o, vI 4, vI 25, vI 2], [], aq_h m s F c)) rfl rfl ?_
  refine am_E.go (t2 := (58, [vR o, vI 4, vI 25, vI 2], [], aq_h m s F c)) rfl rfl ?_
  refine am_E.go (t2 := (59, [vR o, vI 4, vI 25, vI 2], [vI 2], aq_h m s F c)) rfl rfl ?_
  refine am_E.go (t2 := (60, [vR o, vI 4, vI 25, vI 2], [vI 4, vI 2], aq_h m s F c)) rfl rfl ?_
  refine am_E.go (t2 := (63, [vR o, vI 4, vI 25, vI 2], [], aq_h m s F c)) rfl rfl ?_
  refine am_E.go (t2 := (64, [vR o, vI 4, vI 25, vI 2], [vI 25], aq_h m s F c)) rfl rfl ?_
  refine am_E.go (t2 := (65, [vR o, vI 4, vI 25, vI 2], [vI 4, vI 25], aq_h m s F c)) rfl rfl ?_
  refine am_E.go (t2 := (66, [vR o, vI 4, vI 25, vI 2], [vI 1, vI 4, vI 25], aq_h m s F c)) rfl rfl ?_
  refine am_E.go (t2 := (67, [vR o, vI 4, vI 25, vI 2], [vI 5, vI 25], aq_h m s F c)) rfl rfl ?_
  refine am_E.go (t2 := (68, [vR o, vI 4, vI 25, vI 2], [vI 125], aq_h m s F c)) rfl rfl ?_
  refine am_E.go (t2 := (69, [vR o, vI 4, vI 125, vI 2], [], aq_h m s F c)) rfl rfl ?_
  refine am_E.go (t2 := (72, [vR o, vI 4, vI 125, vI 3], [], aq_h m s F c)) rfl rfl ?_
  refine am_E.go (t2 := (58, [vR o, vI 4, vI 125, vI 3], [], aq_h m s F c)) rfl rfl ?_
  refine am_E.go (t2 := (59, [vR o, vI 4, vI 125, vI 3], [vI 3], aq_h m s F c)) rfl rfl ?_
  refine am_E.go (t2 := (60, [vR o, vI 4, vI 125, vI 3], [vI 4, vI 3], aq_h m s F c)) rfl rfl ?_
  refine am_E.go (t2 := (63, [vR o, vI 4, vI 125, vI 3], [], aq_h m s F c)) rfl rfl ?_
  refine am_E.go (t2 := (64, [vR o, vI 4, vI 125, vI 3], [vI 125], aq_h m s F c)) rfl rfl ?_
  refine am_E.go (t2 := (65, [vR o, vI 4, vI 125, vI 3], [vI 4, vI 125], aq_h m s F c)) rfl rfl ?_
  refine am_E.go (t2 := (66, [vR o, vI 4, vI 125, vI 3], [vI 1, vI 4, vI 125], aq_h m s F c)) rfl rfl ?_
  refine am_E.go (t2 := (67, [vR o, vI 4, vI 125, vI 3], [vI 5, vI 125], aq_h m s F c)) rfl rfl ?_
  refine am_E.go (t2 := (68, [vR o, vI 4, vI 125, vI 3], [vI 625], aq_h m s F c)) rfl rfl ?_
  refine am_E.go (t2 := (69, [vR o, vI 4, vI 625, vI 3], [], aq_h m s F c)) rfl rfl ?_
  refine am_E.go (t2 := (72, [vR o, vI 4, vI 625, vI 4], [], aq_h m s F c)) rfl rfl ?_
  refine am_E.go (t2 := (58, [vR o, vI 4, vI 625, vI 4], [], aq_h m s F c)) rfl rfl ?_
  refine am_E.go (t2 := (59, [vR o, vI 4, vI 625, vI 4], [vI 4], aq_h m s F c)) rfl rfl ?_
  refine am_E.go (t2 := (60, [vR o, vI 4, vI 625, vI 4], [vI 4, vI 4], aq_h m s F c)) rfl rfl ?_
  refine am_E.go (t2 := (75, [vR o, vI 4, vI 625, vI 4], [], aq_h m s F c)) rfl rfl ?_
  refine am_E.go (t2 := (76, [vR o, vI 4, vI 625, vI 4], [vI 0], aq_h m s F c)) rfl rfl ?_
  refine am_E.go (t2 := (77, [vR o, vI 4, vI 625, vI 0], [], aq_h m s F c)) rfl rfl ?_
  exact k

theorem qc_pw {m s : Nat} {F : aq_F} {c : aq_C} {o n : Nat} {Z : Option am_V → am_H → Prop} (h1 : 1 ≤ n) (h4 : n ≤ 4) (k : ∀ D : Int, D = hN (n : Int) → D ≤ 625 → am_E ac_X2_init (77, [vR o, vI (n : Int), vI D, vI 0], [], aq_h m s F c) Z) : am_E ac_X2_init (54, [vR o, vI (n : Int), vU, vU], [], aq_h m s F c) Z := by
  have hn : n = 1 ∨ n = 2 ∨ n = 3 ∨ n = 4 := by omega
  rcases hn with hn | hn | hn | hn <;> subst hn
  · exact qc_pw1 (k 2 rfl (by omega))
  · exact qc_pw2 (k 9 rfl (by omega))
  · exact qc_pw3 (k 64 rfl (by omega))
  · exact qc_pw4 (k 625 rfl (by omega))

def hc_t0 : Nat → aq_T := fun j => aq_ot (ac_ft 2 j)
/-- strands is set -/
def hc_t1 (o n : Nat) : Nat → aq_T := fun y => match y with
  | 0 => .inr (vI (n : Int))
  | 2 => .inr (vR (o + 1))
  | 3 => .inr (vR (o + 2))
  | y => hc_t0 y

def hv_Z (o n sT : Nat) (F : aq_F) (c : aq_C) : Option am_V → am_H → Prop := fun r h2 => ∃ (s2 : Nat) (F2 : aq_F) (c2 : aq_C), r = none ∧ h2 = aq_h (o + 18) s2 F2 c2 ∧ s2 ≤ sT ∧ sb_H (o + 18) F2 o n ∧ (∀ b, b < o → F2 b = F b) ∧ ∀ b, b < o → ∀ j, c2 b j = c b j
theorem qc_init {s : Nat} {F : aq_F} {c : aq_C} {o n : Nat} (h1 : 1 ≤ n) (h4 : n ≤ 4) (hF : F o = (12, 7, hc_t0)) (hc : ∀ j, c o j = 0) : am_E ac_X2_init (0, [vR o, vI (n : Int), vU, vU], [], aq_h (o + 1) s F c) (hv_Z o n (s + 200) F c) := by
  refine am_E.go (t2 := (1, [vR o, vI (n : Int), vU, vU], [vR o], aq_h (o + 1) s F c)) rfl rfl ?_
  refine am_E.go (t2 := (4, [vR o, vI (n : Int), vU, vU], [], aq_h (o + 1) s F c)) rfl rfl ?_
  refine am_E.go (t2 := (5, [vR o, vI (n : Int), vU, vU], [vR o], aq_h (o + 1) s F c)) rfl rfl ?_
  refine am_E.go (t2 := (7, [vR o, vI (n : Int), vU, vU], [vI 6, vR o], aq_h (o + 1) s F c)) rfl rfl ?_
  refine aq_stp (o := o) (n := 6) (a := o + 1) (m2 := o + 2) rfl rfl hF (by omega) (by decide) rfl (by omega) rfl (by decide) rfl rfl ?_
  intro s_1 F_1 c_1 es_1 y_1 a_1 o_1 z_1 u_1
  show am_E _ (12, [vR o, vI (n : Int), vU, vU], [], aq_h (o + 2) s_1 F_1 c_1) _
  refine am_E.go (t2 := (13, [vR o, vI (n : Int), vU, vU], [vR o], aq_h (o + 2) s_1 F_1 c_1)) rfl rfl ?_
  refine am_E.go (t2 := (15, [vR o, vI (n : Int), vU, vU], [vI 6, vR o], aq_h (o + 2) s_1 F_1 c_1)) rfl rfl ?_
  refine am_E.go (t2 := (17, [vR o, vI (n : Int), vU, vU], [vI 6, vI 6, vR o], aq_h (o + 2) s_1 F_1 c_1)) rfl rfl ?_
  refine aq_gst (o := o) (n := 6) (w := 6) (a := o + 2) (m2 := o + 9) rfl rfl y_1 (by omega) rfl rfl (by omega) (by omega) rfl (by decide) rfl rfl ?_
  intro s_2 F_2 c_2 es_2 y_2 a_2 r_2 o_2 z_2 u_2
  show am_E _ (24, [vR o, vI (n : Int), vU, vU], [], aq_h (o + 9) s_2 F_2 c_2) _
  refine am_E.go (t2 := (25, [vR o, vI (n : Int), vU, vU], [vR o], aq_h (o + 9) s_2 F_2 c_2)) rfl rfl ?_
  refine am_E.go (t2 := (26, [vR o, vI (n : Int), vU, vU], [vI (n : Int), vR o], aq_h (o + 9) s_2 F_2 c_2)) rfl rfl ?_
  refine aq_pf rfl (by omega) y_2 (by decide) rfl rfl ?_
  show am_E _ (29, [vR o, vI (n : Int), vU, vU], [], aq_h (o + 9) s_2 F_2 (aq_u c_2 o 0 (n : Int))) _
  generalize hd : aq_u c_2 o 0 (n : Int) = c_3
  have z0 : c_3 o 0 = (n : Int) := by rw [← hd, aq_us]
  have zb : ∀ b j, (b ≠ o ∨ j ≠ 0) → c_3 b j = c_2 b j := fun b j hb => by rw [← hd, aq_un hb]
  have ef : aq_h (o + 9) s_2 F_2 c_3 = aq_h (o + 9) s_2 (am_up F_2 o (12, 7, hc_t1 o n)) c_3 := by
    refine aq_eq fun a => ?_
    by_cases e : a = o
    · subst e
      rw [am_up_s, y_2]
      refine ⟨rfl, rfl, fun i => ?_⟩
      match i with
      | 0 => exact congrArg vI z0.symm
      | 1 => rfl
      | 2 => rfl
      | 3 => rfl
      | i + 4 => rfl
    · rw [am_up_n e]
      exact ⟨rfl, rfl, fun i => rfl⟩
  rw [ef]
  have y_3 : am_up F_2 o (12, 7, hc_t1 o n) o = (12, 7, hc_t1 o n) := am_up_s
  have o_3 : ∀ b, b ≠ o → am_up F_2 o (12, 7, hc_t1 o n) b = F_2 b := fun b hb => am_up_n hb
  generalize am_up F_2 o (12, 7, hc_t1 o n) = F_3 at y_3 o_3 ⊢
  show am_E _ (29, [vR o, vI (n : Int), vU, vU], [], aq_h (o + 9) s_2 F_3 c_3) _
  refine am_E.go (t2 := (30, [vR o, vI (n : Int), vU, vU], [vR o], aq_h (o + 9) s_2 F_3 c_3)) rfl rfl ?_
  refine am_E.go (t2 := (32, [vR o, vI (n : Int), vU, vU], [vI 6, vR o], aq_h (o + 9) s_2 F_3 c_3)) rfl rfl ?_
  refine am_E.go (t2 := (33, [vR o, vI (n : Int), vU, vU], [vI (n : Int), vI 6, vR o], aq_h (o + 9) s_2 F_3 c_3)) rfl rfl ?_
  refine aq_gst (o := o) (n := 6) (w := n) (a := o + 9) (m2 := o + 16) rfl rfl y_3 (by omega) rfl rfl (by omega) (by omega) rfl (by decide) rfl rfl ?_
  intro s_4 F_4 c_4 es_4 y_4 a_4 r_4 o_4 z_4 u_4
  show am_E _ (40, [vR o, vI (n : Int), vU, vU], [], aq_h (o + 16) s_4 F_4 c_4) _
  refine am_E.go (t2 := (41, [vR o, vI (n : Int), vU, vU], [vR o], aq_h (o + 16) s_4 F_4 c_4)) rfl rfl ?_
  refine am_E.go (t2 := (42, [vR o, vI (n : Int), vU, vU], [vI (n : Int), vR o], aq_h (o + 16) s_4 F_4 c_4)) rfl rfl ?_
  refine aq_stp (o := o) (n := n) (a := o + 16) (m2 := o + 17) rfl rfl y_4 (by omega) (by decide) rfl (by omega) rfl (by decide) rfl rfl ?_
  intro s_5 F_5 c_5 es_5 y_5 a_5 o_5 z_5 u_5
  show am_E _ (47, [vR o, vI (n : Int), vU, vU], [], aq_h (o + 17) s_5 F_5 c_5) _
  refine am_E.go (t2 := (48, [vR o, vI (n : Int), vU, vU], [vR o], aq_h (o + 17) s_5 F_5 c_5)) rfl rfl ?_
  refine am_E.go (t2 := (49, [vR o, vI (n : Int), vU, vU], [vI (n : Int), vR o], aq_h (o + 17) s_5 F_5 c_5)) rfl rfl ?_
  refine aq_stp (o := o) (n := n) (a := o + 17) (m2 := o + 18) rfl rfl y_5 (by omega) (by decide) rfl (by omega) rfl (by decide) rfl rfl ?_
  intro s_6 F_6 c_6 es_6 y_6 a_6 o_6 z_6 u_6
  show am_E _ (54, [vR o, vI (n : Int), vU, vU], [], aq_h (o + 18) s_6 F_6 c_6) _
  have et : am_up (am_up (am_up (hc_t1 o n) 1 (.inr (vR (o + 9)))) 4 (.inr (vR (o + 16)))) 5 (.inr (vR (o + 17))) = hc_t o n := by
    funext k
    match k with
    | 0 => rfl
    | 1 => rfl
    | 2 => rfl
    | 3 => rfl
    | 4 => rfl
    | 5 => rfl
    | k + 6 =>
      repeat rw [am_up_n (by omega)]
      match k with
      | 0 => rfl
      | k + 1 => rfl
  rw [et] at y_6
  have g1 : F_6 (o + 1) = (0, 6, fun _ => .inl 0) := by rw [o_6 _ (by omega) (by omega), o_5 _ (by omega) (by omega), o_4 _ (by omega) (by omega), o_3 _ (by omega), o_2 _ (by omega) (by omega)]; exact a_1
  have g2 : F_6 (o + 2) = (3, 6, fun j => aq_g 6 j (o + 3 + j)) := by rw [o_6 _ (by omega) (by omega), o_5 _ (by omega) (by omega), o_4 _ (by omega) (by omega), o_3 _ (by omega)]; exact a_2
  have g3 : ∀ j, j < 6 → F_6 (o + 3 + j) = (0, 6, fun _ => .inl 0) := fun j hj => by rw [o_6 _ (by omega) (by omega), o_5 _ (by omega) (by omega), o_4 _ (by omega) (by omega), o_3 _ (by omega)]; exact r_2 j hj
  have g9 : F_6 (o + 9) = (3, 6, fun j => aq_g 6 j (o + 10 + j)) := by rw [o_6 _ (by omega) (by omega), o_5 _ (by omega) (by omega)]; exact a_4
  have g10 : ∀ h, h < 6 → F_6 (o + 10 + h) = (0, n, fun _ => .inl 0) := fun h hh => by rw [o_6 _ (by omega) (by omega), o_5 _ (by omega) (by omega)]; exact r_4 h hh
  have g16 : F_6 (o + 16) = (0, n, fun _ => .inl 0) := by rw [o_6 _ (by omega) (by omega)]; exact a_5
  have gb : ∀ b, b < o → F_6 b = F b := fun b hb => by rw [o_6 _ (by omega) (by omega), o_5 _ (by omega) (by omega), o_4 _ (by omega) (by omega), o_3 _ (by omega), o_2 _ (by omega) (by omega), o_1 _ (by omega) (by omega)]
  have hH : hc_0 (o + 18) F_6 o n := ⟨Nat.le_refl _, h1, h4, y_6, g1, g2, g3, g9, g10, g16, a_6⟩
  have zc : ∀ b, b < o → ∀ j, c_6 b j = c b j := fun b hb j => by rw [u_6 _ (by omega), u_5 _ (by omega), u_4 _ (by omega), zb _ _ (Or.inl (by omega)), u_2 _ (by omega), u_1 _ (by omega)]
  have zd : ∀ j, c_6 (o + 16) j = 0 := fun j => by rw [u_6 _ (by omega)]; exact z_5 j
  have zp : ∀ h, h < 6 → ∀ j, c_6 (o + 10 + h) j = 0 := fun h hh j => by rw [u_6 _ (by omega), u_5 _ (by omega)]; exact z_4 _ (by omega) (by omega) j
  have zo : c_6 o 6 = 0 := by rw [u_6 _ (by omega), u_5 _ (by omega), u_4 _ (by omega), zb _ _ (Or.inr (by decide)), u_2 _ (by omega), u_1 _ (by omega)]; exact hc 6
  have zl : ∀ j, c_6 (o + 1) j = 0 := fun j => by rw [u_6 _ (by omega), u_5 _ (by omega), u_4 _ (by omega), zb _ _ (Or.inl (by omega)), u_2 _ (by omega)]; exact z_1 j
  have hx0 : hx_I o n 0 c_6 := by
    have e0 : kz_ (n : Int) 0 = 0 := by
      have hn : n = 1 ∨ n = 2 ∨ n = 3 ∨ n = 4 := by omega
      rcases hn with hn | hn | hn | hn <;> subst hn <;> decide
    have eg : ∀ (k : Nat) (b : Int), dgt b k 0 = 0 := fun k b => by
      induction k with
      | zero => simp [dgt]
      | succ k ih => rw [dgt, Int.zero_ediv]; exact ih
    refine ⟨fun p _ _ => by rw [zd]; exact (eg _ _).symm, by rw [e0]; exact zo, fun h hh => ⟨fun g => absurd g (by omega), fun _ => ⟨zl _, zp h hh⟩⟩⟩
  refine qc_pw h1 h4 (fun D hD0 hD => ?_)
  have hD1 : 0 ≤ D := by
    rw [hD0]
    unfold hN
    (repeat' split) <;> omega
  refine am_E.imp (qx_init_l hH hD0 hD 626 0 c_6 aq_sm0 (by omega) hD1 hx0 (by omega)) ?_
  rintro r h2 ⟨d, rfl, e1, rfl, hx⟩
  have ekz : kz_ (n : Int) D = hx_z (n : Int) := by
    rw [hD0]
    have hn : n = 1 ∨ n = 2 ∨ n = 3 ∨ n = 4 := by omega
    rcases hn with hn | hn | hn | hn <;> subst hn <;> decide
  have hz6 : hx_z (n : Int) ≤ 6 ∧ 0 ≤ hx_z (n : Int) := by
    have hn : n = 1 ∨ n = 2 ∨ n = 3 ∨ n = 4 := by omega
    rcases hn with hn | hn | hn | hn <;> subst hn <;> decide
  have i3 : 0 ≤ d o 6 := by rw [hx.2.1, ekz]; exact hz6.2
  have i4 : d o 6 ≤ 6 := by rw [hx.2.1, ekz]; exact hz6.1
  have i2 : ∀ h, h < 6 → aq_rg (o + 10 + h) (n : Int) 0 ((n : Int) + 1) d := fun h hh p p0 p1 => by
    have b := hx.2.2 h hh
    by_cases e : (h : Int) < kz_ (n : Int) D
    · rw [(b.1 e).2 p p0 p1]
      have := hx_b h1 h4 h (by omega) (by omega) p p0 p1
      omega
    · rw [(b.2 (by omega)).2 p]
      omega
  have f0 : ∀ a, (a = o + 1 ∨ (o + 10 ≤ a ∧ a < o + 16)) → ∃ w, F_6 a = (0, w, fun _ => .inl 0) := by
    intro a ha
    rcases ha with ha | ha
    · exact ⟨6, by rw [ha]; exact g1⟩
    · have := g10 (a - (o + 10)) (by omega)
      rw [show o + 10 + (a - (o + 10)) = a by omega] at this
      exact ⟨_, this⟩
  rw [aq_fzh f0]
  have q1 : ∀ a, ¬ (a = o + 1 ∨ (o + 10 ≤ a ∧ a < o + 16)) → aq_fz (fun a => a = o + 1 ∨ (o + 10 ≤ a ∧ a < o + 16)) F_6 d a = F_6 a := fun a ha => aq_fzn ha
  have q2 : aq_fz (fun a => a = o + 1 ∨ (o + 10 ≤ a ∧ a < o + 16)) F_6 d (o + 1) = (0, 6, fun j => .inr (vI (d (o + 1) (j : Int)))) := aq_fzy (Or.inl rfl) g1
  have q3 : ∀ h, h < 6 → aq_fz (fun a => a = o + 1 ∨ (o + 10 ≤ a ∧ a < o + 16)) F_6 d (o + 10 + h) = (0, n, fun j => .inr (vI (d (o + 10 + ((h : Int)).toNat) (j : Int)))) := fun h hh => by
    rw [Int.toNat_natCast]
    exact aq_fzy (Or.inr (by omega)) (g10 h hh)
  generalize aq_fz (fun a => a = o + 1 ∨ (o + 10 ≤ a ∧ a < o + 16)) F_6 d = F_7 at q1 q2 q3 ⊢
  have ez : ((d o 6).toNat : Int) = d o 6 := Int.toNat_of_nonneg i3
  have ef2 : aq_h (o + 18) s_6 F_7 d = aq_h (o + 18) s_6 (am_up F_7 o (12, 7, hv_t o n (d o 6).toNat)) d := by
    refine aq_eq fun a => ?_
    by_cases e : a = o
    · subst e
      rw [am_up_s, q1 _ (by omega), y_6]
      refine ⟨rfl, rfl, fun i => ?_⟩
      match i with
      | 0 => rfl
      | 1 => rfl
      | 2 => rfl
      | 3 => rfl
      | 4 => rfl
      | 5 => rfl
      | 6 => exact congrArg vI ez
      | i + 7 => rfl
    · rw [am_up_n e]
      exact ⟨rfl, rfl, fun i => rfl⟩
  rw [ef2]
  refine ⟨s_6, _, d, rfl, rfl, ?_, ⟨(d o 6).toNat, fun i => d (o + 1) i, fun h i => d (o + 10 + h.toNat) i, ⟨Nat.le_refl _, h1, h4, by omega, am_up_s, ?_, ?_, fun j hj => ?_, ?_, fun h hh => ?_, ?_, ?_, fun h p k0 k1 k2 k3 => ?_⟩, ?_, fun h q0 q1 => ?_⟩, fun b hb => ?_, fun b hb j => ?_⟩
  · omega
  · rw [am_up_n (by omega)]; exact q2
  · rw [am_up_n (by omega), q1 _ (by omega)]; exact g2
  · rw [am_up_n (by omega), q1 _ (by omega)]; exact g3 j hj
  · rw [am_up_n (by omega), q1 _ (by omega)]; exact g9
  · rw [am_up_n (by omega)]; exact q3 h hh
  · rw [am_up_n (by omega), q1 _ (by omega)]; exact g16
  · rw [am_up_n (by omega), q1 _ (by omega)]; exact a_6
  · have := i2 h.toNat (by omega) p k2 k3
    show 0 ≤ d (o + 10 + h.toNat) p ∧ d (o + 10 + h.toNat) p ≤ (n : Int)
    omega
  · rw [ez, hx.2.1, ekz]
  · have b := (hx.2.2 h.toNat (by omega)).1 (by omega)
    rw [Int.toNat_of_nonneg q0] at b
    exact b
  · rw [am_up_n (by omega), q1 _ (by omega)]; exact gb b hb
  · rw [e1 _ (by omega)]; exact zc b hb j
theorem sb_Bm {m m2 o n K : Nat} {F F2 : aq_F} (hB : sb_B m F o n K) (hm : m ≤ m2) (h : ∀ b, o ≤ b → b < o + 8 + 3 * K → F2 b = F b) : sb_B m2 F2 o n K := by
  obtain ⟨tP, tG, tN, tR, tL, ⟨a1, a2, a3, a4, a5, a6, a7⟩, ⟨b1, b2, b3⟩, ⟨c1, c2, c3, c4, c5, c6, c7, c8⟩, ⟨d1, d2⟩, e⟩ := hB
  exact ⟨tP, tG, tN, tR, tL, ⟨by omega, a2, a3, a4, by rw [h _ (by omega) (by omega)]; exact a5, by rw [h _ (by omega) (by omega)]; exact a6, by rw [h _ (by omega) (by omega)]; exact a7⟩, ⟨by rw [h _ (by omega) (by omega)]; exact b1, fun b hb => by rw [h _ (by omega) (by omega)]; exact b2 b hb, b3⟩, ⟨by rw [h _ (by omega) (by omega)]; exact c1, by rw [h _ (by omega) (by omega)]; exact c2, fun b hb => by rw [h _ (by omega) (by omega)]; exact c3 b hb, by rw [h _ (by omega) (by omega)]; exact c4, fun b hb => by rw [h _ (by omega) (by omega)]; exact c5 b hb, c6, c7, c8⟩, ⟨by rw [h _ (by omega) (by omega)]; exact d1, d2⟩, e⟩
theorem sb_Hm {m m2 o n : Nat} {F F2 : aq_F} (hH : sb_H m F o n) (hm : m ≤ m2) (h : ∀ b, o ≤ b → b < o + 18 → F2 b = F b) : sb_H m2 F2 o n := by
  obtain ⟨z, tl, th, ⟨a1, a2, a3, a4, a5, a6, a7, a8, a9, b1, b2, b3, b4⟩, b5⟩ := hH
  exact ⟨z, tl, th, ⟨by omega, a2, a3, a4, by rw [h _ (by omega) (by omega)]; exact a5, by rw [h _ (by omega) (by omega)]; exact a6, by rw [h _ (by omega) (by omega)]; exact a7, fun j hj => by rw [h _ (by omega) (by omega)]; exact a8 j hj, by rw [h _ (by omega) (by omega)]; exact a9, fun j hj => by rw [h _ (by omega) (by omega)]; exact b1 j hj, by rw [h _ (by omega) (by omega)]; exact b2, by rw [h _ (by omega) (by omega)]; exact b3, b4⟩, b5⟩
theorem su_0m {m m2 a : Nat} {F F2 : aq_F} (hH : su_0 m F a) (hm : m ≤ m2) (h : ∀ b, a ≤ b → b < a + 4 → F2 b = F b) : su_0 m2 F2 a := by
  obtain ⟨a1, a2, a3, a4, a5⟩ := hH
  exact ⟨by omega, by rw [h _ (by omega) (by omega)]; exact a2, by rw [h _ (by omega) (by omega)]; exact a3, by rw [h _ (by omega) (by omega)]; exact a4, by rw [h _ (by omega) (by omega)]; exact a5⟩
theorem cr_0m {m m2 a : Nat} {F F2 : aq_F} (hH : cr_0 m F a) (hm : m ≤ m2) (h : ∀ b, a ≤ b → b < a + 3 → F2 b = F b) : cr_0 m2 F2 a := by
  obtain ⟨a1, a2, a3, a4⟩ := hH
  exact ⟨by omega, by rw [h _ (by omega) (by omega)]; exact a2, by rw [h _ (by omega) (by omega)]; exact a3, by rw [h _ (by omega) (by omega)]; exact a4⟩
def sb_m (j : Nat) : Nat := if j = 4 then 495 else sb_o j
theorem sb_num : ∀ j, j < 4 → sb_h j = sb_o j + 10 + 3 * sb_K j ∧ sb_m (j + 1) = sb_h j + 18 ∧ 11 ≤ sb_o j ∧ sb_m j = sb_o j ∧ ∀ i, i < j → sb_o i + 28 + 3 * sb_K i ≤ sb_o j ∧ sb_h i = sb_o i + 10 + 3 * sb_K i := by decide
theorem sb_Kn : ∀ j, j < 4 → (sb_K j : Int) = bx_K ((j + 1 : Nat) : Int) := by decide
theorem aq_gu {j : Nat} {f : Nat → Nat} : am_up (fun i => aq_g j i (f i)) j (.inr (vR (f j))) = fun i => aq_g (j + 1) i (f i) := by
  funext i
  unfold am_up aq_g
  by_cases e : i = j
  · rw [if_pos e, if_pos (by omega), e]
  · rw [if_neg e]
    show (Sum.inr (if i < j then vR (f i) else vN) : aq_T) = Sum.inr (if i < j + 1 then vR (f i) else vN)
    by_cases e2 : i < j
    · rw [if_pos e2, if_pos (by omega)]
    · rw [if_neg e2, if_neg (by omega)]
theorem aq_g0 {f : Nat → Nat} : (fun _ => .inr vN : Nat → aq_T) = fun i => aq_g 0 i (f i) := by
  funext i
  unfold aq_g
  rw [if_neg (by omega)]
/-- behind j of the rounds: what is there -/
def sb_D (j m : Nat) (F : aq_F) (c : aq_C) : Prop := F 0 = (14, 5, sb_t) ∧ F 1 = (4, 4, fun i => aq_g j i (sb_o i)) ∧ F 2 = (5, 4, fun i => aq_g j i (sb_h i)) ∧ F 3 = (6, 8, fun _ => .inr vN) ∧ su_0 m F 4 ∧ cr_0 m F 8 ∧ (cr_l 8 c ∧ c 8 0 = 2 ∧ c 8 1 = 0) ∧ (∀ i, i < j → sb_B m F (sb_o i) (i + 1) (sb_K i)) ∧ (∀ i, i < j → sb_H m F (sb_h i) (i + 1)) ∧ ∀ i, i < j → aq_rg (sb_o i + 6 + 3 * sb_K i) (2 * ((i + 1 : Nat) : Int)) 0 (2 * ((i + 1 : Nat) : Int)) c
theorem sb_step {s j : Nat} {F : aq_F} {c : aq_C} {Z : Option am_V → am_H → Prop} (hj : j < 4) (hD : sb_D j (sb_m j) F c) (k : ∀ (s2 : Nat) (F2 : aq_F) (c2 : aq_C), s2 ≤ s + 3200 → sb_D (j + 1) (sb_m (j + 1)) F2 c2 → am_E ac_X4_init (53, [vR 0, vI ((j + 1 + 1 : Nat) : Int)], [], aq_h (sb_m (j + 1)) s2 F2 c2) Z) : am_E ac_X4_init (53, [vR 0, vI ((j + 1 : Nat) : Int)], [], aq_h (sb_m j) s F c) Z := by
  obtain ⟨n1, n2, n3, n4, n5⟩ := sb_num j hj
  have hK := sb_Kn j hj
  rw [n2, n1] at k
  obtain ⟨d0, d1, d2, d3, d4, d8, dl, dB, dH, dr⟩ := hD
  rw [n4] at d4 d8 dB dH ⊢
  have eo := aq_gu (j := j) (f := sb_o)
  have eh := aq_gu (j := j) (f := sb_h)
  rw [n1] at eh
  obtain ⟨o, ho⟩ : ∃ o, sb_o j = o := ⟨_, rfl⟩
  obtain ⟨K, hKK⟩ : ∃ K, sb_K j = K := ⟨_, rfl⟩
  rw [ho] at n3 n5 d4 d8 dB dH ⊢
  rw [ho, hKK] at k eh
  rw [ho] at eo
  rw [hKK] at hK
  refine am_E.go (t2 := (54, [vR 0, vI ((j + 1 : Nat) : Int)], [vI ((j + 1 : Nat) : Int)], aq_h o s F c)) rfl rfl ?_
  refine am_E.go (t2 := (55, [vR 0, vI ((j + 1 : Nat) : Int)], [vI 4, vI ((j + 1 : Nat) : Int)], aq_h o s F c)) rfl rfl ?_
  refine ae_icmp rfl (fun (q : (4 : Int) < ((j + 1 : Nat) : Int)) => absurd q (by omega)) (fun _ => ?_)
  refine am_E.go (t2 := (59, [vR 0, vI ((j + 1 : Nat) : Int)], [vR 0], aq_h o s F c)) rfl rfl ?_
  refine aq_gf (v := vR 1) rfl (by omega) d0 (by decide) rfl ?_
  refine am_E.go (t2 := (63, [vR 0, vI ((j + 1 : Nat) : Int)], [vI ((j + 1 : Nat) : Int), vR 1], aq_h o s F c)) rfl rfl ?_
  refine am_E.go (t2 := (64, [vR 0, vI ((j + 1 : Nat) : Int)], [vI 1, vI ((j + 1 : Nat) : Int), vR 1], aq_h o s F c)) rfl rfl ?_
  refine ae_sub rfl (am_ri (by omega) (by omega)) ?_
  refine aq_new (a := o) (m2 := o + 1) rfl rfl rfl ?_
  intro s_1 F_1 c_1 es_1 y_1 o_1 z_1 u_1
  refine am_E.go (t2 := (69, [vR 0, vI ((j + 1 : Nat) : Int)], [vR o, vR o, vI (((j + 1 : Nat) : Int) - 1), vR 1], aq_h (o + 1) s_1 F_1 c_1)) rfl rfl ?_
  refine am_E.go (t2 := (70, [vR 0, vI ((j + 1 : Nat) : Int)], [vI ((j + 1 : Nat) : Int), vR o, vR o, vI (((j + 1 : Nat) : Int) - 1), vR 1], aq_h (o + 1) s_1 F_1 c_1)) rfl rfl ?_
  refine aq_callv (y := 2) (as2 := [vI ((j + 1 : Nat) : Int)]) (rest := [vR o, vI (((j + 1 : Nat) : Int) - 1), vR 1]) rfl rfl (by decide) (Nat.le_of_ble_eq_true rfl) rfl rfl (Nat.le_of_ble_eq_true rfl) (by omega) y_1 rfl (Nat.le_of_ble_eq_true rfl) (qb_init (n := j + 1) (K := K) (by omega) (by omega) hK y_1 z_1) ?_
  rintro r5 h5 ⟨s_2, F_2, c_2, rfl, rfl, es_2, gB, o_2, u_2, gr⟩
  show am_E _ (73, [vR 0, vI ((j + 1 : Nat) : Int)], [vR o, vI (((j + 1 : Nat) : Int) - 1), vR 1], aq_h (o + 10 + 3 * K) s_2 F_2 c_2) _
  have g1 : F_2 1 = (4, 4, fun i => aq_g j i (sb_o i)) := by rw [o_2 _ (by omega), o_1 _ (by omega)]; exact d1
  have gO : ∃ t, F_2 o = (10, 11, t) := by
    obtain ⟨_, _, _, _, _, hb, _⟩ := gB
    exact ⟨_, hb.2.2.2.2.1⟩
  obtain ⟨tO, gO⟩ := gO
  refine aq_aas (a := 1) (b := o) (kd := 4) (j := j) rfl (by omega) (by omega) g1 gO (by decide) (by decide) (by omega) hj ?_
  intro F_3 y_3 o_3
  rw [eo] at y_3
  show am_E _ (74, [vR 0, vI ((j + 1 : Nat) : Int)], [], aq_h (o + 10 + 3 * K) s_2 F_3 c_2) _
  have e0 : F_3 0 = (14, 5, sb_t) := by rw [o_3 _ (by omega), o_2 _ (by omega), o_1 _ (by omega)]; exact d0
  refine am_E.go (t2 := (75, [vR 0, vI ((j + 1 : Nat) : Int)], [vR 0], aq_h (o + 10 + 3 * K) s_2 F_3 c_2)) rfl rfl ?_
  refine aq_gf (v := vR 2) rfl (by omega) e0 (by decide) rfl ?_
  refine am_E.go (t2 := (79, [vR 0, vI ((j + 1 : Nat) : Int)], [vI ((j + 1 : Nat) : Int), vR 2], aq_h (o + 10 + 3 * K) s_2 F_3 c_2)) rfl rfl ?_
  refine am_E.go (t2 := (80, [vR 0, vI ((j + 1 : Nat) : Int)], [vI 1, vI ((j + 1 : Nat) : Int), vR 2], aq_h (o + 10 + 3 * K) s_2 F_3 c_2)) rfl rfl ?_
  refine ae_sub rfl (am_ri (by omega) (by omega)) ?_
  obtain ⟨q, hq⟩ : ∃ q, o + 10 + 3 * K = q := ⟨_, rfl⟩
  rw [hq] at gB k eh ⊢
  refine aq_new (a := q) (m2 := q + 1) rfl rfl rfl ?_
  intro s_4 F_4 c_4 es_4 y_4 o_4 z_4 u_4
  refine am_E.go (t2 := (85, [vR 0, vI ((j + 1 : Nat) : Int)], [vR q, vR q, vI (((j + 1 : Nat) : Int) - 1), vR 2], aq_h (q + 1) s_4 F_4 c_4)) rfl rfl ?_
  refine am_E.go (t2 := (86, [vR 0, vI ((j + 1 : Nat) : Int)], [vI ((j + 1 : Nat) : Int), vR q, vR q, vI (((j + 1 : Nat) : Int) - 1), vR 2], aq_h (q + 1) s_4 F_4 c_4)) rfl rfl ?_
  refine aq_callv (y := 2) (as2 := [vI ((j + 1 : Nat) : Int)]) (rest := [vR q, vI (((j + 1 : Nat) : Int) - 1), vR 2]) rfl rfl (by decide) (Nat.le_of_ble_eq_true rfl) rfl rfl (Nat.le_of_ble_eq_true rfl) (by omega) y_4 rfl (Nat.le_of_ble_eq_true rfl) (qc_init (n := j + 1) (by omega) (by omega) y_4 z_4) ?_
  rintro r6 h6 ⟨s_5, F_5, c_5, rfl, rfl, es_5, gH, o_5, u_5⟩
  show am_E _ (89, [vR 0, vI ((j + 1 : Nat) : Int)], [vR q, vI (((j + 1 : Nat) : Int) - 1), vR 2], aq_h (q + 18) s_5 F_5 c_5) _
  have g2 : F_5 2 = (5, 4, fun i => aq_g j i (sb_h i)) := by rw [o_5 _ (by omega), o_4 _ (by omega), o_3 _ (by omega), o_2 _ (by omega), o_1 _ (by omega)]; exact d2
  have gQ : ∃ t, F_5 q = (12, 7, t) := by
    obtain ⟨_, _, _, hb, _⟩ := gH
    exact ⟨_, hb.2.2.2.2.1⟩
  obtain ⟨tQ, gQ⟩ := gQ
  refine aq_aas (a := 2) (b := q) (kd := 5) (j := j) rfl (by omega) (by omega) g2 gQ (by decide) (by decide) (by omega) hj ?_
  intro F_6 y_6 o_6
  rw [eh] at y_6
  show am_E _ (90, [vR 0, vI ((j + 1 : Nat) : Int)], [], aq_h (q + 18) s_5 F_6 c_5) _
  refine ae_iinc rfl rfl (am_ri (by omega) (by omega)) ?_
  show am_E _ (93, [vR 0, vI (((j + 1 : Nat) : Int) + 1)], [], aq_h (q + 18) s_5 F_6 c_5) _
  rw [show ((j + 1 : Nat) : Int) + 1 = ((j + 1 + 1 : Nat) : Int) by omega]
  refine am_E.go (t2 := (53, [vR 0, vI ((j + 1 + 1 : Nat) : Int)], [], aq_h (q + 18) s_5 F_6 c_5)) rfl rfl ?_
  have Fb : ∀ b, b < o → b ≠ 1 → b ≠ 2 → F_6 b = F b := fun b h1 h2 h3 => by rw [o_6 _ h3, o_5 _ (by omega), o_4 _ (by omega), o_3 _ h2, o_2 _ (by omega), o_1 _ (by omega)]
  have cb : ∀ b, b < o → ∀ i, c_5 b i = c b i := fun b h1 i => by rw [u_5 _ (by omega), u_4 _ (by omega), u_2 _ (by omega), u_1 _ (by omega)]
  have Fo : ∀ b, o ≤ b → b < q → F_6 b = F_2 b := fun b h1 h2 => by rw [o_6 _ (by omega), o_5 _ (by omega), o_4 _ (by omega), o_3 _ (by omega)]
  have co : ∀ b, o ≤ b → b < q → ∀ i, c_5 b i = c_2 b i := fun b h1 h2 i => by rw [u_5 _ (by omega), u_4 _ (by omega)]
  refine k s_5 F_6 c_5 (by omega) ⟨by rw [Fb _ (by omega) (by omega) (by omega)]; exact d0, ?_, y_6, by rw [Fb _ (by omega) (by omega) (by omega)]; exact d3, su_0m d4 (by omega) (fun b h1 h2 => Fb b (by omega) (by omega) (by omega)), cr_0m d8 (by omega) (fun b h1 h2 => Fb b (by omega) (by omega) (by omega)), ⟨cr_lc (cb 8 (by omega)) (cb 9 (by omega)) dl.1, by rw [cb 8 (by omega)]; exact dl.2.1, by rw [cb 8 (by omega)]; exact dl.2.2⟩, fun i hi => ?_, fun i hi => ?_, fun i hi => ?_⟩
  · rw [o_6 _ (by omega), o_5 _ (by omega), o_4 _ (by omega)]
    exact y_3
  · by_cases e : i = j
    · subst e
      rw [ho, hKK]
      exact sb_Bm gB (by omega) (fun b h1 h2 => Fo b h1 (by omega))
    · have n6 := n5 i (by omega)
      have n7 := (sb_num i (by omega)).2.2.1
      exact sb_Bm (dB i (by omega)) (by omega) (fun b h1 h2 => Fb b (by omega) (by omega) (by omega))
  · by_cases e : i = j
    · subst e
      rw [n1, ho, hKK, hq]
      exact sb_Hm gH (by omega) (fun b h1 h2 => o_6 _ (by omega))
    · have n6 := n5 i (by omega)
      have n7 := (sb_num i (by omega)).2.2.1
      exact sb_Hm (dH i (by omega)) (by omega) (fun b h1 h2 => Fb b (by omega) (by omega) (by omega))
  · by_cases e : i = j
    · subst e
      rw [ho, hKK]
      intro x x0 x1
      rw [co _ (by omega) (by omega)]
      exact gr x x0 x1
    · have n6 := n5 i (by omega)
      intro x x0 x1
      rw [cb _ (by omega)]
      exact dr i (by omega) x x0 x1
theorem su_t0e : (fun j => aq_ot (ac_ft 3 j)) = su_t0 := by
  funext j
  match j with
  | 0 => rfl
  | 1 => rfl
  | 2 => rfl
  | 3 => rfl
  | 4 => rfl
  | j + 5 => rfl
theorem cr_t0e : (fun j => aq_ot (ac_ft 1 j)) = cr_t0 := by
  funext j
  match j with
  | 0 => rfl
  | 1 => rfl
  | 2 => rfl
  | 3 => rfl
  | 4 => rfl
  | j + 5 => rfl
/-- behind the sums before j -/
def sb_E (j : Nat) (m : Nat) (F : aq_F) (c : aq_C) : Prop := F 0 = (14, 5, sb_t) ∧ F 1 = (4, 4, fun j => aq_g 4 j (sb_o j)) ∧ F 2 = (5, 4, fun j => aq_g 4 j (sb_h j)) ∧ F 3 = (6, 8, fun i => aq_g j i (495 + 4 * i)) ∧ su_0 m F 4 ∧ cr_0 m F 8 ∧ (∀ i, i < j → su_0 m F (495 + 4 * i)) ∧ (∀ i, i < 4 → sb_B m F (sb_o i) (i + 1) (sb_K i)) ∧ (∀ i, i < 4 → sb_H m F (sb_h i) (i + 1)) ∧ (∀ i, i < 4 → aq_rg (sb_o i + 6 + 3 * sb_K i) (2 * ((i + 1 : Nat) : Int)) 0 (2 * ((i + 1 : Nat) : Int)) c) ∧ (cr_l 8 c ∧ c 8 0 = 2 ∧ c 8 1 = 0) ∧ ∀ i, i < j → sb_u (495 + 4 * i) c ∧ c (495 + 4 * i) 0 = 2 ∧ c (495 + 4 * i) 1 = 0
theorem sb_end4 : ∀ i, i < 4 → 11 ≤ sb_o i ∧ sb_o i + 10 + 3 * sb_K i = sb_h i ∧ sb_h i + 18 ≤ 495 := by decide
theorem sb_su {s j : Nat} {F : aq_F} {c : aq_C} {Z : Option am_V → am_H → Prop} (hj : j < 8) (hE : sb_E j (495 + 4 * j) F c) (k : ∀ (s2 : Nat) (F2 : aq_F) (c2 : aq_C), s2 ≤ s + 200 → sb_E (j + 1) (495 + 4 * (j + 1)) F2 c2 → am_E ac_X4_init (98, [vR 0, vI ((j + 1 : Nat) : Int)], [], aq_h (495 + 4 * (j + 1)) s2 F2 c2) Z) : am_E ac_X4_init (98, [vR 0, vI ((j : Nat) : Int)], [], aq_h (495 + 4 * j) s F c) Z := by
  obtain ⟨d0, d1, d2, d3, d4, d8, ds, dB, dH, dr, dl, du⟩ := hE
  obtain ⟨a, ha⟩ : ∃ a, 495 + 4 * j = a := ⟨_, rfl⟩
  have eo := aq_gu (j := j) (f := fun i => 495 + 4 * i)
  simp only [ha] at eo
  rw [show 495 + 4 * (j + 1) = a + 4 by omega] at k
  rw [ha] at d4 d8 ds dB dH ⊢
  refine am_E.go (t2 := (99, [vR 0, vI (j : Int)], [vI (j : Int)], aq_h a s F c)) rfl rfl ?_
  refine am_E.go (t2 := (101, [vR 0, vI (j : Int)], [vI 8, vI (j : Int)], aq_h a s F c)) rfl rfl ?_
  refine ae_icmp rfl (fun (q : (8 : Int) ≤ (j : Int)) => absurd q (by omega)) (fun _ => ?_)
  refine am_E.go (t2 := (105, [vR 0, vI (j : Int)], [vR 0], aq_h a s F c)) rfl rfl ?_
  refine aq_gf (v := vR 3) rfl (by omega) d0 (by decide) rfl ?_
  refine am_E.go (t2 := (109, [vR 0, vI (j : Int)], [vI (j : Int), vR 3], aq_h a s F c)) rfl rfl ?_
  refine aq_new (a := a) (m2 := a + 1) rfl rfl rfl ?_
  intro s_1 F_1 c_1 es_1 y_1 o_1 z_1 u_1
  rw [su_t0e] at y_1
  refine am_E.go (t2 := (113, [vR 0, vI (j : Int)], [vR a, vR a, vI (j : Int), vR 3], aq_h (a + 1) s_1 F_1 c_1)) rfl rfl ?_
  refine aq_callv (y := 1) (as2 := []) (rest := [vR a, vI (j : Int), vR 3]) rfl rfl (by decide) (Nat.le_of_ble_eq_true rfl) rfl rfl (Nat.le_of_ble_eq_true rfl) (by omega) y_1 rfl (Nat.le_of_ble_eq_true rfl) (qn_X3_init y_1) ?_
  rintro r5 h5 ⟨F_2, c_2, rfl, rfl, gS, o_2, u_2, w0, w1⟩
  obtain ⟨s_2, hs2⟩ : ∃ s2, s_1 + 120 = s2 := ⟨_, rfl⟩
  rw [hs2]
  show am_E _ (116, [vR 0, vI (j : Int)], [vR a, vI (j : Int), vR 3], aq_h (a + 4) s_2 F_2 c_2) _
  have g3 : F_2 3 = (6, 8, fun i => aq_g j i (495 + 4 * i)) := by rw [o_2 _ (by omega), o_1 _ (by omega)]; exact d3
  refine aq_aas (a := 3) (b := a) (kd := 6) (j := j) rfl (by omega) (by omega) g3 gS.2.1 (by decide) (by decide) rfl hj ?_
  intro F_3 y_3 o_3
  rw [eo] at y_3
  show am_E _ (117, [vR 0, vI (j : Int)], [], aq_h (a + 4) s_2 F_3 c_2) _
  refine ae_iinc rfl rfl (am_ri (by omega) (by omega)) ?_
  show am_E _ (120, [vR 0, vI ((j : Int) + 1)], [], aq_h (a + 4) s_2 F_3 c_2) _
  rw [show (j : Int) + 1 = ((j + 1 : Nat) : Int) by omega]
  refine am_E.go (t2 := (98, [vR 0, vI ((j + 1 : Nat) : Int)], [], aq_h (a + 4) s_2 F_3 c_2)) rfl rfl ?_
  have Fb : ∀ b, b < a → b ≠ 3 → F_3 b = F b := fun b h1 h2 => by rw [o_3 _ h2, o_2 _ (by omega), o_1 _ (by omega)]
  have cb : ∀ b, b < a → ∀ i, c_2 b i = c b i := fun b h1 i => by rw [u_2 _ h1, u_1 _ (by omega)]
  refine k s_2 F_3 c_2 (by omega) ⟨by rw [Fb _ (by omega) (by omega)]; exact d0, by rw [Fb _ (by omega) (by omega)]; exact d1, by rw [Fb _ (by omega) (by omega)]; exact d2, y_3, su_0m d4 (by omega) (fun b h1 h2 => Fb b (by omega) (by omega)), cr_0m d8 (by omega) (fun b h1 h2 => Fb b (by omega) (by omega)), fun i hi => ?_, fun i hi => ?_, fun i hi => ?_, fun i hi => ?_, ⟨cr_lc (cb 8 (by omega)) (cb 9 (by omega)) dl.1, by rw [cb 8 (by omega)]; exact dl.2.1, by rw [cb 8 (by omega)]; exact dl.2.2⟩, fun i hi => ?_⟩
  · by_cases e : i = j
    · subst e
      rw [ha]
      exact su_0m gS (by omega) (fun b h1 h2 => o_3 b (by omega))
    · exact su_0m (ds i (by omega)) (by omega) (fun b h1 h2 => Fb b (by omega) (by omega))
  · have n6 := sb_end4 i hi
    exact sb_Bm (dB i hi) (by omega) (fun b h1 h2 => Fb b (by omega) (by omega))
  · have n6 := sb_end4 i hi
    exact sb_Hm (dH i hi) (by omega) (fun b h1 h2 => Fb b (by omega) (by omega))
  · have n6 := sb_end4 i hi
    intro x x0 x1
    rw [cb _ (by omega)]
    exact dr i hi x x0 x1
  · by_cases e : i = j
    · subst e
      rw [ha]
      have v1 : c_2 a 1 = 0 := by rw [w1 1 (by decide)]; exact z_1 1
      exact ⟨⟨by omega, by omega, by omega, by omega, fun i i0 i1 => absurd i1 (by omega)⟩, w0, v1⟩
    · have d9 := du i (by omega)
      exact ⟨sb_uc (cb _ (by omega)) (cb _ (by omega)) (cb _ (by omega)) d9.1, by rw [cb _ (by omega)]; exact d9.2.1, by rw [cb _ (by omega)]; exact d9.2.2⟩
def cl_Z (sT : Nat) : Option am_V → am_H → Prop := fun r h2 => ∃ (s2 : Nat) (F2 : aq_F) (c2 : aq_C), r = none ∧ h2 = aq_h 527 s2 F2 c2 ∧ s2 ≤ sT ∧ sb_C 527 F2 ∧ cl_I c2 ∧ c2 8 0 = 2 ∧ c2 8 1 = 0 ∧ ∀ j, j < 8 → c2 (495 + 4 * j) 0 = 2 ∧ c2 (495 + 4 * j) 1 = 0
theorem sb_ret {s : Nat} {F : aq_F} {c : aq_C} (hE : sb_E 8 527 F c) : am_E ac_X4_init (98, [vR 0, vI ((8 : Nat) : Int)], [], aq_h 527 s F c) (cl_Z s) := by
  obtain ⟨d0, d1, d2, d3, d4, d8, ds, dB, dH, dr, dl, du⟩ := hE
  refine am_E.go (t2 := (99, [vR 0, vI ((8 : Nat) : Int)], [vI ((8 : Nat) : Int)], aq_h 527 s F c)) rfl rfl ?_
  refine am_E.go (t2 := (101, [vR 0, vI ((8 : Nat) : Int)], [vI 8, vI ((8 : Nat) : Int)], aq_h 527 s F c)) rfl rfl ?_
  refine ae_icmp rfl (fun _ => ?_) (fun (q : ((8 : Nat) : Int) < 8) => absurd q (by omega))
  exact am_E.ret rfl rfl ⟨s, F, c, rfl, rfl, Nat.le_refl _, ⟨Nat.le_refl _, d0, d1, d2, d3, d4, d8, ds, dB, dH⟩, ⟨dr, dl.1, fun i hi => (du i hi).1⟩, dl.2.1, dl.2.2, fun i hi => (du i hi).2⟩
theorem sb_mid {s : Nat} {F : aq_F} {c : aq_C} (hD : sb_D 4 495 F c) : am_E ac_X4_init (53, [vR 0, vI ((4 + 1 : Nat) : Int)], [], aq_h 495 s F c) (cl_Z (s + 2000)) := by
  obtain ⟨d0, d1, d2, d3, d4, d8, dl, dB, dH, dr⟩ := hD
  refine am_E.go (t2 := (54, [vR 0, vI ((4 + 1 : Nat) : Int)], [vI ((4 + 1 : Nat) : Int)], aq_h 495 s F c)) rfl rfl ?_
  refine am_E.go (t2 := (55, [vR 0, vI ((4 + 1 : Nat) : Int)], [vI 4, vI ((4 + 1 : Nat) : Int)], aq_h 495 s F c)) rfl rfl ?_
  refine ae_icmp rfl (fun _ => ?_) (fun (q : ((4 + 1 : Nat) : Int) ≤ 4) => absurd q (by omega))
  refine am_E.go (t2 := (97, [vR 0, vI ((4 + 1 : Nat) : Int)], [vI 0], aq_h 495 s F c)) rfl rfl ?_
  refine am_E.go (t2 := (98, [vR 0, vI ((0 : Nat) : Int)], [], aq_h 495 s F c)) rfl rfl ?_
  refine sb_su (j := 0) (by decide) ⟨d0, d1, d2, by rw [d3, aq_g0], d4, d8, fun i hi => absurd hi (by omega), dB, dH, dr, dl, fun i hi => absurd hi (by omega)⟩ (fun s1 F1 c1 e1 g1 => ?_)
  refine sb_su (j := 1) (by decide) g1 (fun s2 F2 c2 e2 g2 => ?_)
  refine sb_su (j := 2) (by decide) g2 (fun s3 F3 c3 e3 g3 => ?_)
  refine sb_su (j := 3) (by decide) g3 (fun s4 F4 c4 e4 g4 => ?_)
  refine sb_su (j := 4) (by decide) g4 (fun s5 F5 c5 e5 g5 => ?_)
  refine sb_su (j := 5) (by decide) g5 (fun s6 F6 c6 e6 g6 => ?_)
  refine sb_su (j := 6) (by decide) g6 (fun s7 F7 c7 e7 g7 => ?_)
  refine sb_su (j := 7) (by decide) g7 (fun s8 F8 c8 e8 g8 => ?_)
  refine am_E.imp (sb_ret g8) ?_
  rintro r h2 ⟨s9, F9, c9, q1, q2, q3, q4, q5⟩
  exact ⟨s9, F9, c9, q1, q2, by omega, q4, q5⟩
/-- THE CLASS'S CONSTRUCTOR: from a new object at 0 -/
theorem qn_X4_init {s : Nat} {F : aq_F} {c : aq_C} (hF : F 0 = (14, 5, fun j => aq_ot (ac_ft 4 j))) : am_E ac_X4_init (0, [vR 0, vU], [], aq_h 1 s F c) (cl_Z (s + 20000)) := by
  refine am_E.go (t2 := (1, [vR 0, vU], [vR 0], aq_h 1 s F c)) rfl rfl ?_
  refine am_E.go (t2 := (4, [vR 0, vU], [], aq_h 1 s F c)) rfl rfl ?_
  refine am_E.go (t2 := (5, [vR 0, vU], [vR 0], aq_h 1 s F c)) rfl rfl ?_
  refine am_E.go (t2 := (6, [vR 0, vU], [vI 4, vR 0], aq_h 1 s F c)) rfl rfl ?_
  refine aq_nwr (n := 4) (a := 1) (m2 := 2) rfl (by decide) rfl (by decide) rfl rfl (fun s_1 F_1 c_1 es_1 a_1 o_1 u_1 => ?_)
  refine aq_pfr (pc := 9) (o := 0) (N := 5) rfl (by decide) (by rw [o_1 _ (by decide)]; exact hF) (by decide) rfl (fun F_2 y_2 o_2 => ?_)
  refine am_E.go (t2 := (13, [vR 0, vU], [vR 0], aq_h 2 s_1 F_2 c_1)) rfl rfl ?_
  refine am_E.go (t2 := (14, [vR 0, vU], [vI 4, vR 0], aq_h 2 s_1 F_2 c_1)) rfl rfl ?_
  refine aq_nwr (n := 4) (a := 2) (m2 := 3) rfl (by decide) rfl (by decide) rfl rfl (fun s_3 F_3 c_3 es_3 a_3 o_3 u_3 => ?_)
  refine aq_pfr (pc := 17) (o := 0) (N := 5) rfl (by decide) (by rw [o_3 _ (by decide)]; exact y_2) (by decide) rfl (fun F_4 y_4 o_4 => ?_)
  refine am_E.go (t2 := (21, [vR 0, vU], [vR 0], aq_h 3 s_3 F_4 c_3)) rfl rfl ?_
  refine am_E.go (t2 := (23, [vR 0, vU], [vI 8, vR 0], aq_h 3 s_3 F_4 c_3)) rfl rfl ?_
  refine aq_nwr (n := 8) (a := 3) (m2 := 4) rfl (by decide) rfl (by decide) rfl rfl (fun s_5 F_5 c_5 es_5 a_5 o_5 u_5 => ?_)
  refine aq_pfr (pc := 26) (o := 0) (N := 5) rfl (by decide) (by rw [o_5 _ (by decide)]; exact y_4) (by decide) rfl (fun F_6 y_6 o_6 => ?_)
  refine am_E.go (t2 := (30, [vR 0, vU], [vR 0], aq_h 4 s_5 F_6 c_5)) rfl rfl ?_
  refine aq_new (a := 4) (m2 := 5) rfl rfl rfl (fun s_7 F_7 c_7 es_7 y_7 o_7 z_7 u_7 => ?_)
  rw [su_t0e] at y_7
  refine am_E.go (t2 := (34, [vR 0, vU], [vR 4, vR 4, vR 0], aq_h 5 s_7 F_7 c_7)) rfl rfl ?_
  refine aq_callv (y := 1) (as2 := []) (rest := [vR 4, vR 0]) rfl rfl (by decide) (Nat.le_of_ble_eq_true rfl) rfl rfl (Nat.le_of_ble_eq_true rfl) (by decide) y_7 rfl (Nat.le_of_ble_eq_true rfl) (qn_X3_init y_7) ?_
  rintro r5 h5 ⟨F_8, c_8, rfl, rfl, gS, o_8, u_8, -, -⟩
  obtain ⟨s_8, hs8⟩ : ∃ s2, s_7 + 120 = s2 := ⟨_, rfl⟩
  rw [hs8]
  show am_E _ (37, [vR 0, vU], [vR 4, vR 0], aq_h 8 s_8 F_8 c_8) _
  refine aq_pfr (pc := 37) (o := 0) (N := 5) rfl (by decide) (by rw [o_8 _ (by decide), o_7 _ (by decide)]; exact y_6) (by decide) rfl (fun F_9 y_9 o_9 => ?_)
  refine am_E.go (t2 := (41, [vR 0, vU], [vR 0], aq_h 8 s_8 F_9 c_8)) rfl rfl ?_
  refine aq_new (a := 8) (m2 := 9) rfl rfl rfl (fun s_10 F_10 c_10 es_10 y_10 o_10 z_10 u_10 => ?_)
  rw [cr_t0e] at y_10
  refine am_E.go (t2 := (45, [vR 0, vU], [vR 8, vR 8, vR 0], aq_h 9 s_10 F_10 c_10)) rfl rfl ?_
  refine aq_callv (y := 1) (as2 := []) (rest := [vR 8, vR 0]) rfl rfl (by decide) (Nat.le_of_ble_eq_true rfl) rfl rfl (Nat.le_of_ble_eq_true rfl) (by decide) y_10 rfl (Nat.le_of_ble_eq_true rfl) (qn_X1_init y_10) ?_
  rintro r6 h6 ⟨F_11, c_11, rfl, rfl, gX, o_11, u_11, w0, w1⟩
  obtain ⟨s_11, hs11⟩ : ∃ s2, s_10 + 89 = s2 := ⟨_, rfl⟩
  rw [hs11]
  show am_E _ (48, [vR 0, vU], [vR 8, vR 0], aq_h 11 s_11 F_11 c_11) _
  refine aq_pfr (pc := 48) (o := 0) (N := 5) rfl (by decide) (by rw [o_11 _ (by decide), o_10 _ (by decide)]; exact y_9) (by decide) rfl (fun F_12 y_12 o_12 => ?_)
  refine am_E.go (t2 := (52, [vR 0, vU], [vI 1], aq_h 11 s_11 F_12 c_11)) rfl rfl ?_
  refine am_E.go (t2 := (53, [vR 0, vI ((0 + 1 : Nat) : Int)], [], aq_h 11 s_11 F_12 c_11)) rfl rfl ?_
  have e0 : F_12 0 = (14, 5, sb_t) := by
    rw [y_12]
    refine congrArg (fun f => (14, 5, f)) ?_
    funext k
    match k with
    | 0 => rfl
    | 1 => rfl
    | 2 => rfl
    | 3 => rfl
    | 4 => rfl
    | k + 5 => rfl
  have e1 : F_12 1 = (4, 4, fun i => aq_g 0 i (sb_o i)) := by
    rw [o_12 _ (by decide), o_11 _ (by decide), o_10 _ (by decide), o_9 _ (by decide), o_8 _ (by decide), o_7 _ (by decide), o_6 _ (by decide), o_5 _ (by decide), o_4 _ (by decide), o_3 _ (by decide), o_2 _ (by decide), a_1, aq_g0]
  have e2 : F_12 2 = (5, 4, fun i => aq_g 0 i (sb_h i)) := by
    rw [o_12 _ (by decide), o_11 _ (by decide), o_10 _ (by decide), o_9 _ (by decide), o_8 _ (by decide), o_7 _ (by decide), o_6 _ (by decide), o_5 _ (by decide), o_4 _ (by decide), a_3, aq_g0]
  have e3 : F_12 3 = (6, 8, fun _ => .inr vN) := by
    rw [o_12 _ (by decide), o_11 _ (by decide), o_10 _ (by decide), o_9 _ (by decide), o_8 _ (by decide), o_7 _ (by decide), o_6 _ (by decide), a_5]
  have e4 : su_0 11 F_12 4 := su_0m gS (by decide) (fun b h1 h2 => by rw [o_12 _ (by omega), o_11 _ (by omega), o_10 _ (by omega), o_9 _ (by omega)])
  have e8 : cr_0 11 F_12 8 := cr_0m gX (by decide) (fun b h1 h2 => o_12 _ (by omega))
  have v1 : c_11 8 1 = 0 := by rw [w1 1 (by decide)]; exact z_10 1
  have el : cr_l 8 c_11 := ⟨by omega, by omega, by omega, by omega, fun i i0 i1 => absurd i1 (by omega)⟩
  refine sb_step (j := 0) (by decide) ⟨e0, e1, e2, e3, e4, e8, ⟨el, w0, v1⟩, fun i hi => absurd hi (by omega), fun i hi => absurd hi (by omega), fun i hi => absurd hi (by omega)⟩ (fun s1 F1 c1 t1 g1 => ?_)
  refine sb_step (j := 1) (by decide) g1 (fun s2 F2 c2 t2 g2 => ?_)
  refine sb_step (j := 2) (by decide) g2 (fun s3 F3 c3 t3 g3 => ?_)
  refine sb_step (j := 3) (by decide) g3 (fun s4 F4 c4 t4 g4 => ?_)
  refine am_E.imp (sb_mid g4) ?_
  rintro r h2 ⟨s9, F9, c9, q1, q2, q3, q4, q5⟩
  exact ⟨s9, F9, c9, q1, q2, by omega, q4, q5⟩
