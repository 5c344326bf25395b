/-! Boxes: the constructor, whole. -/
def bx_Z (o n K sT : Nat) (F : aq_F) (c : aq_C) : Option am_V → am_H → Prop := fun r h2 => ∃ (s2 : Nat) (F2 : aq_F) (c2 : aq_C), r = none ∧ h2 = aq_h (o + 10 + 3 * K) s2 F2 c2 ∧ s2 ≤ sT ∧ sb_B (o + 10 + 3 * K) F2 o n K ∧ (∀ b, b < o → F2 b = F b) ∧ (∀ b, b < o → ∀ j, c2 b j = c b j) ∧ aq_rg (o + 6 + 3 * K) (2 * (n : Int)) 0 (2 * (n : Int)) c2
theorem qb_ini1 {m s : Nat} {F : aq_F} {c : aq_C} {o n K : Nat} {tP : Int → Int → Int} (hm : m = o + 9 + 3 * K) (h1 : 1 ≤ n) (h4 : n ≤ 4) (hK : (K : Int) = bx_K (n : Int)) (hB : bx_0 m F o n K) (hP : bx_p F o n K tP) (hfi : ∀ x : Int, 0 ≤ x → x < (K : Int) → fi (n : Int) (tP ((x.toNat : Nat) : Int)))
    (hR : F (o + 2 + K) = (0, K, fun _ => .inl 0)) (hL : F (o + 3 + K) = (0, K, fun _ => .inl 0)) (hGg : F (o + 4 + K) = (3, K, fun j => aq_g K j (o + 5 + K + j))) (hGr : ∀ b, b < K → F (o + 5 + K + b) = (0, 6, fun _ => .inl 0)) (hNg : F (o + 5 + 2 * K) = (3, K, fun j => aq_g K j (o + 6 + 2 * K + j))) (hNr : ∀ b, b < K → F (o + 6 + 2 * K + b) = (0, 2 * n - 2, fun _ => .inl 0))
    (hz : ∀ b, o + 2 + K ≤ b → b < o + 7 + 3 * K → ∀ j, c b j = 0) : am_E ac_X0_init (128, [vR o, vI (n : Int), vI 0], [], aq_h m s F c) (bx_Z o n K (s + K) F c) := by
  have hKb := bx_K105 h1 h4 hK
  refine qb_rings_l (S := fun a => a = o + 6 + 3 * K ∨ a = o + 7 + 3 * K ∨ a = o + 2 + K) hB (Or.inl rfl) (Or.inr (Or.inl rfl)) hP hR (Or.inr (Or.inr rfl)) 106 0 c (aq_sm0 (c := c)) (by omega) (by omega) (fun i i0 i1 => by rw [hz _ (by omega) (by omega)]; omega) (fun i i0 i1 => by rw [hz _ (by omega) (by omega)]; omega) (by omega) ?_
  intro b1 c1 s1 r1 g1
  have hFo := hB.2.2.2.2.1
  refine am_E.go (t2 := (159, [vR o, vI (n : Int), vI b1], [vR o], aq_h m s F c1)) rfl rfl ?_
  refine aq_callv (y := 1) (as2 := []) (rest := []) rfl rfl (by decide) (Nat.le_of_ble_eq_true rfl) rfl rfl (Nat.le_of_ble_eq_true rfl) (by omega) hFo rfl (Nat.le_of_ble_eq_true rfl) (qb_stackLetters (S := fun a => a = o + 6 + 3 * K ∨ a = o + 7 + 3 * K ∨ (o + 6 + 2 * K ≤ a ∧ a < o + 6 + 3 * K)) hB (Or.inl rfl) (Or.inr (Or.inl rfl)) hP hNg hNr (fun b hb => Or.inr (Or.inr (by omega))) hK hfi r1 (fun b hb k k0 k1 => by rw [s1 _ (by omega), hz _ (by omega) (by omega)]; omega)) ?_
  rintro r5 h5 ⟨c2, rfl, s2, rfl, r2, n2⟩
  show am_E _ (162, [vR o, vI (n : Int), vI b1], [], aq_h m s F c2) _
  have g2 : aq_rg (o + 2 + K) (K : Int) 0 9 c2 := aq_rgs g1 s2 (by omega)
  have f0 : ∀ a, (a = o + 2 + K ∨ (o + 6 + 2 * K ≤ a ∧ a < o + 6 + 3 * K)) → ∃ w, F a = (0, w, fun _ => .inl 0) := by
    intro a ha
    rcases ha with ha | ha
    · exact ⟨K, by rw [ha]; exact hR⟩
    · have := hNr (a - (o + 6 + 2 * K)) (by omega)
      rw [show o + 6 + 2 * K + (a - (o + 6 + 2 * K)) = a by omega] at this
      exact ⟨_, this⟩
  rw [aq_fzh f0]
  have y1 : ∀ a, ¬ (a = o + 2 + K ∨ (o + 6 + 2 * K ≤ a ∧ a < o + 6 + 3 * K)) → aq_fz (fun a => a = o + 2 + K ∨ (o + 6 + 2 * K ≤ a ∧ a < o + 6 + 3 * K)) F c2 a = F a := fun a ha => aq_fzn ha
  have y2 : aq_fz (fun a => a = o + 2 + K ∨ (o + 6 + 2 * K ≤ a ∧ a < o + 6 + 3 * K)) F c2 (o + 2 + K) = (0, K, fun j => .inr (vI (c2 (o + 2 + K) (j : Int)))) := aq_fzy (Or.inl rfl) hR
  have y3 : ∀ b, b < K → aq_fz (fun a => a = o + 2 + K ∨ (o + 6 + 2 * K ≤ a ∧ a < o + 6 + 3 * K)) F c2 (o + 6 + 2 * K + b) = (0, 2 * n - 2, fun j => .inr (vI (c2 (o + 6 + 2 * K + ((b : Int)).toNat) (j : Int)))) := fun b hb => by
    rw [Int.toNat_natCast]
    exact aq_fzy (Or.inr (by omega)) (hNr b hb)
  generalize aq_fz (fun a => a = o + 2 + K ∨ (o + 6 + 2 * K ≤ a ∧ a < o + 6 + 3 * K)) F c2 = F3 at y1 y2 y3 ⊢
  have hB3 : bx_0 m F3 o n K := by
    obtain ⟨k1, k2, k3, k4, k5, k6, k7⟩ := hB
    exact ⟨k1, k2, k3, k4, by rw [y1 _ (by omega)]; exact k5, by rw [y1 _ (by omega)]; exact k6, by rw [y1 _ (by omega)]; exact k7⟩
  have hP3 : bx_p F3 o n K tP := ⟨by rw [y1 _ (by omega)]; exact hP.1, fun b hb => by rw [y1 _ (by omega)]; exact hP.2.1 b hb, hP.2.2⟩
  have hNt3 : ∀ b k : Int, 0 ≤ b → b < (K : Int) → 0 ≤ k → k < 2 * (n : Int) - 2 → 0 ≤ c2 (o + 6 + 2 * K + b.toNat) k ∧ c2 (o + 6 + 2 * K + b.toNat) k < 5000 ∧ c2 (o + 6 + 2 * K + b.toNat) k % 1000 < (K : Int) := fun b k b0 b1 k0 k1 => n2 b.toNat (by omega) k k0 k1
  refine am_E.go (t2 := (163, [vR o, vI (n : Int), vI b1], [vR o], aq_h m s F3 c2)) rfl rfl ?_
  refine aq_callv (y := 1) (as2 := []) (rest := []) rfl rfl (by decide) (Nat.le_of_ble_eq_true rfl) rfl rfl (Nat.le_of_ble_eq_true rfl) (by omega) hB3.2.2.2.2.1 rfl (Nat.le_of_ble_eq_true rfl) (qb_spellAll hB3 hK hKb.1 (by rw [y1 _ (by omega)]; exact hL) (by rw [y1 _ (by omega)]; exact hGg) (fun b hb => by rw [y1 _ (by omega)]; exact hGr b hb) (tN := fun b k => c2 (o + 6 + 2 * K + b.toNat) k) (by rw [y1 _ (by omega)]; exact hNg) y3 (fun b k b0 b1 k0 k1 => (hNt3 b k b0 b1 k0 k1).1) r2) ?_
  rintro r6 h6 ⟨s4, F4, c4, rfl, rfl, es, y4, s5, r4, sp⟩
  show am_E _ (166, [vR o, vI (n : Int), vI b1], [], aq_h (m + 1) s4 F4 c4) _
  have f4 : ∀ a, (a = o + 3 + K ∨ (o + 5 + K ≤ a ∧ a < o + 5 + 2 * K)) → ∃ w, F4 a = (0, w, fun _ => .inl 0) := by
    intro a ha
    rcases ha with ha | ha
    · exact ⟨K, by rw [ha, y4 _ (by omega), y1 _ (by omega)]; exact hL⟩
    · have := hGr (a - (o + 5 + K)) (by omega)
      rw [show o + 5 + K + (a - (o + 5 + K)) = a by omega] at this
      exact ⟨_, by rw [y4 _ (by omega), y1 _ (by omega)]; exact this⟩
  rw [aq_fzh f4]
  have z1 : ∀ a, ¬ (a = o + 3 + K ∨ (o + 5 + K ≤ a ∧ a < o + 5 + 2 * K)) → aq_fz (fun a => a = o + 3 + K ∨ (o + 5 + K ≤ a ∧ a < o + 5 + 2 * K)) F4 c4 a = F4 a := fun a ha => aq_fzn ha
  have z2 : aq_fz (fun a => a = o + 3 + K ∨ (o + 5 + K ≤ a ∧ a < o + 5 + 2 * K)) F4 c4 (o + 3 + K) = (0, K, fun j => .inr (vI (c4 (o + 3 + K) (j : Int)))) := aq_fzy (Or.inl rfl) (by rw [y4 _ (by omega), y1 _ (by omega)]; exact hL)
  have z3 : ∀ b, b < K → aq_fz (fun a => a = o + 3 + K ∨ (o + 5 + K ≤ a ∧ a < o + 5 + 2 * K)) F4 c4 (o + 5 + K + b) = (0, 6, fun j => .inr (vI (c4 (o + 5 + K + ((b : Int)).toNat) (j : Int)))) := fun b hb => by
    rw [Int.toNat_natCast]
    exact aq_fzy (Or.inr (by omega)) (by rw [y4 _ (by omega), y1 _ (by omega)]; exact hGr b hb)
  generalize aq_fz (fun a => a = o + 3 + K ∨ (o + 5 + K ≤ a ∧ a < o + 5 + 2 * K)) F4 c4 = F5 at z1 z2 z3 ⊢
  have hF5 : ∀ a, a ≠ m → ¬ (a = o + 3 + K ∨ (o + 5 + K ≤ a ∧ a < o + 5 + 2 * K)) → F5 a = F3 a := fun a ha1 ha2 => by rw [z1 a ha2, y4 a ha1]
  refine am_E.ret rfl rfl ⟨s4, F5, c4, rfl, ?_, by omega, ⟨tP, fun b i => c4 (o + 5 + K + b.toNat) i, fun b k => c2 (o + 6 + 2 * K + b.toNat) k, fun i => c2 (o + 2 + K) i, fun i => c4 (o + 3 + K) i, ?_, ?_, ⟨z2, ?_, z3, ?_, fun b hb => ?_, fun b b0 b1 => ?_, fun b i b0 b1 i0 i1 => ?_, hNt3⟩, ⟨?_, fun b b0 b1 => ?_⟩, ?_⟩, fun b hb => ?_, fun b hb j => ?_, r4⟩
  · rw [show o + 10 + 3 * K = m + 1 by omega]
  · obtain ⟨k1, k2, k3, k4, k5, k6, k7⟩ := hB3
    exact ⟨by omega, k2, k3, k4, by rw [hF5 _ (by omega) (by omega)]; exact k5, by rw [hF5 _ (by omega) (by omega)]; exact k6, by rw [hF5 _ (by omega) (by omega)]; exact k7⟩
  · exact ⟨by rw [hF5 _ (by omega) (by omega)]; exact hP3.1, fun b hb => by rw [hF5 _ (by omega) (by omega)]; exact hP3.2.1 b hb, hP3.2.2⟩
  · rw [hF5 _ (by omega) (by omega), y1 _ (by omega)]
    exact hGg
  · rw [hF5 _ (by omega) (by omega), y1 _ (by omega)]
    exact hNg
  · rw [hF5 _ (by omega) (by omega)]
    exact y3 b hb
  · have := sp b.toNat (by omega)
    rw [Int.toNat_of_nonneg b0] at this
    exact ⟨this.1, this.2.1⟩
  · have := sp b.toNat (by omega)
    rw [Int.toNat_of_nonneg b0] at this
    exact this.2.2 i i0 i1
  · rw [hF5 _ (by omega) (by omega)]
    exact y2
  · have := g2 b b0 b1
    show 0 ≤ c2 (o + 2 + K) b ∧ c2 (o + 2 + K) b ≤ 8
    omega
  · have := ol_n (l := 0) h1 h4 (Or.inl rfl)
    rw [← hK] at this
    exact this
  · rw [hF5 _ (by omega) (by omega), y1 _ (by omega)]
  · rw [s5 _ (by omega), s2 _ (by omega), s1 _ (by omega)]
theorem qb_init {s : Nat} {F : aq_F} {c : aq_C} {o n K : Nat} (h1 : 1 ≤ n) (h4 : n ≤ 4) (hK : (K : Int) = bx_K (n : Int)) (hF : F o = (10, 11, bx_t0)) (hc : ∀ j, c o j = 0) : am_E ac_X0_init (0, [vR o, vI (n : Int), vU], [], aq_h (o + 1) s F c) (bx_Z o n K (s + 2900) F c) := by
  have hKb := bx_K105 h1 h4 hK
  refine qb_ini0 h1 h4 hK hF hc ?_
  intro s2 F2 c2 hs ⟨i1, i2, i3, i4, i5, i6, i7, i8, i9, i10, i11⟩ hb hcb hz
  have hB : bx_0 (o + 8 + 3 * K) F2 o n K := ⟨Nat.le_refl _, h1, h4, hKb.2, i1, i2, i3⟩
  refine am_E.go (t2 := (123, [vR o, vI (n : Int), vU], [vR o], aq_h (o + 8 + 3 * K) s2 F2 c2)) rfl rfl ?_
  refine aq_callv (y := 1) (as2 := []) (rest := []) rfl rfl (by decide) (Nat.le_of_ble_eq_true rfl) rfl rfl (Nat.le_of_ble_eq_true rfl) (by omega) i1 rfl (Nat.le_of_ble_eq_true rfl) (qb_listPairings hB hK i4 i5) ?_
  rintro r5 h5 ⟨s3, F3, c3, rfl, rfl, es, e2, e3, e4⟩
  show am_E _ (126, [vR o, vI (n : Int), vU], [], aq_h (o + 8 + 3 * K + 1) s3 F3 c3) _
  have f0 : ∀ a, (o + 2 ≤ a ∧ a < o + 2 + K) → ∃ w, F3 a = (0, w, fun _ => .inl 0) := by
    intro a ha
    have := i5 (a - (o + 2)) (by omega)
    rw [show o + 2 + (a - (o + 2)) = a by omega] at this
    exact ⟨_, by rw [e2 _ (by omega)]; exact this⟩
  rw [aq_fzh f0]
  have y1 : ∀ a, ¬ (o + 2 ≤ a ∧ a < o + 2 + K) → aq_fz (fun a => o + 2 ≤ a ∧ a < o + 2 + K) F3 c3 a = F3 a := fun a ha => aq_fzn ha
  have y3 : ∀ b, b < K → aq_fz (fun a => o + 2 ≤ a ∧ a < o + 2 + K) F3 c3 (o + 2 + b) = (0, 2 * n, fun j => .inr (vI (c3 (o + 2 + ((b : Int)).toNat) (j : Int)))) := fun b hb => by
    rw [Int.toNat_natCast]
    exact aq_fzy ⟨by omega, by omega⟩ (by rw [e2 _ (by omega)]; exact i5 b hb)
  generalize aq_fz (fun a => o + 2 ≤ a ∧ a < o + 2 + K) F3 c3 = F4 at y1 y3 ⊢
  have hF4 : ∀ a, a ≠ o + 8 + 3 * K → ¬ (o + 2 ≤ a ∧ a < o + 2 + K) → F4 a = F2 a := fun a ha1 ha2 => by rw [y1 a ha2, e2 a ha1]
  have hfi : ∀ x : Int, 0 ≤ x → x < (K : Int) → fi (n : Int) (fun i => c3 (o + 2 + x.toNat) i) := fun x x0 x1 => fi_c (pr_fi (by omega) (by omega) x0 (by omega)) (fun i i0 i1 => e4 x i x0 x1 i0 i1)
  refine am_E.go (t2 := (127, [vR o, vI (n : Int), vU], [vI 0], aq_h (o + 8 + 3 * K + 1) s3 F4 c3)) rfl rfl ?_
  refine am_E.go (t2 := (128, [vR o, vI (n : Int), vI 0], [], aq_h (o + 8 + 3 * K + 1) s3 F4 c3)) rfl rfl ?_
  refine am_E.imp (qb_ini1 (m := o + 8 + 3 * K + 1) (tP := fun b i => c3 (o + 2 + b.toNat) i) (by omega) h1 h4 hK ?_ ?_ (fun x x0 x1 => ?_) ?_ ?_ ?_ (fun b hb => ?_) ?_ (fun b hb => ?_) (fun b b0 b1 j => ?_)) ?_
  · exact ⟨by omega, h1, h4, hKb.2, by rw [hF4 _ (by omega) (by omega)]; exact i1, by rw [hF4 _ (by omega) (by omega)]; exact i2, by rw [hF4 _ (by omega) (by omega)]; exact i3⟩
  · refine ⟨by rw [hF4 _ (by omega) (by omega)]; exact i4, y3, fun b p b0 b1 p0 p1 => ?_⟩
    have := hfi b b0 b1 p p0 p1
    exact ⟨this.1, this.2.1, e4 b p b0 b1 p0 p1⟩
  · have := hfi x x0 x1
    rw [Int.toNat_natCast]
    exact this
  · rw [hF4 _ (by omega) (by omega)]; exact i6
  · rw [hF4 _ (by omega) (by omega)]; exact i7
  · rw [hF4 _ (by omega) (by omega)]; exact i8
  · rw [hF4 _ (by omega) (by omega)]; exact i9 b hb
  · rw [hF4 _ (by omega) (by omega)]; exact i10
  · rw [hF4 _ (by omega) (by omega)]; exact i11 b hb
  · rw [e3 _ (by omega)]; exact hz b (by omega) (by omega) j
  · rintro r h2 ⟨s5, F5, c5, g1, g2, g3, g4, g5, g6, g7⟩
    refine ⟨s5, F5, c5, g1, g2, by omega, g4, fun b hb5 => ?_, fun b hb5 j => ?_, g7⟩
    · rw [g5 b hb5, hF4 _ (by omega) (by omega)]; exact hb b hb5
    · rw [g6 b hb5 j, e3 _ (by omega)]; exact hcb b hb5 j
