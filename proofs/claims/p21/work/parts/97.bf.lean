/-! Boxes: listPairings and spellAll, whole; the loop over rings. Printed by wip/p20/sx/gBF.py. -/

theorem bx_0m {m m2 o n K : Nat} {F F2 : aq_F} (hB : bx_0 m F o n K) (h : ∀ a, a < o + 8 + 3 * K → F2 a = F a) (hm : m ≤ m2) : bx_0 m2 F2 o n K := by
  obtain ⟨k1, k2, k3, k4, k5, k6, k7⟩ := hB
  exact ⟨by omega, k2, k3, k4, by rw [h _ (by omega)]; exact k5, by rw [h _ (by omega)]; exact k6, by rw [h _ (by omega)]; exact k7⟩
theorem dgm_0 (n k : Int) : dgm n 0 k = 0 := by
  unfold dgm
  (repeat' split) <;> rfl
theorem bx_s0 {o n K : Nat} {c d : aq_C} {v : Int} (hz : ∀ i, 0 ≤ i → i < (K : Int) → c (o + 3 + K) i = -1) (he : aq_u c (o + 3 + K) v 0 = d) : bx_sp o n K d := by
  intro b hb
  have h1 := hz (b : Int) (by omega) (by omega)
  have h2 : d (o + 3 + K) (b : Int) = 0 ∨ d (o + 3 + K) (b : Int) = -1 := by
    rw [← he]
    unfold aq_u
    split
    · exact Or.inl rfl
    · exact Or.inr h1
  exact ⟨by omega, by omega, fun i i0 i1 => absurd i1 (by omega)⟩
theorem bx_f0 {o K f : Nat} {d e : aq_C} {v : Int} (hv : d f 0 = v) (h0 : 0 ≤ v) (h1 : v < (K : Int)) (h2 : aq_u d (o + 3 + K) v 0 = e) (hf : f ≠ o + 3 + K) : bx_fd o K f 1 e := by
  intro j j0 j1
  have ej : j = 0 := by omega
  have e1 : e f 0 = v := by rw [← h2, aq_un (Or.inl hf)]; exact hv
  rw [ej, e1, ← h2, aq_us]
  exact ⟨h0, h1, by omega⟩

theorem qb_listPairings {m s : Nat} {F : aq_F} {c : aq_C} {o n K : Nat} (hB : bx_0 m F o n K) (hKn : (K : Int) = bx_K (n : Int)) (hPg : F (o + 1) = (3, K, fun j => aq_g K j (o + 2 + j))) (hPr : ∀ b, b < K → F (o + 2 + b) = (0, 2 * n, fun _ => .inl 0)) : am_E ac_X0_listPairings (0, [vR o, vU, vU], [], aq_h m s F c) (fun r h2 => ∃ (s2 : Nat) (F2 : aq_F) (d : aq_C), r = none ∧ h2 = aq_h (m + 1) s2 F2 d ∧ s2 = s + n ∧ (∀ a, a ≠ m → F2 a = F a) ∧ aq_sm (fun a => a = o + 7 + 3 * K ∨ a = m ∨ (o + 2 ≤ a ∧ a < o + 2 + K)) c d ∧ ∀ b i : Int, 0 ≤ b → b < (K : Int) → 0 ≤ i → i < 2 * (n : Int) → d (o + 2 + b.toNat) i = prt (n : Int) b i) := by
  obtain ⟨hm, hn1, hn4, hK, hFo, hFd, hFs⟩ := hB
  refine am_E.go (t2 := (1, [vR o, vU, vU], [vR o], aq_h m s F c)) rfl rfl ?_
  refine aq_gf (v := vI (n : Int)) rfl (by omega) hFo (by decide) rfl ?_
  refine aq_nwa (n := n) (a := m) (m2 := m + 1) rfl (by decide) rfl (by omega) rfl rfl ?_
  intro s2 F2 c2 es e1 e2 e3 e4
  refine am_E.go (t2 := (7, [vR o, vR m, vU], [], aq_h (m + 1) s2 F2 c2)) rfl rfl ?_
  refine am_E.go (t2 := (8, [vR o, vR m, vU], [vI 0], aq_h (m + 1) s2 F2 c2)) rfl rfl ?_
  refine am_E.go (t2 := (9, [vR o, vR m, vI 0], [], aq_h (m + 1) s2 F2 c2)) rfl rfl ?_
  have hB2 : bx_0 (m + 1) F2 o n K := bx_0m ⟨hm, hn1, hn4, hK, hFo, hFd, hFs⟩ (fun a ha => e2 a (by omega)) (by omega)
  refine am_E.imp (qb_list_l hB2 hKn (by rw [e2 _ (by omega)]; exact hPg) (fun b hb => by rw [e2 _ (by omega)]; exact hPr b hb) (ap := m) (by omega) e1 (by omega) 106 0 c2 aq_sm0 (by omega) (by omega) (fun _ i _ _ => by rw [e3, dgm_0]) (fun b2 i k0 k1 => absurd k1 (by omega)) (by omega)) ?_
  rintro r h2 ⟨d, rfl, g2, rfl, g4⟩
  refine ⟨s2, F2, d, rfl, rfl, es, e2, fun a ha i => ?_, g4⟩
  rw [g2 a ha i]
  exact e4 a (by omega) i

theorem qb_rings_l {m s : Nat} {F : aq_F} {c0 : aq_C} {S : Nat → Prop} {o n K : Nat} (hB : bx_0 m F o n K) (hSd : S (o + 6 + 3 * K)) (hSs : S (o + 7 + 3 * K)) {tP : Int → Int → Int} (hP : bx_p F o n K tP) (hR : F (o + 2 + K) = (0, K, fun _ => .inl 0)) (hSr : S (o + 2 + K)) {nn : Int} {Z : Option am_V → am_H → Prop} : ∀ (d : Nat) (b : Int) (c : aq_C) (hs : aq_sm S c0 c) (h0 : 0 ≤ b) (h1 : b ≤ (K : Int)) (hr : aq_rg (o + 6 + 3 * K) (2 * (n : Int)) 0 (2 * (n : Int)) c) (hg : aq_rg (o + 2 + K) (K : Int) 0 9 c) (hd : (K : Int) - b < (d : Int)) (K0 : ∀ (b2 : Int) (c2 : aq_C) (hs2 : aq_sm S c0 c2) (hr2 : aq_rg (o + 6 + 3 * K) (2 * (n : Int)) 0 (2 * (n : Int)) c2) (hg2 : aq_rg (o + 2 + K) (K : Int) 0 9 c2), am_E ac_X0_init (158, [vR o, vI nn, vI b2], [], aq_h m s F c2) Z), am_E ac_X0_init (128, [vR o, vI nn, vI b], [], aq_h m s F c) Z
  | 0, b, c, hs, h0, h1, hr, hg, hd, K0 => by exfalso; omega
  | d + 1, b, c, hs, h0, h1, hr, hg, hd, K0 => by
    obtain ⟨hm, hn1, hn4, hK, hFo, hFd, hFs⟩ := hB
    obtain ⟨hPg, hPr, hPt⟩ := hP
    refine am_E.go (t2 := (129, [vR o, vI nn, vI b], [vI b], aq_h m s F c)) rfl rfl ?_
    refine am_E.go (t2 := (130, [vR o, vI nn, vI b], [vR o, vI b], aq_h m s F c)) rfl rfl ?_
    refine aq_gf (v := vI (K : Int)) rfl (by omega) hFo (by decide) rfl ?_
    show am_E _ (133, [vR o, vI nn, vI b], [vI (K : Int), vI b], aq_h m s F c) _
    refine ae_icmp rfl (fun (q_1 : (K : Int) ≤ b) => ?_) (fun (q_1 : b < (K : Int)) => ?_)
    · exact K0 b c hs hr hg
    · refine am_E.go (t2 := (137, [vR o, vI nn, vI b], [vR o], aq_h m s F c)) rfl rfl ?_
      refine aq_gf (v := vR (o + 2 + K)) rfl (by omega) hFo (by decide) rfl ?_
      show am_E _ (140, [vR o, vI nn, vI b], [vR (o + 2 + K)], aq_h m s F c) _
      refine am_E.go (t2 := (141, [vR o, vI nn, vI b], [vI b, vR (o + 2 + K)], aq_h m s F c)) rfl rfl ?_
      refine am_E.go (t2 := (142, [vR o, vI nn, vI b], [vR o, vI b, vR (o + 2 + K)], aq_h m s F c)) rfl rfl ?_
      refine am_E.go (t2 := (143, [vR o, vI nn, vI b], [vR o, vR o, vI b, vR (o + 2 + K)], aq_h m s F c)) rfl rfl ?_
      refine aq_gf (v := vR (o + 1)) rfl (by omega) hFo (by decide) rfl ?_
      show am_E _ (146, [vR o, vI nn, vI b], [vR (o + 1), vR o, vI b, vR (o + 2 + K)], aq_h m s F c) _
      refine am_E.go (t2 := (147, [vR o, vI nn, vI b], [vI b, vR (o + 1), vR o, vI b, vR (o + 2 + K)], aq_h m s F c)) rfl rfl ?_
      refine aq_al (ok := fun k => decide (3 ≤ k) && decide (k < 7)) (v := vR (o + 2 + b.toNat)) rfl rfl (by omega) hPg rfl (by omega) (by omega) (aq_gi (by omega)) ?_
      show am_E _ (148, [vR o, vI nn, vI b], [vR (o + 2 + b.toNat), vR o, vI b, vR (o + 2 + K)], aq_h m s F c) _
      refine aq_callv (y := 2) (as2 := [vR (o + 2 + b.toNat)]) (rest := [vI b, vR (o + 2 + K)]) rfl rfl (by decide) (Nat.le_of_ble_eq_true rfl) rfl rfl (Nat.le_of_ble_eq_true rfl) (by omega) hFo rfl (Nat.le_of_ble_eq_true rfl) (qb_closeRings (S := fun a => a = o + 7 + 3 * K) ⟨hm, hn1, hn4, hK, hFo, hFd, hFs⟩ rfl ⟨hPg, hPr, hPt⟩ (x := b) (by omega) (by omega)) ?_
      rintro r5 h5 ⟨c_2, rfl, sc_2, vc_2, rfl, hv0c_2, hv1c_2⟩
      show am_E _ (151, [vR o, vI nn, vI b], [vI vc_2, vI b, vR (o + 2 + K)], aq_h m s F c_2) _
      refine aq_as (kd := 0) rfl rfl (by omega) hR (by omega) (by omega) rfl rfl ?_
      show am_E _ (152, [vR o, vI nn, vI b], [], aq_h m s F (aq_u c_2 (o + 2 + K) b vc_2)) _
      generalize hdc_3 : aq_u c_2 (o + 2 + K) b vc_2 = c_3
      have sc_3 := aq_smu (aq_smt hs (aq_smi sc_2 (fun a h => by rw [h]; exact hSs))) hdc_3 hSr
      have hdrc_3 := aq_rgn (aq_rgs hr sc_2 (by omega)) hdc_3 (by omega)
      have hrgc_3 := aq_rgu (aq_rgs hg sc_2 (by omega)) hdc_3 (by omega) (by omega)
      refine ae_iinc rfl rfl (am_ri (by omega) (by omega)) ?_
      show am_E _ (155, [vR o, vI nn, vI (b + 1)], [], aq_h m s F c_3) _
      refine am_E.go (t2 := (128, [vR o, vI nn, vI (b + 1)], [], aq_h m s F c_3)) rfl rfl ?_
      exact qb_rings_l ⟨hm, hn1, hn4, hK, hFo, hFd, hFs⟩ hSd hSs ⟨hPg, hPr, hPt⟩ hR hSr d (b + 1) c_3 sc_3 (by omega) (by omega) hdrc_3 hrgc_3 (by omega) K0

theorem qb_spellAll {m s : Nat} {F : aq_F} {c : aq_C} {o n K : Nat} (hB : bx_0 m F o n K) (hKn : (K : Int) = bx_K (n : Int)) (hK1 : 1 ≤ K) (hL : F (o + 3 + K) = (0, K, fun _ => .inl 0)) (hGg : F (o + 4 + K) = (3, K, fun j => aq_g K j (o + 5 + K + j))) (hGr : ∀ b, b < K → F (o + 5 + K + b) = (0, 6, fun _ => .inl 0)) {tN : Int → Int → Int} (hNg : F (o + 5 + 2 * K) = (3, K, fun j => aq_g K j (o + 6 + 2 * K + j))) (hNr : ∀ b, b < K → F (o + 6 + 2 * K + b) = (0, 2 * n - 2, fun j => .inr (vI (tN (b : Int) (j : Int))))) (hNt : ∀ b k : Int, 0 ≤ b → b < (K : Int) → 0 ≤ k → k < 2 * (n : Int) - 2 → 0 ≤ tN b k) (hr : aq_rg (o + 6 + 3 * K) (2 * (n : Int)) 0 (2 * (n : Int)) c) : am_E ac_X0_spellAll (0, [vR o, vU, vU, vU, vU, vU], [], aq_h m s F c) (fun r h2 => ∃ (s2 : Nat) (F2 : aq_F) (d : aq_C), r = none ∧ h2 = aq_h (m + 1) s2 F2 d ∧ s2 = s + K ∧ (∀ a, a ≠ m → F2 a = F a) ∧ aq_sm (fun a => a = o + 6 + 3 * K ∨ a = o + 7 + 3 * K ∨ a = o + 3 + K ∨ (o + 5 + K ≤ a ∧ a < o + 5 + K + K) ∨ a = m) c d ∧ aq_rg (o + 6 + 3 * K) (2 * (n : Int)) 0 (2 * (n : Int)) d ∧ bx_sp o n K d) := by
  obtain ⟨hm, hn1, hn4, hK, hFo, hFd, hFs⟩ := hB
  refine am_E.go (t2 := (1, [vR o, vU, vU, vU, vU, vU], [vI 0], aq_h m s F c)) rfl rfl ?_
  refine am_E.go (t2 := (2, [vR o, vI 0, vU, vU, vU, vU], [], aq_h m s F c)) rfl rfl ?_
  refine qb_spell_u (S := (fun a => a = o + 6 + 3 * K ∨ a = o + 7 + 3 * K ∨ a = o + 3 + K ∨ (o + 5 + K ≤ a ∧ a < o + 5 + K + K) ∨ a = m)) ⟨hm, hn1, hn4, hK, hFo, hFd, hFs⟩ (by omega) (by omega) hL (by omega) 106 0 c (aq_sm0 (c := c)) (by omega) (by omega) hr (fun i h1 h2 => absurd h2 (by omega)) (by omega) ?_
  intro b1 c1 s1 hr1 hz1
  refine am_E.go (t2 := (24, [vR o, vI b1, vU, vU, vU, vU], [vR o], aq_h m s F c1)) rfl rfl ?_
  refine aq_gf (v := vI (K : Int)) rfl (by omega) hFo (by decide) rfl ?_
  refine aq_nwa (n := K) (a := m) (m2 := m + 1) rfl (by decide) rfl (by omega) rfl rfl ?_
  intro s2 F2 c2 es e1 e2 e3 e4
  have hB2 : bx_0 (m + 1) F2 o n K := bx_0m ⟨hm, hn1, hn4, hK, hFo, hFd, hFs⟩ (fun a ha => e2 a (by omega)) (by omega)
  have hL2 : F2 (o + 3 + K) = (0, K, fun _ => .inl 0) := by rw [e2 _ (by omega)]; exact hL
  have hGg2 : F2 (o + 4 + K) = (3, K, fun j => aq_g K j (o + 5 + K + j)) := by rw [e2 _ (by omega)]; exact hGg
  have hGr2 : ∀ b, b < K → F2 (o + 5 + K + b) = (0, 6, fun _ => .inl 0) := fun b hb => by rw [e2 _ (by omega)]; exact hGr b hb
  have hNg2 : F2 (o + 5 + 2 * K) = (3, K, fun j => aq_g K j (o + 6 + 2 * K + j)) := by rw [e2 _ (by omega)]; exact hNg
  have hNr2 : ∀ b, b < K → F2 (o + 6 + 2 * K + b) = (0, 2 * n - 2, fun j => .inr (vI (tN (b : Int) (j : Int)))) := fun b hb => by rw [e2 _ (by omega)]; exact hNr b hb
  have hr2 : aq_rg (o + 6 + 3 * K) (2 * (n : Int)) 0 (2 * (n : Int)) c2 := fun i i0 i1 => by rw [e4 _ (by omega)]; exact hr1 i i0 i1
  have hz2 : ∀ i, 0 ≤ i → i < (K : Int) → c2 (o + 3 + K) i = -1 := fun i i0 i1 => by rw [e4 _ (by omega)]; exact hz1 i i0 i1
  refine am_E.imp (Z := aq_Z (m + 1) s2 F2 (fun a => a = o + 6 + 3 * K ∨ a = o + 7 + 3 * K ∨ a = o + 3 + K ∨ (o + 5 + K ≤ a ∧ a < o + 5 + K + K) ∨ a = m) c2 (fun r d => r = none ∧ aq_rg (o + 6 + 3 * K) (2 * (n : Int)) 0 (2 * (n : Int)) d ∧ bx_sp o n K d)) ?_ ?_
  · obtain ⟨hm, hn1, hn4, hK, hFo, hFd, hFs⟩ := hB2
    show am_E _ (29, [vR o, vI b1, vU, vU, vU, vU], [vR m], aq_h (m + 1) s2 F2 c2) _
    refine am_E.go (t2 := (30, [vR o, vR m, vU, vU, vU, vU], [], aq_h (m + 1) s2 F2 c2)) rfl rfl ?_
    refine am_E.go (t2 := (31, [vR o, vR m, vU, vU, vU, vU], [vR m], aq_h (m + 1) s2 F2 c2)) rfl rfl ?_
    refine am_E.go (t2 := (32, [vR o, vR m, vU, vU, vU, vU], [vI 0, vR m], aq_h (m + 1) s2 F2 c2)) rfl rfl ?_
    refine am_E.go (t2 := (33, [vR o, vR m, vU, vU, vU, vU], [vR o, vI 0, vR m], aq_h (m + 1) s2 F2 c2)) rfl rfl ?_
    refine am_E.go (t2 := (34, [vR o, vR m, vU, vU, vU, vU], [vI 0, vR o, vI 0, vR m], aq_h (m + 1) s2 F2 c2)) rfl rfl ?_
    refine aq_callv (y := 2) (as2 := [vI 0]) (rest := [vI 0, vR m]) rfl rfl (by decide) (Nat.le_of_ble_eq_true rfl) rfl rfl (Nat.le_of_ble_eq_true rfl) (by omega) hFo rfl (Nat.le_of_ble_eq_true rfl) (qb_ofLetter ⟨hm, hn1, hn4, hK, hFo, hFd, hFs⟩ hKn (by omega) hr2) ?_
    rintro r5 h5 ⟨c_51, rfl, sc_51, hrc_51, vc_51, rfl, hv0c_51, hv1c_51⟩
    show am_E _ (37, [vR o, vR m, vU, vU, vU, vU], [vI vc_51, vI 0, vR m], aq_h (m + 1) s2 F2 c_51) _
    refine aq_as (kd := 0) rfl rfl (by omega) e1 (by omega) (by omega) rfl rfl ?_
    show am_E _ (38, [vR o, vR m, vU, vU, vU, vU], [], aq_h (m + 1) s2 F2 (aq_u c_51 m 0 vc_51)) _
    generalize hdc_52 : aq_u c_51 m 0 vc_51 = c_52
    have sc_52 := aq_smu (aq_smt (aq_sm0 (c := c2) (S := (fun a => a = o + 6 + 3 * K ∨ a = o + 7 + 3 * K ∨ a = o + 3 + K ∨ (o + 5 + K ≤ a ∧ a < o + 5 + K + K) ∨ a = m))) (aq_smi sc_51 (fun a h => by omega))) hdc_52 (by omega)
    have hdrc_52 := aq_rgn hrc_51 hdc_52 (by omega)
    refine am_E.go (t2 := (39, [vR o, vR m, vU, vU, vU, vU], [vR o], aq_h (m + 1) s2 F2 c_52)) rfl rfl ?_
    refine aq_gf (v := vR (o + 3 + K)) rfl (by omega) hFo (by decide) rfl ?_
    show am_E _ (42, [vR o, vR m, vU, vU, vU, vU], [vR (o + 3 + K)], aq_h (m + 1) s2 F2 c_52) _
    refine am_E.go (t2 := (43, [vR o, vR m, vU, vU, vU, vU], [vR m, vR (o + 3 + K)], aq_h (m + 1) s2 F2 c_52)) rfl rfl ?_
    refine am_E.go (t2 := (44, [vR o, vR m, vU, vU, vU, vU], [vI 0, vR m, vR (o + 3 + K)], aq_h (m + 1) s2 F2 c_52)) rfl rfl ?_
    refine aq_al (ok := fun k => k == 0) (v := vI (c_52 m 0)) rfl rfl (by omega) e1 rfl (by omega) (by omega) rfl ?_
    show am_E _ (45, [vR o, vR m, vU, vU, vU, vU], [vI (c_52 m 0), vR (o + 3 + K)], aq_h (m + 1) s2 F2 c_52) _
    have f_53 : c_52 m 0 = vc_51 := by rw [← hdc_52, aq_us]
    refine am_E.go (t2 := (46, [vR o, vR m, vU, vU, vU, vU], [vI 0, vI (c_52 m 0), vR (o + 3 + K)], aq_h (m + 1) s2 F2 c_52)) rfl rfl ?_
    refine aq_as (kd := 0) rfl rfl (by omega) hL2 (by omega) (by omega) rfl rfl ?_
    show am_E _ (47, [vR o, vR m, vU, vU, vU, vU], [], aq_h (m + 1) s2 F2 (aq_u c_52 (o + 3 + K) (c_52 m 0) 0)) _
    generalize hdc_54 : aq_u c_52 (o + 3 + K) (c_52 m 0) 0 = c_54
    have sc_54 := aq_smu sc_52 hdc_54 (by omega)
    have hdrc_54 := aq_rgn hdrc_52 hdc_54 (by omega)
    refine am_E.go (t2 := (48, [vR o, vR m, vU, vU, vU, vU], [vI 1], aq_h (m + 1) s2 F2 c_54)) rfl rfl ?_
    refine am_E.go (t2 := (49, [vR o, vR m, vI 1, vU, vU, vU], [], aq_h (m + 1) s2 F2 c_54)) rfl rfl ?_
    refine am_E.go (t2 := (50, [vR o, vR m, vI 1, vU, vU, vU], [vI 0], aq_h (m + 1) s2 F2 c_54)) rfl rfl ?_
    refine am_E.go (t2 := (51, [vR o, vR m, vI 1, vI 0, vU, vU], [], aq_h (m + 1) s2 F2 c_54)) rfl rfl ?_
    exact qb_spell_o (S := (fun a => a = o + 6 + 3 * K ∨ a = o + 7 + 3 * K ∨ a = o + 3 + K ∨ (o + 5 + K ≤ a ∧ a < o + 5 + K + K) ∨ a = m)) ⟨hm, hn1, hn4, hK, hFo, hFd, hFs⟩ (by omega) (by omega) hL2 hGg2 hGr2 (by omega) (fun b hb => by omega) hNg2 hNr2 hNt hKn (f := m) (by omega) e1 (by omega) (by omega) 106 1 0 (vU) (vU) c_54 sc_54 (by omega) (by omega) (by omega) hdrc_54 (bx_s0 (fun i i0 i1 => by rw [← hdc_52, aq_un (Or.inl (by omega)), sc_51 _ (by omega)]; exact hz2 i i0 i1) hdc_54) (bx_f0 rfl (by omega) (by omega) hdc_54 (by omega)) (by omega)
  · rintro r h2 ⟨d, rfl, g2, rfl, g4, g5⟩
    refine ⟨s2, F2, d, rfl, rfl, es, e2, fun a ha i => ?_, g4, g5⟩
    rw [g2 a ha i, e4 a (by omega) i]
    exact s1 a ha i
