/-! Boxes: pairBy. Printed by wip/p20/sx/gBC6.py. -/

theorem fb_c {N : Int} {w w2 : Int → Int} (h : ∀ i, 0 ≤ i → i < N → w i = w2 i) : ∀ (d : Nat) (l q : Int), 0 ≤ q → fb_ N w d l q = fb_ N w2 d l q
  | 0, l, q, _ => rfl
  | d + 1, l, q, hq => by
    rw [fb_, fb_]
    by_cases e : q < N - 1
    · rw [h q hq (by omega)]
      by_cases e2 : q < N - 1 ∧ (w2 q ≠ 0 ∨ 0 < l)
      · rw [if_pos e2, if_pos e2]
        exact fb_c h d _ (q + 1) (by omega)
      · rw [if_neg e2, if_neg e2]
    · rw [if_neg (fun k => e k.1), if_neg (fun k => e k.1)]
theorem dc_ac2 {A : Nat} {N p : Int} {w : Int → Int} {c d : aq_C} (hw : ∀ i, 0 ≤ i → i < N → c A i = w i) (he : aq_u c A p 1 = d) : ∀ i, 0 ≤ i → i < N → d A i = dc_u w p i := fun i h0 h1 => by
  rw [← he]
  unfold aq_u dc_u
  by_cases e : i = p
  · rw [if_pos ⟨rfl, e⟩, if_pos e]
  · rw [if_neg (fun h => e h.2), if_neg e]
    exact hw i h0 h1

theorem qb_pairBy_l {m s : Nat} {F : aq_F} {c0 : aq_C} {o n K : Nat} (hB : bx_0 m F o n K) {ap ar : Nat} (hap : ap < m) (hFp : F ap = (0, n, fun _ => .inl 0)) (har : ar < m) (hFr : F ar = (0, 2 * n, fun _ => .inl 0)) (hn1a : ap ≠ o + 7 + 3 * K) (hn2a : ap ≠ ar) (hn3a : ar ≠ o + 7 + 3 * K) {b : Int} (hb0 : 0 ≤ b) (hbK : b < bx_K (n : Int)) (hpv : ∀ i, 0 ≤ i → i < (n : Int) → c0 ap i = dgm (n : Int) b i) : ∀ (d : Nat) (w : Int → Int) (k : Int) (p : Int) (v5 : am_V) (c : aq_C) (hs : aq_sm (fun a => a = o + 7 + 3 * K ∨ a = ar) c0 c) (h0 : 0 ≤ p) (h1 : p ≤ 2 * (n : Int)) (h2 : 0 ≤ k) (h3 : k ≤ (n : Int)) (hw : ∀ i, 0 ≤ i → i < 2 * (n : Int) → c (o + 7 + 3 * K) i = w i) (hr : ∀ i, 0 ≤ i → i < 2 * (n : Int) → w i = 1 → c ar i = prt (n : Int) b i) (hb : pb_b (n : Int) b d k p w = true), am_E ac_X0_pairBy (9, [vR o, vR ap, vR ar, vI k, vI p, v5], [], aq_h m s F c) (aq_Z m s F (fun a => a = o + 7 + 3 * K ∨ a = ar) c0 (fun r d => r = none ∧ ∀ i, 0 ≤ i → i < 2 * (n : Int) → d ar i = prt (n : Int) b i))
  | 0, w, k, p, v5, c, hs, h0, h1, h2, h3, hw, hr, hb => by cases hb
  | d + 1, w, k, p, v5, c, hs, h0, h1, h2, h3, hw, hr, hb => by
    obtain ⟨hm, hn1, hn4, hK, hFo, hFd, hFs⟩ := hB
    rw [pb_b] at hb
    refine am_E.go (t2 := (11, [vR o, vR ap, vR ar, vI k, vI p, v5], [vI p], aq_h m s F c)) rfl rfl ?_
    refine am_E.go (t2 := (12, [vR o, vR ap, vR ar, vI k, vI p, v5], [vR o, vI p], aq_h m s F c)) rfl rfl ?_
    refine aq_gf (v := vI (2 * (n : Int))) rfl (by omega) hFo (by decide) rfl ?_
    show am_E _ (15, [vR o, vR ap, vR ar, vI k, vI p, v5], [vI (2 * (n : Int)), vI p], aq_h m s F c) _
    refine am_E.go (t2 := (16, [vR o, vR ap, vR ar, vI k, vI p, v5], [vI 1, vI (2 * (n : Int)), vI p], aq_h m s F c)) rfl rfl ?_
    refine ae_sub rfl (am_ri (by omega) (by omega)) ?_
    show am_E _ (17, [vR o, vR ap, vR ar, vI k, vI p, v5], [vI ((2 * (n : Int)) - 1), vI p], aq_h m s F c) _
    refine ae_icmp rfl (fun (q_1 : ((2 * (n : Int)) - 1) ≤ p) => ?_) (fun (q_1 : p < ((2 * (n : Int)) - 1)) => ?_)
    · refine am_E.ret rfl rfl ?_
      rw [if_neg (by omega), List.all_eq_true] at hb
      exact ⟨_, rfl, hs, rfl, fun i h8 h9 => hr i h8 h9 (by have h10 := of_decide_eq_true (hb i.toNat (List.mem_range.mpr (by omega))); rw [Int.toNat_of_nonneg h8] at h10; exact h10)⟩
    · refine am_E.go (t2 := (21, [vR o, vR ap, vR ar, vI k, vI p, v5], [vI k], aq_h m s F c)) rfl rfl ?_
      refine am_E.go (t2 := (22, [vR o, vR ap, vR ar, vI k, vI p, v5], [vR o, vI k], aq_h m s F c)) rfl rfl ?_
      refine aq_gf (v := vI (n : Int)) rfl (by omega) hFo (by decide) rfl ?_
      show am_E _ (25, [vR o, vR ap, vR ar, vI k, vI p, v5], [vI (n : Int), vI k], aq_h m s F c) _
      refine ae_icmp rfl (fun (q_2 : (n : Int) ≤ k) => ?_) (fun (q_2 : k < (n : Int)) => ?_)
      · refine am_E.ret rfl rfl ?_
        rw [if_neg (by omega), List.all_eq_true] at hb
        exact ⟨_, rfl, hs, rfl, fun i h8 h9 => hr i h8 h9 (by have h10 := of_decide_eq_true (hb i.toNat (List.mem_range.mpr (by omega))); rw [Int.toNat_of_nonneg h8] at h10; exact h10)⟩
      · refine am_E.go (t2 := (29, [vR o, vR ap, vR ar, vI k, vI p, v5], [vR o], aq_h m s F c)) rfl rfl ?_
        refine aq_gf (v := vR (o + 7 + 3 * K)) rfl (by omega) hFo (by decide) rfl ?_
        show am_E _ (32, [vR o, vR ap, vR ar, vI k, vI p, v5], [vR (o + 7 + 3 * K)], aq_h m s F c) _
        refine am_E.go (t2 := (34, [vR o, vR ap, vR ar, vI k, vI p, v5], [vI p, vR (o + 7 + 3 * K)], aq_h m s F c)) rfl rfl ?_
        refine aq_al (ok := fun k => k == 1) (v := vI (c (o + 7 + 3 * K) p)) rfl rfl (by omega) hFs rfl (by omega) (by omega) rfl ?_
        show am_E _ (35, [vR o, vR ap, vR ar, vI k, vI p, v5], [vI (c (o + 7 + 3 * K) p)], aq_h m s F c) _
        have f_3 := hw p (by omega) (by omega)
        refine ae_if0 rfl (fun (q_4 : (c (o + 7 + 3 * K) p) ≠ 0) => ?_) (fun (q_4 : (c (o + 7 + 3 * K) p) = 0) => ?_)
        · rw [if_pos (by omega), if_neg (by omega)] at hb
          refine ae_iinc rfl rfl (am_ri (by omega) (by omega)) ?_
          show am_E _ (79, [vR o, vR ap, vR ar, vI k, vI (p + 1), v5], [], aq_h m s F c) _
          refine am_E.go (t2 := (9, [vR o, vR ap, vR ar, vI k, vI (p + 1), v5], [], aq_h m s F c)) rfl rfl ?_
          exact qb_pairBy_l ⟨hm, hn1, hn4, hK, hFo, hFd, hFs⟩ hap hFp har hFr hn1a hn2a hn3a hb0 hbK hpv d w k (p + 1) (v5) c hs (by omega) (by omega) (by omega) (by omega) hw hr hb
        · rw [if_pos (by omega), if_pos (by omega)] at hb
          simp only [Bool.and_eq_true, decide_eq_true_eq] at hb
          obtain ⟨⟨b6, b7⟩, b8⟩ := hb
          have qr := fb_r (N := 2 * (n : Int)) (w := w) 9 (dgm (n : Int) b k) (p + 1) (by omega)
          refine am_E.go (t2 := (39, [vR o, vR ap, vR ar, vI k, vI p, v5], [vR o], aq_h m s F c)) rfl rfl ?_
          refine am_E.go (t2 := (41, [vR o, vR ap, vR ar, vI k, vI p, v5], [vI p, vR o], aq_h m s F c)) rfl rfl ?_
          refine am_E.go (t2 := (42, [vR o, vR ap, vR ar, vI k, vI p, v5], [vR ap, vI p, vR o], aq_h m s F c)) rfl rfl ?_
          refine am_E.go (t2 := (43, [vR o, vR ap, vR ar, vI k, vI p, v5], [vI k, vR ap, vI p, vR o], aq_h m s F c)) rfl rfl ?_
          refine aq_al (ok := fun k => k == 0) (v := vI (c ap k)) rfl rfl hap hFp rfl (by omega) (by omega) rfl ?_
          show am_E _ (44, [vR o, vR ap, vR ar, vI k, vI p, v5], [vI (c ap k), vI p, vR o], aq_h m s F c) _
          have f_5 := hs ap (by omega) k
          have f_5b := hpv k (by omega) (by omega)
          refine aq_callv (y := 3) (as2 := [vI p, vI (c ap k)]) (rest := []) rfl rfl (by decide) (Nat.le_of_ble_eq_true rfl) rfl rfl (Nat.le_of_ble_eq_true rfl) (by omega) hFo rfl (Nat.le_of_ble_eq_true rfl) (qb_freeBehind ⟨hm, hn1, hn4, hK, hFo, hFd, hFs⟩ (by omega) (by omega) (by have := dgm_r (k := k) (n := (n : Int)) (b := b) (by omega) (by omega) hb0 hbK; omega) (by have := dgm_r (k := k) (n := (n : Int)) (b := b) (by omega) (by omega) hb0 hbK; omega)) ?_
          rintro r5 h5 ⟨rfl, rfl⟩
          show am_E _ (47, [vR o, vR ap, vR ar, vI k, vI p, v5], [vI (fb_ (2 * (n : Int)) (c (o + 7 + 3 * K)) 9 (c ap k) (p + 1))], aq_h m s F c) _
          have efb : fb_ (2 * (n : Int)) (c (o + 7 + 3 * K)) 9 (c ap k) (p + 1) = fb_ (2 * (n : Int)) w 9 (dgm (n : Int) b k) (p + 1) := by rw [show c ap k = dgm (n : Int) b k by omega]; exact fb_c hw 9 _ (p + 1) (by omega)
          rw [efb]
          refine am_E.go (t2 := (49, [vR o, vR ap, vR ar, vI k, vI p, vI (fb_ (2 * (n : Int)) w 9 (dgm (n : Int) b k) (p + 1))], [], aq_h m s F c)) rfl rfl ?_
          refine am_E.go (t2 := (50, [vR o, vR ap, vR ar, vI k, vI p, vI (fb_ (2 * (n : Int)) w 9 (dgm (n : Int) b k) (p + 1))], [vR o], aq_h m s F c)) rfl rfl ?_
          refine aq_gf (v := vR (o + 7 + 3 * K)) rfl (by omega) hFo (by decide) rfl ?_
          show am_E _ (53, [vR o, vR ap, vR ar, vI k, vI p, vI (fb_ (2 * (n : Int)) w 9 (dgm (n : Int) b k) (p + 1))], [vR (o + 7 + 3 * K)], aq_h m s F c) _
          refine am_E.go (t2 := (55, [vR o, vR ap, vR ar, vI k, vI p, vI (fb_ (2 * (n : Int)) w 9 (dgm (n : Int) b k) (p + 1))], [vI p, vR (o + 7 + 3 * K)], aq_h m s F c)) rfl rfl ?_
          refine am_E.go (t2 := (56, [vR o, vR ap, vR ar, vI k, vI p, vI (fb_ (2 * (n : Int)) w 9 (dgm (n : Int) b k) (p + 1))], [vI 1, vI p, vR (o + 7 + 3 * K)], aq_h m s F c)) rfl rfl ?_
          refine aq_as (kd := 1) rfl rfl (by omega) hFs (by omega) (by omega) rfl rfl ?_
          show am_E _ (57, [vR o, vR ap, vR ar, vI k, vI p, vI (fb_ (2 * (n : Int)) w 9 (dgm (n : Int) b k) (p + 1))], [], aq_h m s F (aq_u c (o + 7 + 3 * K) p 1)) _
          generalize hdc_6 : aq_u c (o + 7 + 3 * K) p 1 = c_6
          have sc_6 := aq_smu hs hdc_6 (Or.inl rfl)
          refine am_E.go (t2 := (58, [vR o, vR ap, vR ar, vI k, vI p, vI (fb_ (2 * (n : Int)) w 9 (dgm (n : Int) b k) (p + 1))], [vR o], aq_h m s F c_6)) rfl rfl ?_
          refine aq_gf (v := vR (o + 7 + 3 * K)) rfl (by omega) hFo (by decide) rfl ?_
          show am_E _ (61, [vR o, vR ap, vR ar, vI k, vI p, vI (fb_ (2 * (n : Int)) w 9 (dgm (n : Int) b k) (p + 1))], [vR (o + 7 + 3 * K)], aq_h m s F c_6) _
          refine am_E.go (t2 := (63, [vR o, vR ap, vR ar, vI k, vI p, vI (fb_ (2 * (n : Int)) w 9 (dgm (n : Int) b k) (p + 1))], [vI (fb_ (2 * (n : Int)) w 9 (dgm (n : Int) b k) (p + 1)), vR (o + 7 + 3 * K)], aq_h m s F c_6)) rfl rfl ?_
          refine am_E.go (t2 := (64, [vR o, vR ap, vR ar, vI k, vI p, vI (fb_ (2 * (n : Int)) w 9 (dgm (n : Int) b k) (p + 1))], [vI 1, vI (fb_ (2 * (n : Int)) w 9 (dgm (n : Int) b k) (p + 1)), vR (o + 7 + 3 * K)], aq_h m s F c_6)) rfl rfl ?_
          refine aq_as (kd := 1) rfl rfl (by omega) hFs (by omega) (by omega) rfl rfl ?_
          show am_E _ (65, [vR o, vR ap, vR ar, vI k, vI p, vI (fb_ (2 * (n : Int)) w 9 (dgm (n : Int) b k) (p + 1))], [], aq_h m s F (aq_u c_6 (o + 7 + 3 * K) (fb_ (2 * (n : Int)) w 9 (dgm (n : Int) b k) (p + 1)) 1)) _
          generalize hdc_7 : aq_u c_6 (o + 7 + 3 * K) (fb_ (2 * (n : Int)) w 9 (dgm (n : Int) b k) (p + 1)) 1 = c_7
          have sc_7 := aq_smu sc_6 hdc_7 (Or.inl rfl)
          refine am_E.go (t2 := (66, [vR o, vR ap, vR ar, vI k, vI p, vI (fb_ (2 * (n : Int)) w 9 (dgm (n : Int) b k) (p + 1))], [vR ar], aq_h m s F c_7)) rfl rfl ?_
          refine am_E.go (t2 := (68, [vR o, vR ap, vR ar, vI k, vI p, vI (fb_ (2 * (n : Int)) w 9 (dgm (n : Int) b k) (p + 1))], [vI p, vR ar], aq_h m s F c_7)) rfl rfl ?_
          refine am_E.go (t2 := (70, [vR o, vR ap, vR ar, vI k, vI p, vI (fb_ (2 * (n : Int)) w 9 (dgm (n : Int) b k) (p + 1))], [vI (fb_ (2 * (n : Int)) w 9 (dgm (n : Int) b k) (p + 1)), vI p, vR ar], aq_h m s F c_7)) rfl rfl ?_
          refine am_E.call rfl rfl rfl (Nat.le_of_ble_eq_true rfl) (qn_X0_pair har hFr (by omega) (by omega) (by omega) (by omega)) ?_
          rintro r5 h5 ⟨rfl, rfl⟩
          show am_E _ (73, [vR o, vR ap, vR ar, vI k, vI p, vI (fb_ (2 * (n : Int)) w 9 (dgm (n : Int) b k) (p + 1))], [], aq_h m s F (aq_u (aq_u c_7 ar p (fb_ (2 * (n : Int)) w 9 (dgm (n : Int) b k) (p + 1))) ar (fb_ (2 * (n : Int)) w 9 (dgm (n : Int) b k) (p + 1)) p)) _
          generalize hdc_8 : aq_u c_7 ar p (fb_ (2 * (n : Int)) w 9 (dgm (n : Int) b k) (p + 1)) = c_8
          have sc_8 := aq_smu sc_7 hdc_8 (Or.inr rfl)
          generalize hdc_9 : aq_u c_8 ar (fb_ (2 * (n : Int)) w 9 (dgm (n : Int) b k) (p + 1)) p = c_9
          have sc_9 := aq_smu sc_8 hdc_9 (Or.inr rfl)
          refine ae_iinc rfl rfl (am_ri (by omega) (by omega)) ?_
          show am_E _ (76, [vR o, vR ap, vR ar, vI (k + 1), vI p, vI (fb_ (2 * (n : Int)) w 9 (dgm (n : Int) b k) (p + 1))], [], aq_h m s F c_9) _
          refine ae_iinc rfl rfl (am_ri (by omega) (by omega)) ?_
          show am_E _ (79, [vR o, vR ap, vR ar, vI (k + 1), vI (p + 1), vI (fb_ (2 * (n : Int)) w 9 (dgm (n : Int) b k) (p + 1))], [], aq_h m s F c_9) _
          refine am_E.go (t2 := (9, [vR o, vR ap, vR ar, vI (k + 1), vI (p + 1), vI (fb_ (2 * (n : Int)) w 9 (dgm (n : Int) b k) (p + 1))], [], aq_h m s F c_9)) rfl rfl ?_
          exact qb_pairBy_l ⟨hm, hn1, hn4, hK, hFo, hFd, hFs⟩ hap hFp har hFr hn1a hn2a hn3a hb0 hbK hpv d (dc_u (dc_u w p) (fb_ (2 * (n : Int)) w 9 (dgm (n : Int) b k) (p + 1))) (k + 1) (p + 1) (vI (fb_ (2 * (n : Int)) w 9 (dgm (n : Int) b k) (p + 1))) c_9 sc_9 (by omega) (by omega) (by omega) (by omega) (fun i h5 h6 => by rw [← hdc_9, aq_un (Or.inl (by omega)), ← hdc_8, aq_un (Or.inl (by omega))]; exact dc_ac2 (dc_ac2 hw hdc_6) hdc_7 i h5 h6) (fun i h5 h6 h7 => by
      rw [← hdc_9]
      by_cases e1 : i = fb_ (2 * (n : Int)) w 9 (dgm (n : Int) b k) (p + 1)
      · rw [e1, aq_us, b7]
      · rw [aq_un (Or.inr e1), ← hdc_8]
        by_cases e2 : i = p
        · rw [e2, aq_us, b6]
        · rw [aq_un (Or.inr e2), ← hdc_7, aq_un (Or.inl (by omega)), ← hdc_6, aq_un (Or.inl (by omega))]
          unfold dc_u at h7
          rw [if_neg e1, if_neg e2] at h7
          exact hr i h5 h6 h7) b8
