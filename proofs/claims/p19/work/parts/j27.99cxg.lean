
theorem mx_sc {N i j : Int} {f g : Int → Int → Int} (h : ∀ a b, 0 ≤ a → a < N → 0 ≤ b → b < N → f a b = g a b) (i0 : 0 ≤ i) (i1 : i < N) (j0 : 0 ≤ j) (j1 : j < N) : ∀ a b, 0 ≤ a → a < N → 0 ≤ b → b < N → mx_s f N i j a b = mx_s g N i j a b := by
  intro a b a0 a1 b0 b1
  unfold mx_s
  rw [h j b j0 j1 b0 b1, h i b i0 i1 b0 b1, h a b a0 a1 b0 b1]
theorem mx_cc {N p i q : Int} {f g : Int → Int → Int} (h : ∀ a b, 0 ≤ a → a < N → 0 ≤ b → b < N → f a b = g a b) (i0 : 0 ≤ i) (i1 : i < N) (q0 : 0 ≤ q) (q1 : q < N) : ∀ a b, 0 ≤ a → a < N → 0 ≤ b → b < N → mx_c f N p i q a b = mx_c g N p i q a b := by
  intro a b a0 a1 b0 b1
  unfold mx_c
  rw [h a b a0 a1 b0 b1, h i q i0 i1 q0 q1, h i b i0 i1 b0 b1, h a q a0 a1 q0 q1]
theorem mx_sr {N p i j : Int} {f : Int → Int → Int} (h : ∀ a b, 0 ≤ a → a < N → 0 ≤ b → b < N → 0 ≤ f a b ∧ f a b < p) (i0 : 0 ≤ i) (i1 : i < N) (j0 : 0 ≤ j) (j1 : j < N) : ∀ a b, 0 ≤ a → a < N → 0 ≤ b → b < N → 0 ≤ mx_s f N i j a b ∧ mx_s f N i j a b < p := by
  intro a b a0 a1 b0 b1
  unfold mx_s
  rw [if_pos ⟨b0, b1⟩]
  split
  · exact h j b j0 j1 b0 b1
  · split
    · exact h i b i0 i1 b0 b1
    · exact h a b a0 a1 b0 b1
theorem mx_cr {N p i q : Int} {f : Int → Int → Int} (hp : 0 < p) (h : ∀ a b, 0 ≤ a → a < N → 0 ≤ b → b < N → 0 ≤ f a b ∧ f a b < p) : ∀ a b, 0 ≤ a → a < N → 0 ≤ b → b < N → 0 ≤ mx_c f N p i q a b ∧ mx_c f N p i q a b < p := by
  intro a b a0 a1 b0 b1
  unfold mx_c
  split
  · exact nm_em hp
  · exact h a b a0 a1 b0 b1

theorem qx_rank_in {m s : Nat} {F : aq_F} {c : aq_C} {o n z : Nat} {tl : Int → Int} {th : Int → Int → Int} (hH : hv_0 m F o n z tl th) {t v p r : Int} (hr6 : r ≤ 6) {T : Int → Int → Int} (hM : ∀ a b : Int, 0 ≤ a → a < r → 0 ≤ b → b < r → c (o + 3 + a.toNat) b = T a b) {W : Int} {Z : Option am_V → am_H → Prop} : ∀ (d : Nat) (d5 : Int) (q : Int) (w : Int) (h0 : 0 ≤ q) (h1 : q < r) (h2 : 0 ≤ d5) (h3 : d5 ≤ w) (h4 : w ≤ r) (hP : mx_p T r q d w = W) (hd : r - w < (d : Int)) (K0 : ∀ (w2 : Int) (f1 : d5 ≤ w2) (f2 : w2 ≤ r) (f3 : w2 = W), am_E ac_X2_rank (56, [vR o, vI t, vI v, vI p, vI r, vI d5, vI q, vI w2], [], aq_h m s F c) Z), am_E ac_X2_rank (30, [vR o, vI t, vI v, vI p, vI r, vI d5, vI q, vI w], [], aq_h m s F c) Z
  | 0, d5, q, w, h0, h1, h2, h3, h4, hP, hd, K0 => by exfalso; omega
  | d + 1, d5, q, w, h0, h1, h2, h3, h4, hP, hd, K0 => by
    obtain ⟨hm, hn1, hn4, hz6, hFo, hFl, hFg, hFt, hFp, hFq, hFd, hFs, hht⟩ := hH
    refine am_E.go (t2 := (32, [vR o, vI t, vI v, vI p, vI r, vI d5, vI q, vI w], [vI w], aq_h m s F c)) rfl rfl ?_
    refine am_E.go (t2 := (34, [vR o, vI t, vI v, vI p, vI r, vI d5, vI q, vI w], [vI r, vI w], aq_h m s F c)) rfl rfl ?_
    refine ae_icmp rfl (fun (q_1 : r ≤ w) => ?_) (fun (q_1 : w < r) => ?_)
    · exact K0 w (by omega) (by omega) (by rw [← hP, mx_p]; first | (rw [if_neg (show ¬ w < r by omega)]) | (rw [if_pos (show w < r by omega), if_neg (show ¬ T w q = 0 by omega)]))
    · refine am_E.go (t2 := (38, [vR o, vI t, vI v, vI p, vI r, vI d5, vI q, vI w], [vR o], aq_h m s F c)) rfl rfl ?_
      refine aq_gf (v := vR (o + 2)) rfl (by omega) hFo (by decide) rfl ?_
      show am_E _ (41, [vR o, vI t, vI v, vI p, vI r, vI d5, vI q, vI w], [vR (o + 2)], aq_h m s F c) _
      refine am_E.go (t2 := (43, [vR o, vI t, vI v, vI p, vI r, vI d5, vI q, vI w], [vI w, vR (o + 2)], aq_h m s F c)) rfl rfl ?_
      refine aq_al (ok := fun k => decide (3 ≤ k) && decide (k < 7)) (v := vR (o + 3 + w.toNat)) rfl rfl (by omega) hFg rfl (by omega) (by omega) (aq_gi (by omega)) ?_
      show am_E _ (44, [vR o, vI t, vI v, vI p, vI r, vI d5, vI q, vI w], [vR (o + 3 + w.toNat)], aq_h m s F c) _
      refine am_E.go (t2 := (46, [vR o, vI t, vI v, vI p, vI r, vI d5, vI q, vI w], [vI q, vR (o + 3 + w.toNat)], aq_h m s F c)) rfl rfl ?_
      refine aq_al (ok := fun k => k == 0) (v := vI (c (o + 3 + w.toNat) q)) rfl rfl (by omega) (hFt _ (by omega)) rfl (by omega) (by omega) rfl ?_
      show am_E _ (47, [vR o, vI t, vI v, vI p, vI r, vI d5, vI q, vI w], [vI (c (o + 3 + w.toNat) q)], aq_h m s F c) _
      have f_2 := hM w q (by omega) (by omega) (by omega) (by omega)
      refine ae_if0 rfl (fun (q_3 : (c (o + 3 + w.toNat) q) ≠ 0) => ?_) (fun (q_3 : (c (o + 3 + w.toNat) q) = 0) => ?_)
      · exact K0 w (by omega) (by omega) (by rw [← hP, mx_p]; first | (rw [if_neg (show ¬ w < r by omega)]) | (rw [if_pos (show w < r by omega), if_neg (show ¬ T w q = 0 by omega)]))
      · refine ae_iinc rfl rfl (am_ri (by omega) (by omega)) ?_
        show am_E _ (53, [vR o, vI t, vI v, vI p, vI r, vI d5, vI q, vI (w + 1)], [], aq_h m s F c) _
        refine am_E.go (t2 := (30, [vR o, vI t, vI v, vI p, vI r, vI d5, vI q, vI (w + 1)], [], aq_h m s F c)) rfl rfl ?_
        exact qx_rank_in ⟨hm, hn1, hn4, hz6, hFo, hFl, hFg, hFt, hFp, hFq, hFd, hFs, hht⟩ hr6 hM d d5 q (w + 1) (by omega) (by omega) (by omega) (by omega) (by omega) (by rw [← hP, mx_p, if_pos (show w < r by omega), if_pos (show T w q = 0 by omega)]) (by omega) K0

theorem qx_rank_out {m s : Nat} {F : aq_F} {c0 : aq_C} {o n z : Nat} {tl : Int → Int} {th : Int → Int → Int} (hH : hv_0 m F o n z tl th) {t v p r : Int} (hp0 : 2 ≤ p) (hp1 : p ≤ 997) (hr6 : r ≤ 6) {X : Int} : ∀ (d : Nat) (d5 : Int) (q : Int) (v7 : am_V) (T : Int → Int → Int) (c : aq_C) (hs : aq_sm (fun a => a = o + 17 ∨ (o + 3 ≤ a ∧ a < o + 9)) c0 c) (h0 : 0 ≤ q) (h1 : q ≤ r) (h2 : 0 ≤ d5) (h3 : d5 ≤ q) (hM : ∀ a b : Int, 0 ≤ a → a < r → 0 ≤ b → b < r → c (o + 3 + a.toNat) b = T a b) (hA : ∀ a b : Int, 0 ≤ a → a < r → 0 ≤ b → b < r → 0 ≤ T a b ∧ T a b < p) (hT : rk_c r p d q d5 T = X) (hd : r - q < (d : Int)), am_E ac_X2_rank (19, [vR o, vI t, vI v, vI p, vI r, vI d5, vI q, v7], [], aq_h m s F c) (aq_Z m s F (fun a => a = o + 17 ∨ (o + 3 ≤ a ∧ a < o + 9)) c0 (fun x5 d => x5 = some (vI X)))
  | 0, d5, q, v7, T, c, hs, h0, h1, h2, h3, hM, hA, hT, hd => by exfalso; omega
  | d + 1, d5, q, v7, T, c, hs, h0, h1, h2, h3, hM, hA, hT, hd => by
    obtain ⟨hm, hn1, hn4, hz6, hFo, hFl, hFg, hFt, hFp, hFq, hFd, hFs, hht⟩ := hH
    refine am_E.go (t2 := (21, [vR o, vI t, vI v, vI p, vI r, vI d5, vI q, v7], [vI q], aq_h m s F c)) rfl rfl ?_
    refine am_E.go (t2 := (23, [vR o, vI t, vI v, vI p, vI r, vI d5, vI q, v7], [vI r, vI q], aq_h m s F c)) rfl rfl ?_
    refine ae_icmp rfl (fun (q_1 : r ≤ q) => ?_) (fun (q_1 : q < r) => ?_)
    · refine am_E.go (t2 := (95, [vR o, vI t, vI v, vI p, vI r, vI d5, vI q, v7], [vI d5], aq_h m s F c)) rfl rfl ?_
      refine am_E.ret rfl rfl ?_
      refine ⟨_, rfl, hs, ?_⟩
      rw [← hT, rk_c, if_neg (show ¬ q < r by omega)]
    · refine am_E.go (t2 := (28, [vR o, vI t, vI v, vI p, vI r, vI d5, vI q, v7], [vI d5], aq_h m s F c)) rfl rfl ?_
      refine am_E.go (t2 := (30, [vR o, vI t, vI v, vI p, vI r, vI d5, vI q, vI d5], [], aq_h m s F c)) rfl rfl ?_
      refine qx_rank_in ⟨hm, hn1, hn4, hz6, hFo, hFl, hFg, hFt, hFp, hFq, hFd, hFs, hht⟩ hr6 hM 8 d5 q d5 (by omega) (by omega) (by omega) (by omega) (by omega) rfl (by omega) ?_
      · intro w2_30 f1_30 f2_30 f3_30
        refine am_E.go (t2 := (58, [vR o, vI t, vI v, vI p, vI r, vI d5, vI q, vI w2_30], [vI w2_30], aq_h m s F c)) rfl rfl ?_
        refine am_E.go (t2 := (60, [vR o, vI t, vI v, vI p, vI r, vI d5, vI q, vI w2_30], [vI r, vI w2_30], aq_h m s F c)) rfl rfl ?_
        refine ae_icmp rfl (fun (q_3 : r ≤ w2_30) => ?_) (fun (q_3 : w2_30 < r) => ?_)
        · refine ae_iinc rfl rfl (am_ri (by omega) (by omega)) ?_
          show am_E _ (90, [vR o, vI t, vI v, vI p, vI r, vI d5, vI (q + 1), vI w2_30], [], aq_h m s F c) _
          refine am_E.go (t2 := (19, [vR o, vI t, vI v, vI p, vI r, vI d5, vI (q + 1), vI w2_30], [], aq_h m s F c)) rfl rfl ?_
          exact qx_rank_out ⟨hm, hn1, hn4, hz6, hFo, hFl, hFg, hFt, hFp, hFq, hFd, hFs, hht⟩ hp0 hp1 hr6 d d5 (q + 1) (vI w2_30) _ c hs (by omega) (by omega) (by omega) (by omega) hM hA (by rw [← hT, rk_c, if_pos (show q < r by omega), ← f3_30, if_neg (show ¬ w2_30 < r by omega)]) (by omega)
        · refine am_E.go (t2 := (64, [vR o, vI t, vI v, vI p, vI r, vI d5, vI q, vI w2_30], [vR o], aq_h m s F c)) rfl rfl ?_
          refine am_E.go (t2 := (66, [vR o, vI t, vI v, vI p, vI r, vI d5, vI q, vI w2_30], [vI w2_30, vR o], aq_h m s F c)) rfl rfl ?_
          refine am_E.go (t2 := (68, [vR o, vI t, vI v, vI p, vI r, vI d5, vI q, vI w2_30], [vI d5, vI w2_30, vR o], aq_h m s F c)) rfl rfl ?_
          refine am_E.go (t2 := (70, [vR o, vI t, vI v, vI p, vI r, vI d5, vI q, vI w2_30], [vI r, vI d5, vI w2_30, vR o], aq_h m s F c)) rfl rfl ?_
          refine aq_callv (y := 4) (as2 := [vI w2_30, vI d5, vI r]) (rest := []) rfl rfl (by decide) (Nat.le_of_ble_eq_true rfl) rfl rfl (Nat.le_of_ble_eq_true rfl) (by omega) hFo rfl (Nat.le_of_ble_eq_true rfl) (qx_swapRows ⟨hm, hn1, hn4, hz6, hFo, hFl, hFg, hFt, hFp, hFq, hFd, hFs, hht⟩ (i := w2_30) (j := d5) (r := r) (by omega) (by omega) (by omega) (by omega) hr6) ?_
          rintro r5 h5 ⟨c_s, rfl, s_s, rfl, v_s⟩
          show am_E _ (73, [vR o, vI t, vI v, vI p, vI r, vI d5, vI q, vI w2_30], [], aq_h m s F c_s) _
          have hS1 := mx_sc (f := (fun a b => c (o + 3 + a.toNat) b)) (g := T) hM (i := w2_30) (j := d5) (by omega) (by omega) (by omega) (by omega)
          have hS2 := mx_sr (f := T) hA (i := w2_30) (j := d5) (by omega) (by omega) (by omega) (by omega)
          refine am_E.go (t2 := (74, [vR o, vI t, vI v, vI p, vI r, vI d5, vI q, vI w2_30], [vR o], aq_h m s F c_s)) rfl rfl ?_
          refine am_E.go (t2 := (76, [vR o, vI t, vI v, vI p, vI r, vI d5, vI q, vI w2_30], [vI d5, vR o], aq_h m s F c_s)) rfl rfl ?_
          refine am_E.go (t2 := (78, [vR o, vI t, vI v, vI p, vI r, vI d5, vI q, vI w2_30], [vI q, vI d5, vR o], aq_h m s F c_s)) rfl rfl ?_
          refine am_E.go (t2 := (80, [vR o, vI t, vI v, vI p, vI r, vI d5, vI q, vI w2_30], [vI r, vI q, vI d5, vR o], aq_h m s F c_s)) rfl rfl ?_
          refine am_E.go (t2 := (81, [vR o, vI t, vI v, vI p, vI r, vI d5, vI q, vI w2_30], [vI p, vI r, vI q, vI d5, vR o], aq_h m s F c_s)) rfl rfl ?_
          refine aq_callv (y := 5) (as2 := [vI d5, vI q, vI r, vI p]) (rest := []) rfl rfl (by decide) (Nat.le_of_ble_eq_true rfl) rfl rfl (Nat.le_of_ble_eq_true rfl) (by omega) hFo rfl (Nat.le_of_ble_eq_true rfl) (qx_clearBelow ⟨hm, hn1, hn4, hz6, hFo, hFl, hFg, hFt, hFp, hFq, hFd, hFs, hht⟩ (h := d5) (q := q) (r := r) (A := mx_s (fun a b => c (o + 3 + a.toNat) b) r w2_30 d5) (by omega) (by omega) (by omega) (by omega) hr6 hp0 hp1 v_s (fun a b a0 a1 b0 b1 => by rw [hS1 a b a0 a1 b0 b1]; exact hS2 a b a0 a1 b0 b1)) ?_
          rintro r5 h5 ⟨c_e, rfl, s_e, rfl, v_e⟩
          show am_E _ (84, [vR o, vI t, vI v, vI p, vI r, vI d5, vI q, vI w2_30], [], aq_h m s F c_e) _
          refine ae_iinc rfl rfl (am_ri (by omega) (by omega)) ?_
          show am_E _ (87, [vR o, vI t, vI v, vI p, vI r, vI (d5 + 1), vI q, vI w2_30], [], aq_h m s F c_e) _
          refine ae_iinc rfl rfl (am_ri (by omega) (by omega)) ?_
          show am_E _ (90, [vR o, vI t, vI v, vI p, vI r, vI (d5 + 1), vI (q + 1), vI w2_30], [], aq_h m s F c_e) _
          refine am_E.go (t2 := (19, [vR o, vI t, vI v, vI p, vI r, vI (d5 + 1), vI (q + 1), vI w2_30], [], aq_h m s F c_e)) rfl rfl ?_
          exact qx_rank_out ⟨hm, hn1, hn4, hz6, hFo, hFl, hFg, hFt, hFp, hFq, hFd, hFs, hht⟩ hp0 hp1 hr6 d (d5 + 1) (q + 1) (vI w2_30) _ c_e (aq_smt (aq_smt hs s_s) s_e) (by omega) (by omega) (by omega) (by omega) (fun a b a0 a1 b0 b1 => by rw [v_e a b a0 (by omega) b0 (by omega)]; exact mx_cc hS1 (by omega) (by omega) (by omega) (by omega) a b a0 a1 b0 b1) (mx_cr (by omega) hS2) (by rw [← hT, rk_c, if_pos (show q < r by omega), ← f3_30, if_pos (show w2_30 < r by omega)]) (by omega)

theorem qx_rank {m s : Nat} {F : aq_F} {c : aq_C} {o n z : Nat} {tl : Int → Int} {th : Int → Int → Int} (hH : hv_0 m F o n z tl th) (hve : hx_e n z tl th) {t v p : Int} (ht0 : 0 ≤ t) (ht1 : t ≤ (n : Int)) (hp0 : 2 ≤ p) (hp1 : p ≤ 997) (hv0 : -1000 ≤ v) (hv1 : v ≤ 1000) : am_E ac_X2_rank (0, [vR o, vI t, vI v, vI p, vU, vU, vU, vU], [], aq_h m s F c) (aq_Z m s F (fun a => a = o + 17 ∨ (o + 3 ≤ a ∧ a < o + 9)) c (fun x5 d => x5 = some (vI (rk_c (hv_N (n : Int) t) p 8 0 0 (fun i j => en_ (v % p) p (fo_v (n : Int) t i j)))))) := by
  obtain ⟨hm, hn1, hn4, hz6, hFo, hFl, hFg, hFt, hFp, hFq, hFd, hFs, hht⟩ := hH
  refine am_E.go (t2 := (1, [vR o, vI t, vI v, vI p, vU, vU, vU, vU], [vR o], aq_h m s F c)) rfl rfl ?_
  refine am_E.go (t2 := (2, [vR o, vI t, vI v, vI p, vU, vU, vU, vU], [vI t, vR o], aq_h m s F c)) rfl rfl ?_
  refine am_E.go (t2 := (3, [vR o, vI t, vI v, vI p, vU, vU, vU, vU], [vI v, vI t, vR o], aq_h m s F c)) rfl rfl ?_
  refine am_E.go (t2 := (4, [vR o, vI t, vI v, vI p, vU, vU, vU, vU], [vI p, vI v, vI t, vR o], aq_h m s F c)) rfl rfl ?_
  refine am_E.call rfl rfl rfl (Nat.le_of_ble_eq_true rfl) (qx_floorMod (am_ri (by omega) (by omega)) (by omega) (by omega) _) ?_
  rintro r5 h5 ⟨rfl, rfl⟩
  show am_E _ (7, [vR o, vI t, vI v, vI p, vU, vU, vU, vU], [vI (v % p), vI t, vR o], aq_h m s F c) _
  have hvm := nm_em (a := v) (p := p) (by omega)
  refine am_E.go (t2 := (8, [vR o, vI t, vI v, vI p, vU, vU, vU, vU], [vI p, vI (v % p), vI t, vR o], aq_h m s F c)) rfl rfl ?_
  refine aq_callv (y := 4) (as2 := [vI t, vI (v % p), vI p]) (rest := []) rfl rfl (by decide) (Nat.le_of_ble_eq_true rfl) rfl rfl (Nat.le_of_ble_eq_true rfl) (by omega) hFo rfl (Nat.le_of_ble_eq_true rfl) (qx_fillTable ⟨hm, hn1, hn4, hz6, hFo, hFl, hFg, hFt, hFp, hFq, hFd, hFs, hht⟩ hve (t := t) (v := v % p) (p := p) hp0 hp1 hvm.1 hvm.2) ?_
  rintro r5 h5 ⟨c_f, rfl, s_f, rfl, v_f⟩
  show am_E _ (11, [vR o, vI t, vI v, vI p, vU, vU, vU, vU], [vI (cn_ (n : Int) t z)], aq_h m s F c_f) _
  have e_k := cn_kn (n := (n : Int)) (t := t) (by omega) (by omega) ht0 ht1
  have e_N : cn_ (n : Int) t z = hv_N (n : Int) t := by rw [← e_k.1, ← hve.1]; rfl
  rw [e_N]
  have hNb := hv_Nb (n : Int) t
  refine am_E.go (t2 := (13, [vR o, vI t, vI v, vI p, vI (hv_N (n : Int) t), vU, vU, vU], [], aq_h m s F c_f)) rfl rfl ?_
  refine am_E.go (t2 := (14, [vR o, vI t, vI v, vI p, vI (hv_N (n : Int) t), vU, vU, vU], [vI 0], aq_h m s F c_f)) rfl rfl ?_
  refine am_E.go (t2 := (16, [vR o, vI t, vI v, vI p, vI (hv_N (n : Int) t), vI 0, vU, vU], [], aq_h m s F c_f)) rfl rfl ?_
  refine am_E.go (t2 := (17, [vR o, vI t, vI v, vI p, vI (hv_N (n : Int) t), vI 0, vU, vU], [vI 0], aq_h m s F c_f)) rfl rfl ?_
  refine am_E.go (t2 := (19, [vR o, vI t, vI v, vI p, vI (hv_N (n : Int) t), vI 0, vI 0, vU], [], aq_h m s F c_f)) rfl rfl ?_
  exact qx_rank_out ⟨hm, hn1, hn4, hz6, hFo, hFl, hFg, hFt, hFp, hFq, hFd, hFs, hht⟩ hp0 hp1 (by omega) 8 0 0 (vU) (fun i j => en_ (v % p) p (fo_v (n : Int) t i j)) c_f (aq_smt (aq_sm0 (c := c) (S := (fun a => a = o + 17 ∨ (o + 3 ≤ a ∧ a < o + 9)))) s_f) (by omega) (by omega) (by omega) (by omega) (fun a b a0 a1 b0 b1 => fo_tb (T := fun a b => c_f (o + 3 + a.toNat) b) (by omega) (by omega) ht0 ht1 (fun x y x0 x1 y0 y1 xt yt => v_f x y x0 (by rw [hve.1]; exact x1) y0 (by rw [hve.1]; exact y1) xt yt) a b a0 a1 b0 b1) (fun a b _ _ _ _ => en_b (by omega)) rfl (by omega)
