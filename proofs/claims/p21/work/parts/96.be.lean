/-! Boxes: spellBehind, spellAll. Printed by wip/p20/sx/gBE.py. -/

theorem rn_J9_min {a b : Int} (h : am_H) : am_E ac_J9_min_7cf53 (0, [vI a, vI b], [], h) (fun r h2 => h2 = h ∧ ∃ v, r = some (vI v) ∧ ((a ≤ b ∧ v = a) ∨ (b < a ∧ v = b))) := by
  refine am_E.go (t2 := (1, [vI a, vI b], [vI a], h)) rfl rfl ?_
  refine am_E.go (t2 := (2, [vI a, vI b], [vI b, vI a], h)) rfl rfl ?_
  refine ae_icmp rfl (fun (q : b < a) => ?_) (fun (q : a ≤ b) => ?_)
  · refine am_E.go (t2 := (10, [vI a, vI b], [vI b], h)) rfl rfl ?_
    exact am_E.ret rfl rfl ⟨rfl, _, rfl, by omega⟩
  · refine am_E.go (t2 := (6, [vI a, vI b], [vI a], h)) rfl rfl ?_
    refine am_E.go (t2 := (10, [vI a, vI b], [vI a], h)) rfl rfl ?_
    exact am_E.ret rfl rfl ⟨rfl, _, rfl, by omega⟩
/-- lengths and spellings lie in range -/
def bx_sp (o n K : Nat) (c : aq_C) : Prop := ∀ b : Nat, b < K → -1 ≤ c (o + 3 + K) (b : Int) ∧ c (o + 3 + K) (b : Int) ≤ 6 ∧ ∀ i : Int, 0 ≤ i → i < c (o + 3 + K) (b : Int) → 0 ≤ c (o + 5 + K + b) i ∧ c (o + 5 + K + b) i < 2 * (n : Int) - 2
theorem bx_sb {o n K : Nat} {b w k l : Int} {c c1 c2 c3 : aq_C} (h : bx_sp o n K c) (hb0 : 0 ≤ b) (hbK : b < (K : Int)) (hw0 : 0 ≤ w) (hwK : w < (K : Int)) (hk0 : 0 ≤ k) (hk1 : k < 2 * (n : Int) - 2) (hl0 : 0 ≤ l) (hl5 : l ≤ 5) (hlw : l ≤ c (o + 3 + K) w) (e1 : aq_cp c (o + 5 + K + w.toNat) (0 : Int).toNat (o + 5 + K + b.toNat) (0 : Int).toNat l.toNat = c1) (e2 : aq_u c1 (o + 5 + K + b.toNat) l k = c2) (e3 : aq_u c2 (o + 3 + K) b (l + 1) = c3) : bx_sp o n K c3 ∧ 0 ≤ c3 (o + 3 + K) b ∧ ∀ j, j ≠ b → c3 (o + 3 + K) j = c (o + 3 + K) j := by
  have g1 : c3 (o + 3 + K) b = l + 1 := by rw [← e3, aq_us]
  have g2 : ∀ j, j ≠ b → c3 (o + 3 + K) j = c (o + 3 + K) j := fun j hj => by
    rw [← e3, aq_un (Or.inr hj), ← e2, aq_un (Or.inl (by omega)), ← e1]
    unfold aq_cp
    rw [if_neg (by omega)]
  refine ⟨fun x hx => ?_, by omega, g2⟩
  by_cases e : (x : Int) = b
  · have ex : b.toNat = x := by omega
    rw [e, g1]
    refine ⟨by omega, by omega, fun i i0 i1 => ?_⟩
    rw [← e3, aq_un (Or.inl (by omega)), ← e2, ex]
    by_cases ei : i = l
    · rw [ei, aq_us]
      exact ⟨hk0, hk1⟩
    · rw [aq_un (Or.inr ei), ← e1, ex]
      unfold aq_cp
      have z0 : (((0 : Int).toNat : Nat) : Int) = 0 := rfl
      rw [z0, if_pos (by omega)]
      have hw := (h w.toNat (by omega)).2.2 i i0 (by rw [Int.toNat_of_nonneg hw0]; omega)
      rw [show (0 : Int) + (i - 0) = i by omega]
      exact hw
  · rw [g2 _ e]
    obtain ⟨k1, k2, k3⟩ := h x hx
    refine ⟨k1, k2, fun i i0 i1 => ?_⟩
    rw [← e3, aq_un (Or.inl (by omega)), ← e2, aq_un (Or.inl (by omega)), ← e1]
    unfold aq_cp
    rw [if_neg (by omega)]
    exact k3 i i0 i1
theorem bx_ss {S : Nat → Prop} {o n K : Nat} {c d : aq_C} (h : bx_sp o n K c) (hs : aq_sm S c d) (h3 : ¬ S (o + 3 + K)) (h5 : ∀ b, b < K → ¬ S (o + 5 + K + b)) : bx_sp o n K d := by
  intro b hb
  simp only [hs _ h3, hs _ (h5 b hb)]
  exact h b hb
theorem bx_sn {o n K a : Nat} {i x : Int} {c d : aq_C} (h : bx_sp o n K c) (he : aq_u c a i x = d) (ha : o + 8 + 3 * K ≤ a) : bx_sp o n K d :=
  bx_ss (S := fun b => b = a) h (fun b hb j => by rw [← he, aq_un (Or.inl hb)]) (by omega) (fun b hb => by omega)
/-- what is found is known -/
def bx_fd (o K f : Nat) (z : Int) (c : aq_C) : Prop := ∀ j, 0 ≤ j → j < z → 0 ≤ c f j ∧ c f j < (K : Int) ∧ 0 ≤ c (o + 3 + K) (c f j)
theorem bx_fu {o K f : Nat} {z v : Int} {c d e : aq_C} (h : bx_fd o K f z c) (hf : ∀ j, d f j = c f j) (h0 : 0 ≤ d (o + 3 + K) v) (ho : ∀ j, j ≠ v → d (o + 3 + K) j = c (o + 3 + K) j) (hv0 : 0 ≤ v) (hvK : v < (K : Int)) (he : aq_u d f z v = e) (hfL : f ≠ o + 3 + K) : bx_fd o K f (z + 1) e := by
  intro j j0 j1
  have g : ∀ i, e (o + 3 + K) i = d (o + 3 + K) i := fun i => by rw [← he, aq_un (Or.inl (Ne.symm hfL))]
  rw [g]
  by_cases ej : j = z
  · rw [← he, ej, aq_us]
    exact ⟨hv0, hvK, h0⟩
  · rw [← he, aq_un (Or.inr ej), hf]
    obtain ⟨k1, k2, k3⟩ := h j j0 (by omega)
    refine ⟨k1, k2, ?_⟩
    by_cases e2 : c f j = v
    · rw [e2]; exact h0
    · rw [ho _ e2]; exact k3

theorem qb_spellBehind {m s : Nat} {F : aq_F} {c : aq_C} {S : Nat → Prop} {o n K : Nat} (hB : bx_0 m F o n K) (hL : F (o + 3 + K) = (0, K, fun _ => .inl 0)) (hGg : F (o + 4 + K) = (3, K, fun j => aq_g K j (o + 5 + K + j))) (hGr : ∀ b, b < K → F (o + 5 + K + b) = (0, 6, fun _ => .inl 0)) (hSl : S (o + 3 + K)) (hSg : ∀ b, b < K → S (o + 5 + K + b)) (hsp : bx_sp o n K c) {b w k : Int} (hb0 : 0 ≤ b) (hbK : b < (K : Int)) (hw0 : 0 ≤ w) (hwK : w < (K : Int)) (hk0 : 0 ≤ k) (hk1 : k < 2 * (n : Int) - 2) (hlw : 0 ≤ c (o + 3 + K) w) : am_E ac_X0_spellBehind (0, [vR o, vI b, vI w, vI k, vU], [], aq_h m s F c) (aq_Z m s F S c (fun r d => r = none ∧ bx_sp o n K d ∧ 0 ≤ d (o + 3 + K) b ∧ ∀ j, j ≠ b → d (o + 3 + K) j = c (o + 3 + K) j)) := by
  obtain ⟨hm, hn1, hn4, hK, hFo, hFd, hFs⟩ := hB
  refine am_E.go (t2 := (1, [vR o, vI b, vI w, vI k, vU], [vR o], aq_h m s F c)) rfl rfl ?_
  refine aq_gf (v := vR (o + 3 + K)) rfl (by omega) hFo (by decide) rfl ?_
  show am_E _ (4, [vR o, vI b, vI w, vI k, vU], [vR (o + 3 + K)], aq_h m s F c) _
  refine am_E.go (t2 := (5, [vR o, vI b, vI w, vI k, vU], [vI w, vR (o + 3 + K)], aq_h m s F c)) rfl rfl ?_
  refine aq_al (ok := fun k => k == 0) (v := vI (c (o + 3 + K) w)) rfl rfl (by omega) hL rfl (by omega) (by omega) rfl ?_
  show am_E _ (6, [vR o, vI b, vI w, vI k, vU], [vI (c (o + 3 + K) w)], aq_h m s F c) _
  have f_1 := hsp (w).toNat (by omega)
  rw [Int.toNat_of_nonneg (show 0 ≤ w by omega)] at f_1
  refine am_E.go (t2 := (7, [vR o, vI b, vI w, vI k, vU], [vI 5, vI (c (o + 3 + K) w)], aq_h m s F c)) rfl rfl ?_
  refine am_E.call rfl rfl rfl (Nat.le_of_ble_eq_true rfl) (rn_J9_min _) ?_
  rintro r5 h5 ⟨rfl, v_2, rfl, hv_2⟩
  show am_E _ (10, [vR o, vI b, vI w, vI k, vU], [vI v_2], aq_h m s F c) _
  refine am_E.go (t2 := (12, [vR o, vI b, vI w, vI k, vI v_2], [], aq_h m s F c)) rfl rfl ?_
  refine am_E.go (t2 := (13, [vR o, vI b, vI w, vI k, vI v_2], [vR o], aq_h m s F c)) rfl rfl ?_
  refine aq_gf (v := vR (o + 4 + K)) rfl (by omega) hFo (by decide) rfl ?_
  show am_E _ (16, [vR o, vI b, vI w, vI k, vI v_2], [vR (o + 4 + K)], aq_h m s F c) _
  refine am_E.go (t2 := (17, [vR o, vI b, vI w, vI k, vI v_2], [vI w, vR (o + 4 + K)], aq_h m s F c)) rfl rfl ?_
  refine aq_al (ok := fun k => decide (3 ≤ k) && decide (k < 7)) (v := vR (o + 5 + K + w.toNat)) rfl rfl (by omega) hGg rfl (by omega) (by omega) (aq_gi (by omega)) ?_
  show am_E _ (18, [vR o, vI b, vI w, vI k, vI v_2], [vR (o + 5 + K + w.toNat)], aq_h m s F c) _
  refine am_E.go (t2 := (19, [vR o, vI b, vI w, vI k, vI v_2], [vI 0, vR (o + 5 + K + w.toNat)], aq_h m s F c)) rfl rfl ?_
  refine am_E.go (t2 := (20, [vR o, vI b, vI w, vI k, vI v_2], [vR o, vI 0, vR (o + 5 + K + w.toNat)], aq_h m s F c)) rfl rfl ?_
  refine aq_gf (v := vR (o + 4 + K)) rfl (by omega) hFo (by decide) rfl ?_
  show am_E _ (23, [vR o, vI b, vI w, vI k, vI v_2], [vR (o + 4 + K), vI 0, vR (o + 5 + K + w.toNat)], aq_h m s F c) _
  refine am_E.go (t2 := (24, [vR o, vI b, vI w, vI k, vI v_2], [vI b, vR (o + 4 + K), vI 0, vR (o + 5 + K + w.toNat)], aq_h m s F c)) rfl rfl ?_
  refine aq_al (ok := fun k => decide (3 ≤ k) && decide (k < 7)) (v := vR (o + 5 + K + b.toNat)) rfl rfl (by omega) hGg rfl (by omega) (by omega) (aq_gi (by omega)) ?_
  show am_E _ (25, [vR o, vI b, vI w, vI k, vI v_2], [vR (o + 5 + K + b.toNat), vI 0, vR (o + 5 + K + w.toNat)], aq_h m s F c) _
  refine am_E.go (t2 := (26, [vR o, vI b, vI w, vI k, vI v_2], [vI 0, vR (o + 5 + K + b.toNat), vI 0, vR (o + 5 + K + w.toNat)], aq_h m s F c)) rfl rfl ?_
  refine am_E.go (t2 := (28, [vR o, vI b, vI w, vI k, vI v_2], [vI v_2, vI 0, vR (o + 5 + K + b.toNat), vI 0, vR (o + 5 + K + w.toNat)], aq_h m s F c)) rfl rfl ?_
  refine aq_cpy (n := (v_2 : Int).toNat) (sp := (0 : Int).toNat) (dp := (0 : Int).toNat) rfl (by omega) (by omega) (hGr _ (by omega)) (hGr _ (by omega)) (by decide) (by omega) (by omega) (by omega) (by omega) (by omega) ?_
  show am_E _ (31, [vR o, vI b, vI w, vI k, vI v_2], [], aq_h m s F (aq_cp c (o + 5 + K + w.toNat) (0 : Int).toNat (o + 5 + K + b.toNat) (0 : Int).toNat (v_2 : Int).toNat)) _
  generalize hdc_3 : aq_cp c (o + 5 + K + w.toNat) (0 : Int).toNat (o + 5 + K + b.toNat) (0 : Int).toNat (v_2 : Int).toNat = c_3
  have sc_3 := aq_smc aq_sm0 hdc_3 (hSg _ (by omega))
  refine am_E.go (t2 := (32, [vR o, vI b, vI w, vI k, vI v_2], [vR o], aq_h m s F c_3)) rfl rfl ?_
  refine aq_gf (v := vR (o + 4 + K)) rfl (by omega) hFo (by decide) rfl ?_
  show am_E _ (35, [vR o, vI b, vI w, vI k, vI v_2], [vR (o + 4 + K)], aq_h m s F c_3) _
  refine am_E.go (t2 := (36, [vR o, vI b, vI w, vI k, vI v_2], [vI b, vR (o + 4 + K)], aq_h m s F c_3)) rfl rfl ?_
  refine aq_al (ok := fun k => decide (3 ≤ k) && decide (k < 7)) (v := vR (o + 5 + K + b.toNat)) rfl rfl (by omega) hGg rfl (by omega) (by omega) (aq_gi (by omega)) ?_
  show am_E _ (37, [vR o, vI b, vI w, vI k, vI v_2], [vR (o + 5 + K + b.toNat)], aq_h m s F c_3) _
  refine am_E.go (t2 := (39, [vR o, vI b, vI w, vI k, vI v_2], [vI v_2, vR (o + 5 + K + b.toNat)], aq_h m s F c_3)) rfl rfl ?_
  refine am_E.go (t2 := (40, [vR o, vI b, vI w, vI k, vI v_2], [vI k, vI v_2, vR (o + 5 + K + b.toNat)], aq_h m s F c_3)) rfl rfl ?_
  refine aq_as (kd := 0) rfl rfl (by omega) (hGr _ (by omega)) (by omega) (by omega) rfl rfl ?_
  show am_E _ (41, [vR o, vI b, vI w, vI k, vI v_2], [], aq_h m s F (aq_u c_3 (o + 5 + K + b.toNat) v_2 k)) _
  generalize hdc_4 : aq_u c_3 (o + 5 + K + b.toNat) v_2 k = c_4
  have sc_4 := aq_smu sc_3 hdc_4 (hSg _ (by omega))
  refine am_E.go (t2 := (42, [vR o, vI b, vI w, vI k, vI v_2], [vR o], aq_h m s F c_4)) rfl rfl ?_
  refine aq_gf (v := vR (o + 3 + K)) rfl (by omega) hFo (by decide) rfl ?_
  show am_E _ (45, [vR o, vI b, vI w, vI k, vI v_2], [vR (o + 3 + K)], aq_h m s F c_4) _
  refine am_E.go (t2 := (46, [vR o, vI b, vI w, vI k, vI v_2], [vI b, vR (o + 3 + K)], aq_h m s F c_4)) rfl rfl ?_
  refine am_E.go (t2 := (48, [vR o, vI b, vI w, vI k, vI v_2], [vI v_2, vI b, vR (o + 3 + K)], aq_h m s F c_4)) rfl rfl ?_
  refine am_E.go (t2 := (49, [vR o, vI b, vI w, vI k, vI v_2], [vI 1, vI v_2, vI b, vR (o + 3 + K)], aq_h m s F c_4)) rfl rfl ?_
  refine ae_add rfl (am_ri (by omega) (by omega)) ?_
  show am_E _ (50, [vR o, vI b, vI w, vI k, vI v_2], [vI (v_2 + 1), vI b, vR (o + 3 + K)], aq_h m s F c_4) _
  refine aq_as (kd := 0) rfl rfl (by omega) hL (by omega) (by omega) rfl rfl ?_
  show am_E _ (51, [vR o, vI b, vI w, vI k, vI v_2], [], aq_h m s F (aq_u c_4 (o + 3 + K) b (v_2 + 1))) _
  generalize hdc_5 : aq_u c_4 (o + 3 + K) b (v_2 + 1) = c_5
  have sc_5 := aq_smu sc_4 hdc_5 hSl
  refine am_E.ret rfl rfl ?_
  have fin := bx_sb hsp hb0 hbK hw0 hwK hk0 hk1 (by omega) (by omega) (by omega) hdc_3 hdc_4 hdc_5
  exact ⟨_, rfl, sc_5, rfl, fin⟩

theorem qb_spell_i {m s : Nat} {F : aq_F} {c0 : aq_C} {S : Nat → Prop} {o n K : Nat} (hB : bx_0 m F o n K) (hSd : S (o + 6 + 3 * K)) (hSs : S (o + 7 + 3 * K)) (hL : F (o + 3 + K) = (0, K, fun _ => .inl 0)) (hGg : F (o + 4 + K) = (3, K, fun j => aq_g K j (o + 5 + K + j))) (hGr : ∀ b, b < K → F (o + 5 + K + b) = (0, 6, fun _ => .inl 0)) (hSl : S (o + 3 + K)) (hSg : ∀ b, b < K → S (o + 5 + K + b)) {tN : Int → Int → Int} (hNg : F (o + 5 + 2 * K) = (3, K, fun j => aq_g K j (o + 6 + 2 * K + j))) (hNr : ∀ b, b < K → F (o + 6 + 2 * K + b) = (0, 2 * n - 2, fun j => .inr (vI (tN (b : Int) (j : Int))))) (hNt : ∀ b k : Int, 0 ≤ b → b < (K : Int) → 0 ≤ k → k < 2 * (n : Int) - 2 → 0 ≤ tN b k) (hKn : (K : Int) = bx_K (n : Int)) {f : Nat} (hf : f < m) (hff : F f = (0, K, fun _ => .inl 0)) (hfo : o + 8 + 3 * K ≤ f) (hSf : S f) {i : Int} (hi0 : 0 ≤ i) : ∀ (d : Nat) (z : Int) (k : Int) (v5 : am_V) (c : aq_C) (hs : aq_sm S c0 c) (h0 : 0 ≤ k) (h1 : k ≤ 2 * (n : Int) - 2) (h2 : i < z) (h3 : z ≤ (K : Int)) (hr : aq_rg (o + 6 + 3 * K) (2 * (n : Int)) 0 (2 * (n : Int)) c) (hsp : bx_sp o n K c) (hfd : bx_fd o K f z c) (hd : 2 * (n : Int) - 2 - k < (d : Int)) (K0 : ∀ (z2 : Int) (k2 : Int) (v52 : am_V) (c2 : aq_C) (hs2 : aq_sm S c0 c2) (g1 : i < z2) (g2 : z2 ≤ (K : Int)) (hr2 : aq_rg (o + 6 + 3 * K) (2 * (n : Int)) 0 (2 * (n : Int)) c2) (hsp2 : bx_sp o n K c2) (hfd2 : bx_fd o K f z2 c2), am_E ac_X0_spellAll (142, [vR o, vR f, vI z2, vI i, vI k2, v52], [], aq_h m s F c2) (aq_Z m s F S c0 (fun r d => r = none ∧ aq_rg (o + 6 + 3 * K) (2 * (n : Int)) 0 (2 * (n : Int)) d ∧ bx_sp o n K d))), am_E ac_X0_spellAll (67, [vR o, vR f, vI z, vI i, vI k, v5], [], aq_h m s F c) (aq_Z m s F S c0 (fun r d => r = none ∧ aq_rg (o + 6 + 3 * K) (2 * (n : Int)) 0 (2 * (n : Int)) d ∧ bx_sp o n K d))
  | 0, z, k, v5, c, hs, h0, h1, h2, h3, hr, hsp, hfd, hd, K0 => by exfalso; omega
  | d + 1, z, k, v5, c, hs, h0, h1, h2, h3, hr, hsp, hfd, hd, K0 => by
    obtain ⟨hm, hn1, hn4, hK, hFo, hFd, hFs⟩ := hB
    refine am_E.go (t2 := (69, [vR o, vR f, vI z, vI i, vI k, v5], [vI k], aq_h m s F c)) rfl rfl ?_
    refine am_E.go (t2 := (70, [vR o, vR f, vI z, vI i, vI k, v5], [vR o, vI k], aq_h m s F c)) rfl rfl ?_
    refine aq_gf (v := vI (2 * (n : Int) - 2)) rfl (by omega) hFo (by decide) rfl ?_
    show am_E _ (73, [vR o, vR f, vI z, vI i, vI k, v5], [vI (2 * (n : Int) - 2), vI k], aq_h m s F c) _
    refine ae_icmp rfl (fun (q_1 : (2 * (n : Int) - 2) ≤ k) => ?_) (fun (q_1 : k < (2 * (n : Int) - 2)) => ?_)
    · exact K0 z k (v5) c hs (by omega) (by omega) hr hsp hfd
    · refine am_E.go (t2 := (77, [vR o, vR f, vI z, vI i, vI k, v5], [vR o], aq_h m s F c)) rfl rfl ?_
      refine aq_gf (v := vR (o + 5 + 2 * K)) rfl (by omega) hFo (by decide) rfl ?_
      show am_E _ (80, [vR o, vR f, vI z, vI i, vI k, v5], [vR (o + 5 + 2 * K)], aq_h m s F c) _
      refine am_E.go (t2 := (81, [vR o, vR f, vI z, vI i, vI k, v5], [vR f, vR (o + 5 + 2 * K)], aq_h m s F c)) rfl rfl ?_
      refine am_E.go (t2 := (82, [vR o, vR f, vI z, vI i, vI k, v5], [vI i, vR f, vR (o + 5 + 2 * K)], aq_h m s F c)) rfl rfl ?_
      refine aq_al (ok := fun k => k == 0) (v := vI (c f i)) rfl rfl hf hff rfl (by omega) (by omega) rfl ?_
      show am_E _ (83, [vR o, vR f, vI z, vI i, vI k, v5], [vI (c f i), vR (o + 5 + 2 * K)], aq_h m s F c) _
      have f_2 := hfd i (by omega) (by omega)
      refine aq_al (ok := fun k => decide (3 ≤ k) && decide (k < 7)) (v := vR (o + 6 + 2 * K + (c f i).toNat)) rfl rfl (by omega) hNg rfl (by omega) (by omega) (aq_gi (by omega)) ?_
      show am_E _ (84, [vR o, vR f, vI z, vI i, vI k, v5], [vR (o + 6 + 2 * K + (c f i).toNat)], aq_h m s F c) _
      refine am_E.go (t2 := (86, [vR o, vR f, vI z, vI i, vI k, v5], [vI k, vR (o + 6 + 2 * K + (c f i).toNat)], aq_h m s F c)) rfl rfl ?_
      refine aq_alt (ok := fun k => k == 0) rfl rfl (by omega) (hNr _ (by omega)) rfl (by omega) (by omega) ?_
      show am_E _ (87, [vR o, vR f, vI z, vI i, vI k, v5], [vI (tN (((c f i).toNat : Nat) : Int) k)], aq_h m s F c) _
      have f_3 := hNt (((c f i).toNat : Nat) : Int) k (by omega) (by omega) (by omega) (by omega)
      refine am_E.go (t2 := (89, [vR o, vR f, vI z, vI i, vI k, vI (tN (((c f i).toNat : Nat) : Int) k)], [], aq_h m s F c)) rfl rfl ?_
      refine am_E.go (t2 := (91, [vR o, vR f, vI z, vI i, vI k, vI (tN (((c f i).toNat : Nat) : Int) k)], [vI (tN (((c f i).toNat : Nat) : Int) k)], aq_h m s F c)) rfl rfl ?_
      refine am_E.go (t2 := (92, [vR o, vR f, vI z, vI i, vI k, vI (tN (((c f i).toNat : Nat) : Int) k)], [vR o, vI (tN (((c f i).toNat : Nat) : Int) k)], aq_h m s F c)) rfl rfl ?_
      refine aq_gf (v := vI (K : Int)) rfl (by omega) hFo (by decide) rfl ?_
      show am_E _ (95, [vR o, vR f, vI z, vI i, vI k, vI (tN (((c f i).toNat : Nat) : Int) k)], [vI (K : Int), vI (tN (((c f i).toNat : Nat) : Int) k)], aq_h m s F c) _
      refine ae_icmp rfl (fun (q_4 : (K : Int) ≤ (tN (((c f i).toNat : Nat) : Int) k)) => ?_) (fun (q_4 : (tN (((c f i).toNat : Nat) : Int) k) < (K : Int)) => ?_)
      · refine ae_iinc rfl rfl (am_ri (by omega) (by omega)) ?_
        show am_E _ (139, [vR o, vR f, vI z, vI i, vI (k + 1), vI (tN (((c f i).toNat : Nat) : Int) k)], [], aq_h m s F c) _
        refine am_E.go (t2 := (67, [vR o, vR f, vI z, vI i, vI (k + 1), vI (tN (((c f i).toNat : Nat) : Int) k)], [], aq_h m s F c)) rfl rfl ?_
        exact qb_spell_i ⟨hm, hn1, hn4, hK, hFo, hFd, hFs⟩ hSd hSs hL hGg hGr hSl hSg hNg hNr hNt hKn hf hff hfo hSf hi0 d z (k + 1) (vI (tN (((c f i).toNat : Nat) : Int) k)) c hs (by omega) (by omega) (by omega) (by omega) hr hsp hfd (by omega) K0
      · refine am_E.go (t2 := (99, [vR o, vR f, vI z, vI i, vI k, vI (tN (((c f i).toNat : Nat) : Int) k)], [vR o], aq_h m s F c)) rfl rfl ?_
        refine aq_gf (v := vR (o + 3 + K)) rfl (by omega) hFo (by decide) rfl ?_
        show am_E _ (102, [vR o, vR f, vI z, vI i, vI k, vI (tN (((c f i).toNat : Nat) : Int) k)], [vR (o + 3 + K)], aq_h m s F c) _
        refine am_E.go (t2 := (104, [vR o, vR f, vI z, vI i, vI k, vI (tN (((c f i).toNat : Nat) : Int) k)], [vI (tN (((c f i).toNat : Nat) : Int) k), vR (o + 3 + K)], aq_h m s F c)) rfl rfl ?_
        refine aq_al (ok := fun k => k == 0) (v := vI (c (o + 3 + K) (tN (((c f i).toNat : Nat) : Int) k))) rfl rfl (by omega) hL rfl (by omega) (by omega) rfl ?_
        show am_E _ (105, [vR o, vR f, vI z, vI i, vI k, vI (tN (((c f i).toNat : Nat) : Int) k)], [vI (c (o + 3 + K) (tN (((c f i).toNat : Nat) : Int) k))], aq_h m s F c) _
        have f_5 := hsp ((tN (((c f i).toNat : Nat) : Int) k)).toNat (by omega)
        rw [Int.toNat_of_nonneg (show 0 ≤ (tN (((c f i).toNat : Nat) : Int) k) by omega)] at f_5
        refine am_E.go (t2 := (106, [vR o, vR f, vI z, vI i, vI k, vI (tN (((c f i).toNat : Nat) : Int) k)], [vI (-1), vI (c (o + 3 + K) (tN (((c f i).toNat : Nat) : Int) k))], aq_h m s F c)) rfl rfl ?_
        refine ae_icmp rfl (fun (q_6 : (c (o + 3 + K) (tN (((c f i).toNat : Nat) : Int) k)) ≠ (-1)) => ?_) (fun (q_6 : (c (o + 3 + K) (tN (((c f i).toNat : Nat) : Int) k)) = (-1)) => ?_)
        · refine ae_iinc rfl rfl (am_ri (by omega) (by omega)) ?_
          show am_E _ (139, [vR o, vR f, vI z, vI i, vI (k + 1), vI (tN (((c f i).toNat : Nat) : Int) k)], [], aq_h m s F c) _
          refine am_E.go (t2 := (67, [vR o, vR f, vI z, vI i, vI (k + 1), vI (tN (((c f i).toNat : Nat) : Int) k)], [], aq_h m s F c)) rfl rfl ?_
          exact qb_spell_i ⟨hm, hn1, hn4, hK, hFo, hFd, hFs⟩ hSd hSs hL hGg hGr hSl hSg hNg hNr hNt hKn hf hff hfo hSf hi0 d z (k + 1) (vI (tN (((c f i).toNat : Nat) : Int) k)) c hs (by omega) (by omega) (by omega) (by omega) hr hsp hfd (by omega) K0
        · refine am_E.go (t2 := (110, [vR o, vR f, vI z, vI i, vI k, vI (tN (((c f i).toNat : Nat) : Int) k)], [vI z], aq_h m s F c)) rfl rfl ?_
          refine am_E.go (t2 := (111, [vR o, vR f, vI z, vI i, vI k, vI (tN (((c f i).toNat : Nat) : Int) k)], [vR o, vI z], aq_h m s F c)) rfl rfl ?_
          refine aq_gf (v := vI (K : Int)) rfl (by omega) hFo (by decide) rfl ?_
          show am_E _ (114, [vR o, vR f, vI z, vI i, vI k, vI (tN (((c f i).toNat : Nat) : Int) k)], [vI (K : Int), vI z], aq_h m s F c) _
          refine ae_icmp rfl (fun (q_7 : (K : Int) ≤ z) => ?_) (fun (q_7 : z < (K : Int)) => ?_)
          · refine ae_iinc rfl rfl (am_ri (by omega) (by omega)) ?_
            show am_E _ (139, [vR o, vR f, vI z, vI i, vI (k + 1), vI (tN (((c f i).toNat : Nat) : Int) k)], [], aq_h m s F c) _
            refine am_E.go (t2 := (67, [vR o, vR f, vI z, vI i, vI (k + 1), vI (tN (((c f i).toNat : Nat) : Int) k)], [], aq_h m s F c)) rfl rfl ?_
            exact qb_spell_i ⟨hm, hn1, hn4, hK, hFo, hFd, hFs⟩ hSd hSs hL hGg hGr hSl hSg hNg hNr hNt hKn hf hff hfo hSf hi0 d z (k + 1) (vI (tN (((c f i).toNat : Nat) : Int) k)) c hs (by omega) (by omega) (by omega) (by omega) hr hsp hfd (by omega) K0
          · refine am_E.go (t2 := (118, [vR o, vR f, vI z, vI i, vI k, vI (tN (((c f i).toNat : Nat) : Int) k)], [vR o], aq_h m s F c)) rfl rfl ?_
            refine am_E.go (t2 := (120, [vR o, vR f, vI z, vI i, vI k, vI (tN (((c f i).toNat : Nat) : Int) k)], [vI (tN (((c f i).toNat : Nat) : Int) k), vR o], aq_h m s F c)) rfl rfl ?_
            refine am_E.go (t2 := (121, [vR o, vR f, vI z, vI i, vI k, vI (tN (((c f i).toNat : Nat) : Int) k)], [vR f, vI (tN (((c f i).toNat : Nat) : Int) k), vR o], aq_h m s F c)) rfl rfl ?_
            refine am_E.go (t2 := (122, [vR o, vR f, vI z, vI i, vI k, vI (tN (((c f i).toNat : Nat) : Int) k)], [vI i, vR f, vI (tN (((c f i).toNat : Nat) : Int) k), vR o], aq_h m s F c)) rfl rfl ?_
            refine aq_al (ok := fun k => k == 0) (v := vI (c f i)) rfl rfl hf hff rfl (by omega) (by omega) rfl ?_
            show am_E _ (123, [vR o, vR f, vI z, vI i, vI k, vI (tN (((c f i).toNat : Nat) : Int) k)], [vI (c f i), vI (tN (((c f i).toNat : Nat) : Int) k), vR o], aq_h m s F c) _
            have f_8 := hfd i (by omega) (by omega)
            refine am_E.go (t2 := (125, [vR o, vR f, vI z, vI i, vI k, vI (tN (((c f i).toNat : Nat) : Int) k)], [vI k, vI (c f i), vI (tN (((c f i).toNat : Nat) : Int) k), vR o], aq_h m s F c)) rfl rfl ?_
            refine aq_callv (y := 4) (as2 := [vI (tN (((c f i).toNat : Nat) : Int) k), vI (c f i), vI k]) (rest := []) rfl rfl (by decide) (Nat.le_of_ble_eq_true rfl) rfl rfl (Nat.le_of_ble_eq_true rfl) (by omega) hFo rfl (Nat.le_of_ble_eq_true rfl) (qb_spellBehind (S := (fun a => a = o + 3 + K ∨ (o + 5 + K ≤ a ∧ a < o + 5 + K + K))) ⟨hm, hn1, hn4, hK, hFo, hFd, hFs⟩ hL hGg hGr (Or.inl rfl) (fun b hb => Or.inr (by omega)) hsp (b := (tN (((c f i).toNat : Nat) : Int) k)) (w := (c f i)) (k := k) (by omega) (by omega) (by omega) (by omega) (by omega) (by omega) (by omega)) ?_
            rintro r5 h5 ⟨c_9, rfl, sc_9, rfl, hspc_9, hL0c_9, hLoc_9⟩
            show am_E _ (128, [vR o, vR f, vI z, vI i, vI k, vI (tN (((c f i).toNat : Nat) : Int) k)], [], aq_h m s F c_9) _
            refine am_E.go (t2 := (129, [vR o, vR f, vI z, vI i, vI k, vI (tN (((c f i).toNat : Nat) : Int) k)], [vR f], aq_h m s F c_9)) rfl rfl ?_
            refine am_E.go (t2 := (130, [vR o, vR f, vI z, vI i, vI k, vI (tN (((c f i).toNat : Nat) : Int) k)], [vI z, vR f], aq_h m s F c_9)) rfl rfl ?_
            refine am_E.go (t2 := (132, [vR o, vR f, vI z, vI i, vI k, vI (tN (((c f i).toNat : Nat) : Int) k)], [vI (tN (((c f i).toNat : Nat) : Int) k), vI z, vR f], aq_h m s F c_9)) rfl rfl ?_
            refine aq_as (kd := 0) rfl rfl hf hff (by omega) (by omega) rfl rfl ?_
            show am_E _ (133, [vR o, vR f, vI z, vI i, vI k, vI (tN (((c f i).toNat : Nat) : Int) k)], [], aq_h m s F (aq_u c_9 f z (tN (((c f i).toNat : Nat) : Int) k))) _
            generalize hdc_10 : aq_u c_9 f z (tN (((c f i).toNat : Nat) : Int) k) = c_10
            have sc_10 := aq_smu (aq_smt hs (aq_smi sc_9 (fun a h => by rcases h with h | h; (rw [h]; exact hSl); (have := hSg (a - (o + 5 + K)) (by omega); rw [show o + 5 + K + (a - (o + 5 + K)) = a by omega] at this; exact this)))) hdc_10 hSf
            have hdrc_10 := aq_rgn (aq_rgs hr sc_9 (by omega)) hdc_10 (by omega)
            have hspc_10 := bx_sn hspc_9 hdc_10 hfo
            refine ae_iinc rfl rfl (am_ri (by omega) (by omega)) ?_
            show am_E _ (136, [vR o, vR f, vI (z + 1), vI i, vI k, vI (tN (((c f i).toNat : Nat) : Int) k)], [], aq_h m s F c_10) _
            refine ae_iinc rfl rfl (am_ri (by omega) (by omega)) ?_
            show am_E _ (139, [vR o, vR f, vI (z + 1), vI i, vI (k + 1), vI (tN (((c f i).toNat : Nat) : Int) k)], [], aq_h m s F c_10) _
            refine am_E.go (t2 := (67, [vR o, vR f, vI (z + 1), vI i, vI (k + 1), vI (tN (((c f i).toNat : Nat) : Int) k)], [], aq_h m s F c_10)) rfl rfl ?_
            exact qb_spell_i ⟨hm, hn1, hn4, hK, hFo, hFd, hFs⟩ hSd hSs hL hGg hGr hSl hSg hNg hNr hNt hKn hf hff hfo hSf hi0 d (z + 1) (k + 1) (vI (tN (((c f i).toNat : Nat) : Int) k)) c_10 sc_10 (by omega) (by omega) (by omega) (by omega) hdrc_10 hspc_10 (bx_fu hfd (fun j => by rw [sc_9 f (by omega)]) hL0c_9 hLoc_9 (by omega) (by omega) hdc_10 (by omega)) (by omega) K0

theorem qb_spell_o {m s : Nat} {F : aq_F} {c0 : aq_C} {S : Nat → Prop} {o n K : Nat} (hB : bx_0 m F o n K) (hSd : S (o + 6 + 3 * K)) (hSs : S (o + 7 + 3 * K)) (hL : F (o + 3 + K) = (0, K, fun _ => .inl 0)) (hGg : F (o + 4 + K) = (3, K, fun j => aq_g K j (o + 5 + K + j))) (hGr : ∀ b, b < K → F (o + 5 + K + b) = (0, 6, fun _ => .inl 0)) (hSl : S (o + 3 + K)) (hSg : ∀ b, b < K → S (o + 5 + K + b)) {tN : Int → Int → Int} (hNg : F (o + 5 + 2 * K) = (3, K, fun j => aq_g K j (o + 6 + 2 * K + j))) (hNr : ∀ b, b < K → F (o + 6 + 2 * K + b) = (0, 2 * n - 2, fun j => .inr (vI (tN (b : Int) (j : Int))))) (hNt : ∀ b k : Int, 0 ≤ b → b < (K : Int) → 0 ≤ k → k < 2 * (n : Int) - 2 → 0 ≤ tN b k) (hKn : (K : Int) = bx_K (n : Int)) {f : Nat} (hf : f < m) (hff : F f = (0, K, fun _ => .inl 0)) (hfo : o + 8 + 3 * K ≤ f) (hSf : S f) : ∀ (d : Nat) (z : Int) (i : Int) (v4 : am_V) (v5 : am_V) (c : aq_C) (hs : aq_sm S c0 c) (h0 : 0 ≤ i) (h1 : i ≤ z) (h3 : z ≤ (K : Int)) (hr : aq_rg (o + 6 + 3 * K) (2 * (n : Int)) 0 (2 * (n : Int)) c) (hsp : bx_sp o n K c) (hfd : bx_fd o K f z c) (hd : (K : Int) - i < (d : Int)), am_E ac_X0_spellAll (51, [vR o, vR f, vI z, vI i, v4, v5], [], aq_h m s F c) (aq_Z m s F S c0 (fun r d => r = none ∧ aq_rg (o + 6 + 3 * K) (2 * (n : Int)) 0 (2 * (n : Int)) d ∧ bx_sp o n K d))
  | 0, z, i, v4, v5, c, hs, h0, h1, h3, hr, hsp, hfd, hd => by exfalso; omega
  | d + 1, z, i, v4, v5, c, hs, h0, h1, h3, hr, hsp, hfd, hd => by
    obtain ⟨hm, hn1, hn4, hK, hFo, hFd, hFs⟩ := hB
    refine am_E.go (t2 := (52, [vR o, vR f, vI z, vI i, v4, v5], [vI i], aq_h m s F c)) rfl rfl ?_
    refine am_E.go (t2 := (53, [vR o, vR f, vI z, vI i, v4, v5], [vI z, vI i], aq_h m s F c)) rfl rfl ?_
    refine ae_icmp rfl (fun (q_1 : z ≤ i) => ?_) (fun (q_1 : i < z) => ?_)
    · refine am_E.ret rfl rfl ?_
      exact ⟨_, rfl, hs, rfl, hr, hsp⟩
    · refine am_E.go (t2 := (57, [vR o, vR f, vI z, vI i, v4, v5], [vI z], aq_h m s F c)) rfl rfl ?_
      refine am_E.go (t2 := (58, [vR o, vR f, vI z, vI i, v4, v5], [vR o, vI z], aq_h m s F c)) rfl rfl ?_
      refine aq_gf (v := vI (K : Int)) rfl (by omega) hFo (by decide) rfl ?_
      show am_E _ (61, [vR o, vR f, vI z, vI i, v4, v5], [vI (K : Int), vI z], aq_h m s F c) _
      refine ae_icmp rfl (fun (q_2 : (K : Int) ≤ z) => ?_) (fun (q_2 : z < (K : Int)) => ?_)
      · refine am_E.ret rfl rfl ?_
        exact ⟨_, rfl, hs, rfl, hr, hsp⟩
      · refine am_E.go (t2 := (65, [vR o, vR f, vI z, vI i, v4, v5], [vI 0], aq_h m s F c)) rfl rfl ?_
        refine am_E.go (t2 := (67, [vR o, vR f, vI z, vI i, vI 0, v5], [], aq_h m s F c)) rfl rfl ?_
        refine qb_spell_i ⟨hm, hn1, hn4, hK, hFo, hFd, hFs⟩ hSd hSs hL hGg hGr hSl hSg hNg hNr hNt hKn hf hff hfo hSf (by omega) 9 z 0 (v5) c hs (by omega) (by omega) (by omega) (by omega) hr hsp hfd (by omega) ?_
        · intro z2_67 k2_67 v52_67 c_3 sc_3 g1_67 g2_67 hr2_67 hsp2_67 hfd2_67
          refine ae_iinc rfl rfl (am_ri (by omega) (by omega)) ?_
          show am_E _ (145, [vR o, vR f, vI z2_67, vI (i + 1), vI k2_67, v52_67], [], aq_h m s F c_3) _
          refine am_E.go (t2 := (51, [vR o, vR f, vI z2_67, vI (i + 1), vI k2_67, v52_67], [], aq_h m s F c_3)) rfl rfl ?_
          exact qb_spell_o ⟨hm, hn1, hn4, hK, hFo, hFd, hFs⟩ hSd hSs hL hGg hGr hSl hSg hNg hNr hNt hKn hf hff hfo hSf d z2_67 (i + 1) (vI k2_67) (v52_67) c_3 sc_3 (by omega) (by omega) (by omega) hr2_67 hsp2_67 hfd2_67 (by omega)

theorem qb_spell_u {m s : Nat} {F : aq_F} {c0 : aq_C} {S : Nat → Prop} {o n K : Nat} (hB : bx_0 m F o n K) (hSd : S (o + 6 + 3 * K)) (hSs : S (o + 7 + 3 * K)) (hL : F (o + 3 + K) = (0, K, fun _ => .inl 0)) (hSl : S (o + 3 + K)) {Z : Option am_V → am_H → Prop} : ∀ (d : Nat) (b : Int) (c : aq_C) (hs : aq_sm S c0 c) (h0 : 0 ≤ b) (h1 : b ≤ (K : Int)) (hr : aq_rg (o + 6 + 3 * K) (2 * (n : Int)) 0 (2 * (n : Int)) c) (hz : ∀ i, 0 ≤ i → i < b → c (o + 3 + K) i = (fun _ => -1) i) (hd : (K : Int) - b < (d : Int)) (K0 : ∀ (b2 : Int) (c2 : aq_C) (hs2 : aq_sm S c0 c2) (hr2 : aq_rg (o + 6 + 3 * K) (2 * (n : Int)) 0 (2 * (n : Int)) c2) (hz2 : ∀ i, 0 ≤ i → i < (K : Int) → c2 (o + 3 + K) i = -1), am_E ac_X0_spellAll (23, [vR o, vI b2, vU, vU, vU, vU], [], aq_h m s F c2) Z), am_E ac_X0_spellAll (2, [vR o, vI b, vU, vU, vU, vU], [], aq_h m s F c) Z
  | 0, b, c, hs, h0, h1, hr, hz, hd, K0 => by exfalso; omega
  | d + 1, b, c, hs, h0, h1, hr, hz, hd, K0 => by
    obtain ⟨hm, hn1, hn4, hK, hFo, hFd, hFs⟩ := hB
    refine am_E.go (t2 := (3, [vR o, vI b, vU, vU, vU, vU], [vI b], aq_h m s F c)) rfl rfl ?_
    refine am_E.go (t2 := (4, [vR o, vI b, vU, vU, vU, vU], [vR o, vI b], aq_h m s F c)) rfl rfl ?_
    refine aq_gf (v := vI (K : Int)) rfl (by omega) hFo (by decide) rfl ?_
    show am_E _ (7, [vR o, vI b, vU, vU, vU, vU], [vI (K : Int), vI b], aq_h m s F c) _
    refine ae_icmp rfl (fun (q_1 : (K : Int) ≤ b) => ?_) (fun (q_1 : b < (K : Int)) => ?_)
    · exact K0 b c hs hr (fun i i0 i1 => hz i i0 (by omega))
    · refine am_E.go (t2 := (11, [vR o, vI b, vU, vU, vU, vU], [vR o], aq_h m s F c)) rfl rfl ?_
      refine aq_gf (v := vR (o + 3 + K)) rfl (by omega) hFo (by decide) rfl ?_
      show am_E _ (14, [vR o, vI b, vU, vU, vU, vU], [vR (o + 3 + K)], aq_h m s F c) _
      refine am_E.go (t2 := (15, [vR o, vI b, vU, vU, vU, vU], [vI b, vR (o + 3 + K)], aq_h m s F c)) rfl rfl ?_
      refine am_E.go (t2 := (16, [vR o, vI b, vU, vU, vU, vU], [vI (-1), vI b, vR (o + 3 + K)], aq_h m s F c)) rfl rfl ?_
      refine aq_as (kd := 0) rfl rfl (by omega) hL (by omega) (by omega) rfl rfl ?_
      show am_E _ (17, [vR o, vI b, vU, vU, vU, vU], [], aq_h m s F (aq_u c (o + 3 + K) b (-1))) _
      generalize hdc_2 : aq_u c (o + 3 + K) b (-1) = c_2
      have sc_2 := aq_smu hs hdc_2 hSl
      have hdrc_2 := aq_rgn hr hdc_2 (by omega)
      refine ae_iinc rfl rfl (am_ri (by omega) (by omega)) ?_
      show am_E _ (20, [vR o, vI (b + 1), vU, vU, vU, vU], [], aq_h m s F c_2) _
      refine am_E.go (t2 := (2, [vR o, vI (b + 1), vU, vU, vU, vU], [], aq_h m s F c_2)) rfl rfl ?_
      exact qb_spell_u ⟨hm, hn1, hn4, hK, hFo, hFd, hFs⟩ hSd hSs hL hSl d (b + 1) c_2 sc_2 (by omega) (by omega) hdrc_2 (aq_fl hz hdc_2 rfl) (by omega) K0
