
theorem qx_fits {m s : Nat} {F : aq_F} {c : aq_C} {f g : Int} (hg0 : -1000000000000 ≤ g) (hg1 : g ≤ 1000000000000) (hgn : g ≠ 0) (hf0 : -1000000000000 ≤ f) (hf1 : f ≤ 1000000000000) : am_E ac_X3_fitsProduct (0, [vL f, vU, vL g, vU], [], aq_h m s F c) (aq_P m s F c (fun r => ∃ v, r = some (vI v) ∧ ((v = 1 ∧ pf_ f g) ∨ (v = 0 ∧ ¬ pf_ f g)))) := by
  have w1 : am_wl (-f) = -f := am_wl_id (am_rl (by omega) (by omega))
  have w2 : am_wl (-g) = -g := am_wl_id (am_rl (by omega) (by omega))
  obtain ⟨r0, r1, _⟩ := pf_r hgn
  refine am_E.go (t2 := (1, [vL f, vU, vL g, vU], [vL g], aq_h m s F c)) rfl rfl ?_
  refine am_E.go (t2 := (2, [vL f, vU, vL g, vU], [vL 0, vL g], aq_h m s F c)) rfl rfl ?_
  have ez_1 := am_lcf g 0
  refine am_E.go (t2 := (3, [vL f, vU, vL g, vU], [vI (if g < 0 then -1 else if g = 0 then 0 else 1)], aq_h m s F c)) rfl rfl ?_
  generalize (if g < 0 then -1 else if g = 0 then 0 else 1) = z_1 at ez_1 ⊢
  refine ae_if0 rfl (fun (q_2 : z_1 = 0) => ?_) (fun (q_2 : z_1 ≠ 0) => ?_)
  · refine am_E.go (t2 := (23, [vL f, vU, vL g, vU], [vI 1], aq_h m s F c)) rfl rfl ?_
    refine am_E.go (t2 := (27, [vL f, vU, vL g, vU], [vI 1], aq_h m s F c)) rfl rfl ?_
    refine am_E.ret rfl rfl ?_
    exfalso
    omega
  · refine am_E.go (t2 := (7, [vL f, vU, vL g, vU], [vL f], aq_h m s F c)) rfl rfl ?_
    refine am_E.call rfl rfl rfl (Nat.le_of_ble_eq_true rfl) (rn_J9_absl _) ?_
    rintro r5 h5 ⟨rfl, v_3, rfl, hv_3⟩
    show am_E _ (10, [vL f, vU, vL g, vU], [vL v_3], aq_h m s F c) _
    refine am_E.go (t2 := (13, [vL f, vU, vL g, vU], [vL 1000000000000, vL v_3], aq_h m s F c)) rfl rfl ?_
    refine am_E.go (t2 := (14, [vL f, vU, vL g, vU], [vL g, vL 1000000000000, vL v_3], aq_h m s F c)) rfl rfl ?_
    refine am_E.call rfl rfl rfl (Nat.le_of_ble_eq_true rfl) (rn_J9_absl _) ?_
    rintro r5 h5 ⟨rfl, v_4, rfl, hv_4⟩
    show am_E _ (17, [vL f, vU, vL g, vU], [vL v_4, vL 1000000000000, vL v_3], aq_h m s F c) _
    refine ae_binl (z := am_wl ((1000000000000 : Int).tdiv v_4)) rfl rfl (am_divl_s (by have := am_wl_id (x := -g) (am_rl (by omega) (by omega)); omega)) ?_
    show am_E _ (18, [vL f, vU, vL g, vU], [vL (am_wl ((1000000000000 : Int).tdiv v_4)), vL v_3], aq_h m s F c) _
    have ez_5 := am_lcf v_3 (am_wl ((1000000000000 : Int).tdiv v_4))
    refine am_E.go (t2 := (19, [vL f, vU, vL g, vU], [vI (if v_3 < (am_wl ((1000000000000 : Int).tdiv v_4)) then -1 else if v_3 = (am_wl ((1000000000000 : Int).tdiv v_4)) then 0 else 1)], aq_h m s F c)) rfl rfl ?_
    generalize (if v_3 < (am_wl ((1000000000000 : Int).tdiv v_4)) then -1 else if v_3 = (am_wl ((1000000000000 : Int).tdiv v_4)) then 0 else 1) = z_5 at ez_5 ⊢
    refine ae_if0 rfl (fun (q_6 : 0 < z_5) => ?_) (fun (q_6 : z_5 ≤ 0) => ?_)
    · refine am_E.go (t2 := (27, [vL f, vU, vL g, vU], [vI 0], aq_h m s F c)) rfl rfl ?_
      refine am_E.ret rfl rfl ?_
      first | (exfalso; omega) | skip
      have e4 : v_4 = (if g < 0 then -g else g) := by split <;> omega
      have e5 : (1000000000000 : Int).tdiv v_4 = pf_q g := by rw [e4]; rfl
      rw [e5, am_wl_id (am_rl (by omega) (by omega))] at ez_5
      refine ⟨rfl, _, rfl, ?_⟩
      unfold pf_
      omega
    · refine am_E.go (t2 := (23, [vL f, vU, vL g, vU], [vI 1], aq_h m s F c)) rfl rfl ?_
      refine am_E.go (t2 := (27, [vL f, vU, vL g, vU], [vI 1], aq_h m s F c)) rfl rfl ?_
      refine am_E.ret rfl rfl ?_
      first | (exfalso; omega) | skip
      have e4 : v_4 = (if g < 0 then -g else g) := by split <;> omega
      have e5 : (1000000000000 : Int).tdiv v_4 = pf_q g := by rw [e4]; rfl
      rw [e5, am_wl_id (am_rl (by omega) (by omega))] at ez_5
      refine ⟨rfl, _, rfl, ?_⟩
      unfold pf_
      omega

theorem qx_join_h {m s : Nat} {F : aq_F} {c : aq_C} {a : Nat} (hA : su_0 m F a) {b p f : Int} (hp : 20 < p) : am_E ac_X3_join (0, [vR a, vI b, vI p, vL f, vU, vU], [], aq_h m s F c) (aq_P m s F c (fun r => r = some (vI 0))) := by
  obtain ⟨hma, hFa, hFn, hFp, hFf⟩ := hA
  refine am_E.go (t2 := (1, [vR a, vI b, vI p, vL f, vU, vU], [vI p], aq_h m s F c)) rfl rfl ?_
  refine am_E.go (t2 := (3, [vR a, vI b, vI p, vL f, vU, vU], [vI 20, vI p], aq_h m s F c)) rfl rfl ?_
  refine ae_icmp rfl (fun (q_1 : 20 < p) => ?_) (fun (q_1 : p ≤ 20) => ?_)
  · refine am_E.go (t2 := (14, [vR a, vI b, vI p, vL f, vU, vU], [vI 0], aq_h m s F c)) rfl rfl ?_
    refine am_E.ret rfl rfl ?_
    exact ⟨rfl, rfl⟩
  · exfalso; omega

theorem qx_joinJ {m s : Nat} {F : aq_F} {c : aq_C} {a : Nat} (hA : su_0 m F a) {b p f : Int} (hk1 : 0 ≤ c a 1) (hk2 : c a 1 ≤ 40) (hkf : ∀ i, 0 ≤ i → i < c a 1 → sm_ok (c (a + 3) i)) (hf : sm_ok f) : am_E ac_X3_join (0, [vR a, vI b, vI p, vL f, vU, vU], [], aq_h m s F c) (aq_Z m s F (fun b => b = a ∨ b = a + 1 ∨ b = a + 2 ∨ b = a + 3) c (fun r d => ∃ v, r = some (vI v) ∧ d a 0 = c a 0 ∧ ((v = 0 ∧ sm_J (su_v a c) b p f = none ∧ sm_e (su_v a c) (su_v a d)) ∨ (v = 1 ∧ ∃ t2, sm_J (su_v a c) b p f = some t2 ∧ sm_e t2 (su_v a d))))) := by
  by_cases hp : p ≤ 20
  · have e : sm_J (su_v a c) b p f = sm_j (su_v a c) b p f := by unfold sm_J; rw [if_pos hp]
    rw [e]
    exact qx_join hA hk1 hk2 hkf hf hp
  · have e : sm_J (su_v a c) b p f = none := by unfold sm_J; rw [if_neg hp]
    rw [e]
    refine am_E.imp (qx_join_h hA (by omega)) ?_
    rintro r5 h5 ⟨rfl, rfl⟩
    exact ⟨c, rfl, aq_sm0, 0, rfl, rfl, Or.inl ⟨rfl, rfl, sm_er⟩⟩
theorem sm_qJ {K b p f v : Int} {t u w : sm_} (hw : sm_w K t) (he : sm_e t u) (q : (v = 0 ∧ sm_J u b p f = none ∧ sm_e u w) ∨ (v = 1 ∧ ∃ t2, sm_J u b p f = some t2 ∧ sm_e t2 w)) : (v = 0 ∧ sm_J t b p f = none) ∨ (v = 1 ∧ ∃ t2, sm_J t b p f = some t2 ∧ sm_e t2 w) := by
  unfold sm_J at q ⊢
  by_cases hp : p ≤ 20
  · rw [if_pos hp] at q ⊢
    exact sm_q hw he q
  · rw [if_neg hp] at q ⊢
    rcases q with ⟨k1, k2, k3⟩ | ⟨k1, t2, k2, k3⟩
    · exact Or.inl ⟨k1, rfl⟩
    · exact absurd k2 (by simp)
theorem sm_Jw {t t2 : sm_} {b p f : Int} (h : sm_J t b p f = some t2) : p ≤ 20 ∧ sm_j t b p f = some t2 := by
  unfold sm_J at h
  by_cases hp : p ≤ 20
  · rw [if_pos hp] at h
    exact ⟨hp, h⟩
  · rw [if_neg hp] at h
    exact absurd h (by simp)
theorem sj_s {t d : Nat} {c : aq_C} {g i : Int} {w : sm_} : sj_ (su_v t c) g (d + 1) i w = if i < c t 1 then (sm_j w (c (t + 1) i) (c (t + 2) i) (g * c (t + 3) i)).bind (fun t2 => sj_ (su_v t c) g d (i + 1) t2) else some w := rfl
theorem sp_s {t u d : Nat} {c : aq_C} {n i j : Int} {w : sm_} : sp_i n (su_v t c) (su_v u c) i (d + 1) j w = if j < c u 1 then (if pf_ (c (t + 3) i) (c (u + 3) j) then (sm_J w (sk_ n (c (t + 1) i) (c (u + 1) j) % 1000) (c (t + 2) i + c (u + 2) j + sk_ n (c (t + 1) i) (c (u + 1) j) / 1000) (c (t + 3) i * c (u + 3) j)).bind (fun w2 => sp_i n (su_v t c) (su_v u c) i d (j + 1) w2) else none) else some w := rfl
theorem sp_t {t u d : Nat} {c : aq_C} {n i : Int} {w : sm_} : sp_o n (su_v t c) (su_v u c) (d + 1) i w = if i < c t 1 then (sp_i n (su_v t c) (su_v u c) i 41 0 w).bind (fun w2 => sp_o n (su_v t c) (su_v u c) d (i + 1) w2) else some w := rfl
theorem su_vs {S : Nat → Prop} {t : Nat} {c d : aq_C} (hs : aq_sm S c d) (h0 : ¬ S t) (h1 : ¬ S (t + 1)) (h2 : ¬ S (t + 2)) (h3 : ¬ S (t + 3)) : su_v t d = su_v t c := by
  unfold su_v
  rw [hs t h0 1, show d (t + 1) = c (t + 1) from funext (hs _ h1), show d (t + 2) = c (t + 2) from funext (hs _ h2), show d (t + 3) = c (t + 3) from funext (hs _ h3)]

theorem qx_joinAll_l {m s : Nat} {F : aq_F} {c0 : aq_C} {a : Nat} (hA : su_0 m F a) {k g : Int} {t : Nat} (hAt : su_0 m F t) (hWt : sm_w k (su_v t c0)) (hnt : t + 3 < a ∨ a + 3 < t) (hg : g = 1 ∨ g = -1) {T : Option sm_} : ∀ (d : Nat) (i : Int) (tg : sm_) (c : aq_C) (hs : aq_sm (fun b => b = a ∨ b = a + 1 ∨ b = a + 2 ∨ b = a + 3) c0 c) (h0 : 0 ≤ i) (h1 : i ≤ c0 t 1) (e0 : c a 0 = c0 a 0) (hw : sm_w k tg) (he : sm_e tg (su_v a c)) (hT : sj_ (su_v t c0) g d i tg = T) (hd : c0 t 1 - i < (d : Int)), am_E ac_X3_joinAll (2, [vR a, vR t, vI g, vI i], [], aq_h m s F c) (aq_Z m s F (fun b => b = a ∨ b = a + 1 ∨ b = a + 2 ∨ b = a + 3) c0 (fun r d => ∃ v, r = some (vI v) ∧ d a 0 = c0 a 0 ∧ ((v = 0 ∧ T = none) ∨ (v = 1 ∧ ∃ t2, T = some t2 ∧ sm_w k t2 ∧ sm_e t2 (su_v a d)))))
  | 0, i, tg, c, hs, h0, h1, e0, hw, he, hT, hd => by exfalso; omega
  | d + 1, i, tg, c, hs, h0, h1, e0, hw, he, hT, hd => by
    obtain ⟨hma, hFa, hFn, hFp, hFf⟩ := hA
    obtain ⟨hmat, hFat, hFnt, hFpt, hFft⟩ := hAt
    have hkt1 : 0 ≤ c0 t 1 := hWt.1
    have hkt2 : c0 t 1 ≤ 40 := hWt.2.1
    have z0 : tg.1 = c a 1 := he.1
    have w0 := hw.1
    have w1 := hw.2.1
    have hkf : ∀ i, 0 ≤ i → i < c a 1 → sm_ok (c (a + 3) i) := fun i i0 i1 => by
      have k9 := (hw.2.2.1 i i0 (by omega)).2.2.1
      rw [(he.2 i i0 (by omega)).2.2] at k9
      exact k9
    refine am_E.go (t2 := (3, [vR a, vR t, vI g, vI i], [vI i], aq_h m s F c)) rfl rfl ?_
    refine am_E.go (t2 := (4, [vR a, vR t, vI g, vI i], [vR t, vI i], aq_h m s F c)) rfl rfl ?_
    refine aq_gf (v := vI (c t 1)) rfl (by omega) hFat (by decide) rfl ?_
    show am_E _ (7, [vR a, vR t, vI g, vI i], [vI (c t 1), vI i], aq_h m s F c) _
    have f_1 := hs t (by omega) 1
    refine ae_icmp rfl (fun (q_2 : (c t 1) ≤ i) => ?_) (fun (q_2 : i < (c t 1)) => ?_)
    · refine am_E.go (t2 := (47, [vR a, vR t, vI g, vI i], [vI 1], aq_h m s F c)) rfl rfl ?_
      refine am_E.ret rfl rfl ?_
      refine ⟨_, rfl, hs, 1, rfl, e0, Or.inr ⟨rfl, tg, ?_, hw, he⟩⟩
      rw [← hT, sj_s, if_neg (show ¬ i < c0 t 1 by omega)]
    · refine am_E.go (t2 := (11, [vR a, vR t, vI g, vI i], [vR a], aq_h m s F c)) rfl rfl ?_
      refine am_E.go (t2 := (12, [vR a, vR t, vI g, vI i], [vR t, vR a], aq_h m s F c)) rfl rfl ?_
      refine aq_gf (v := vR (t + 1)) rfl (by omega) hFat (by decide) rfl ?_
      show am_E _ (15, [vR a, vR t, vI g, vI i], [vR (t + 1), vR a], aq_h m s F c) _
      refine am_E.go (t2 := (16, [vR a, vR t, vI g, vI i], [vI i, vR (t + 1), vR a], aq_h m s F c)) rfl rfl ?_
      refine aq_al (ok := fun k => k == 0) (v := vI (c (t + 1) i)) rfl rfl (by omega) hFnt rfl (by omega) (by omega) rfl ?_
      show am_E _ (17, [vR a, vR t, vI g, vI i], [vI (c (t + 1) i), vR a], aq_h m s F c) _
      have f_3 := hs (t + 1) (by omega) i
      have kkt : (0 ≤ c0 (t + 1) i ∧ c0 (t + 1) i < k) ∧ (0 ≤ c0 (t + 2) i ∧ c0 (t + 2) i ≤ 20) ∧ sm_ok (c0 (t + 3) i) ∧ c0 (t + 3) i ≠ 0 := hWt.2.2.1 i (by omega) (show i < c0 t 1 by omega)
      obtain ⟨⟨kb0t, kb1t⟩, ⟨kp0t, kp1t⟩, kft, knt⟩ := kkt
      have kgt := kft
      unfold sm_ok at kgt
      refine am_E.go (t2 := (18, [vR a, vR t, vI g, vI i], [vR t, vI (c (t + 1) i), vR a], aq_h m s F c)) rfl rfl ?_
      refine aq_gf (v := vR (t + 2)) rfl (by omega) hFat (by decide) rfl ?_
      show am_E _ (21, [vR a, vR t, vI g, vI i], [vR (t + 2), vI (c (t + 1) i), vR a], aq_h m s F c) _
      refine am_E.go (t2 := (22, [vR a, vR t, vI g, vI i], [vI i, vR (t + 2), vI (c (t + 1) i), vR a], aq_h m s F c)) rfl rfl ?_
      refine aq_al (ok := fun k => k == 0) (v := vI (c (t + 2) i)) rfl rfl (by omega) hFpt rfl (by omega) (by omega) rfl ?_
      show am_E _ (23, [vR a, vR t, vI g, vI i], [vI (c (t + 2) i), vI (c (t + 1) i), vR a], aq_h m s F c) _
      have f_4 := hs (t + 2) (by omega) i
      refine am_E.go (t2 := (24, [vR a, vR t, vI g, vI i], [vI g, vI (c (t + 2) i), vI (c (t + 1) i), vR a], aq_h m s F c)) rfl rfl ?_
      refine am_E.go (t2 := (25, [vR a, vR t, vI g, vI i], [vL g, vI (c (t + 2) i), vI (c (t + 1) i), vR a], aq_h m s F c)) rfl rfl ?_
      refine am_E.go (t2 := (26, [vR a, vR t, vI g, vI i], [vR t, vL g, vI (c (t + 2) i), vI (c (t + 1) i), vR a], aq_h m s F c)) rfl rfl ?_
      refine aq_gf (v := vR (t + 3)) rfl (by omega) hFat (by decide) rfl ?_
      show am_E _ (29, [vR a, vR t, vI g, vI i], [vR (t + 3), vL g, vI (c (t + 2) i), vI (c (t + 1) i), vR a], aq_h m s F c) _
      refine am_E.go (t2 := (30, [vR a, vR t, vI g, vI i], [vI i, vR (t + 3), vL g, vI (c (t + 2) i), vI (c (t + 1) i), vR a], aq_h m s F c)) rfl rfl ?_
      refine aq_al (ok := fun k => k == 2) (v := vL (c (t + 3) i)) rfl rfl (by omega) hFft rfl (by omega) (by omega) rfl ?_
      show am_E _ (31, [vR a, vR t, vI g, vI i], [vL (c (t + 3) i), vL g, vI (c (t + 2) i), vI (c (t + 1) i), vR a], aq_h m s F c) _
      have f_5 := hs (t + 3) (by omega) i
      have hfg : sm_ok (g * c (t + 3) i) := by unfold sm_ok; rcases hg with e9 | e9 <;> rw [e9] <;> omega
      refine ae_binl (z := g * (c (t + 3) i)) rfl rfl (congrArg some (am_wl_id (am_rl (by rcases hg with e9 | e9 <;> rw [e9] <;> omega) (by rcases hg with e9 | e9 <;> rw [e9] <;> omega)))) ?_
      show am_E _ (32, [vR a, vR t, vI g, vI i], [vL (g * (c (t + 3) i)), vI (c (t + 2) i), vI (c (t + 1) i), vR a], aq_h m s F c) _
      refine aq_callv (y := 4) (as2 := [vI (c (t + 1) i), vI (c (t + 2) i), vL (g * (c (t + 3) i))]) (rest := []) rfl rfl (by decide) (Nat.le_of_ble_eq_true rfl) rfl rfl (Nat.le_of_ble_eq_true rfl) (by omega) hFa rfl (Nat.le_of_ble_eq_true rfl) (qx_join ⟨hma, hFa, hFn, hFp, hFf⟩ (by omega) (by omega) hkf hfg (by omega)) ?_
      rintro r5 h5 ⟨c_j, rfl, sc_j, v_j, rfl, e_j, q_j⟩
      show am_E _ (35, [vR a, vR t, vI g, vI i], [vI v_j], aq_h m s F c_j) _
      have Q := sm_q hw he q_j
      rw [hs (t + 1) (by omega) i, hs (t + 2) (by omega) i, hs (t + 3) (by omega) i] at Q
      rw [hs (t + 3) (by omega) i] at hfg
      refine ae_if0 rfl (fun (q_6 : v_j ≠ 0) => ?_) (fun (q_6 : v_j = 0) => ?_)
      · obtain ⟨t2, e_t, e_w⟩ : ∃ t2, sm_j tg (c0 (t + 1) i) (c0 (t + 2) i) (g * c0 (t + 3) i) = some t2 ∧ sm_e t2 (su_v a c_j) := by
          rcases Q with ⟨k1, k2⟩ | ⟨k1, k2⟩
          · exfalso; omega
          · exact k2
        have hw2 := sm_jw hw kb0t kb1t kp0t kp1t hfg e_t
        refine ae_iinc rfl rfl (am_ri (by omega) (by omega)) ?_
        show am_E _ (43, [vR a, vR t, vI g, vI (i + 1)], [], aq_h m s F c_j) _
        refine am_E.go (t2 := (2, [vR a, vR t, vI g, vI (i + 1)], [], aq_h m s F c_j)) rfl rfl ?_
        exact qx_joinAll_l ⟨hma, hFa, hFn, hFp, hFf⟩ ⟨hmat, hFat, hFnt, hFpt, hFft⟩ hWt hnt hg d (i + 1) _ c_j (aq_smt hs sc_j) (by omega) (by omega) (by rw [e_j]; exact e0) hw2 e_w (by rw [← hT, sj_s, if_pos (show i < c0 t 1 by omega), e_t]; rfl) (by omega)
      · have e_t : sm_j tg (c0 (t + 1) i) (c0 (t + 2) i) (g * c0 (t + 3) i) = none := by
          rcases Q with ⟨k1, k2⟩ | ⟨k1, k2⟩
          · exact k2
          · exfalso; omega
        refine am_E.go (t2 := (39, [vR a, vR t, vI g, vI i], [vI 0], aq_h m s F c_j)) rfl rfl ?_
        refine am_E.ret rfl rfl ?_
        refine ⟨_, rfl, (aq_smt hs sc_j), 0, rfl, by rw [e_j]; exact e0, Or.inl ⟨rfl, ?_⟩⟩
        rw [← hT, sj_s, if_pos (show i < c0 t 1 by omega), e_t]
        rfl

theorem qx_joinAll {m s : Nat} {F : aq_F} {c : aq_C} {a : Nat} (hA : su_0 m F a) {k g : Int} {t : Nat} (hAt : su_0 m F t) (hWt : sm_w k (su_v t c)) (hnt : t + 3 < a ∨ a + 3 < t) (hg : g = 1 ∨ g = -1) {tg : sm_} (hw : sm_w k tg) (he : sm_e tg (su_v a c)) : am_E ac_X3_joinAll (0, [vR a, vR t, vI g, vU], [], aq_h m s F c) (aq_Z m s F (fun b => b = a ∨ b = a + 1 ∨ b = a + 2 ∨ b = a + 3) c (fun r d => ∃ v, r = some (vI v) ∧ d a 0 = c a 0 ∧ ((v = 0 ∧ sj_ (su_v t c) g 41 0 tg = none) ∨ (v = 1 ∧ ∃ t2, sj_ (su_v t c) g 41 0 tg = some t2 ∧ sm_w k t2 ∧ sm_e t2 (su_v a d))))) := by
  obtain ⟨hma, hFa, hFn, hFp, hFf⟩ := hA
  obtain ⟨hmat, hFat, hFnt, hFpt, hFft⟩ := hAt
  have hkt1 : 0 ≤ c t 1 := hWt.1
  have hkt2 : c t 1 ≤ 40 := hWt.2.1
  refine am_E.go (t2 := (1, [vR a, vR t, vI g, vU], [vI 0], aq_h m s F c)) rfl rfl ?_
  refine am_E.go (t2 := (2, [vR a, vR t, vI g, vI 0], [], aq_h m s F c)) rfl rfl ?_
  exact qx_joinAll_l ⟨hma, hFa, hFn, hFp, hFf⟩ ⟨hmat, hFat, hFnt, hFpt, hFft⟩ hWt hnt hg 41 0 _ c (aq_sm0 (S := (fun b => b = a ∨ b = a + 1 ∨ b = a + 2 ∨ b = a + 3))) (by omega) (by omega) rfl hw he rfl (by omega)

theorem qw_stackOn {m s : Nat} {F : aq_F} {c : aq_C} {o n K : Nat} (hB : bx_0 m F o n K) {tL : Int → Int} {tG tN : Int → Int → Int} (hT : bx_w F o n K tL tG tN) {tR : Int → Int} (hex : bx_e n K tG tN tR tL) {x y : Int} (hy0 : 0 ≤ y) (hyK : y < (K : Int)) (hx0 : 0 ≤ x) (hxK : x < (K : Int)) (hKn : (K : Int) = bx_K (n : Int)) : am_E ac_X0_stackOn (0, [vR o, vI x, vI y, vU, vU, vU, vU], [], aq_h m s F c) (aq_P m s F c (fun r => r = some (vI (sk_ (n : Int) x y)))) := by
  refine am_E.imp (qy_stackOn hB hT hex hy0 hyK hx0 hxK) ?_
  rintro r5 h5 ⟨e, q⟩
  have h1 := hB.2.1
  have h4 := hB.2.2.1
  exact ⟨e, by rw [q, so_e_a (by omega) (by omega) hx0 (by omega) hy0 (by omega)]⟩

theorem qx_joinProducts_in {m s : Nat} {F : aq_F} {c0 : aq_C} {a : Nat} (hA : su_0 m F a) {k : Int} {t : Nat} (hAt : su_0 m F t) (hWt : sm_w k (su_v t c0)) (hnt : t + 3 < a ∨ a + 3 < t) {u : Nat} (hAu : su_0 m F u) (hWu : sm_w k (su_v u c0)) (hnu : u + 3 < a ∨ a + 3 < u) {o n K : Nat} (hB : bx_0 m F o n K) {tL : Int → Int} {tG tN : Int → Int → Int} (hT : bx_w F o n K tL tG tN) {tR : Int → Int} (hex : bx_e n K tG tN tR tL) (hkK : k = (K : Int)) (hKn : (K : Int) = bx_K (n : Int)) {T : Option sm_} : ∀ (d : Nat) (i : Int) (j : Int) (v6 : am_V) (v7 : am_V) (tg : sm_) (T1 : Option sm_) (c : aq_C) (hs : aq_sm (fun b => b = a ∨ b = a + 1 ∨ b = a + 2 ∨ b = a + 3) c0 c) (h0 : 0 ≤ i) (h1 : i < c0 t 1) (h2 : 0 ≤ j) (h3 : j ≤ c0 u 1) (e0 : c a 0 = c0 a 0) (hw : sm_w k tg) (he : sm_e tg (su_v a c)) (hQ : sp_i (n : Int) (su_v t c0) (su_v u c0) i d j tg = T1) (hN : T1 = none → T = none) (hd : c0 u 1 - j < (d : Int)) (K0 : ∀ (j2 : Int) (v62 : am_V) (v72 : am_V) (tg2 : sm_) (c2 : aq_C) (hs2 : aq_sm (fun b => b = a ∨ b = a + 1 ∨ b = a + 2 ∨ b = a + 3) c0 c2) (e2 : c2 a 0 = c0 a 0) (hw2 : sm_w k tg2) (he2 : sm_e tg2 (su_v a c2)) (hT2 : T1 = some tg2), am_E ac_X3_joinProducts (128, [vR a, vR t, vR u, vR o, vI i, vI j2, v62, v72], [], aq_h m s F c2) (aq_Z m s F (fun b => b = a ∨ b = a + 1 ∨ b = a + 2 ∨ b = a + 3) c0 (fun r d => ∃ v, r = some (vI v) ∧ d a 0 = c0 a 0 ∧ ((v = 0 ∧ T = none) ∨ (v = 1 ∧ ∃ t2, T = some t2 ∧ sm_w k t2 ∧ sm_e t2 (su_v a d)))))), am_E ac_X3_joinProducts (15, [vR a, vR t, vR u, vR o, vI i, vI j, v6, v7], [], aq_h m s F c) (aq_Z m s F (fun b => b = a ∨ b = a + 1 ∨ b = a + 2 ∨ b = a + 3) c0 (fun r d => ∃ v, r = some (vI v) ∧ d a 0 = c0 a 0 ∧ ((v = 0 ∧ T = none) ∨ (v = 1 ∧ ∃ t2, T = some t2 ∧ sm_w k t2 ∧ sm_e t2 (su_v a d)))))
  | 0, i, j, v6, v7, tg, T1, c, hs, h0, h1, h2, h3, e0, hw, he, hQ, hN, hd, K0 => by exfalso; omega
  | d + 1, i, j, v6, v7, tg, T1, c, hs, h0, h1, h2, h3, e0, hw, he, hQ, hN, hd, K0 => by
    obtain ⟨hma, hFa, hFn, hFp, hFf⟩ := hA
    obtain ⟨hmat, hFat, hFnt, hFpt, hFft⟩ := hAt
    have hkt1 : 0 ≤ c0 t 1 := hWt.1
    have hkt2 : c0 t 1 ≤ 40 := hWt.2.1
    obtain ⟨hmau, hFau, hFnu, hFpu, hFfu⟩ := hAu
    have hku1 : 0 ≤ c0 u 1 := hWu.1
    have hku2 : c0 u 1 ≤ 40 := hWu.2.1
    obtain ⟨hm, hn1, hn4, hK, hFo, hFd, hFs⟩ := hB
    obtain ⟨hL, hGg, hGr, hNg, hNr, hLt, hGt, hNt⟩ := hT
    have z0 : tg.1 = c a 1 := he.1
    have w0 := hw.1
    have w1 := hw.2.1
    have hkf : ∀ i, 0 ≤ i → i < c a 1 → sm_ok (c (a + 3) i) := fun i i0 i1 => by
      have k9 := (hw.2.2.1 i i0 (by omega)).2.2.1
      rw [(he.2 i i0 (by omega)).2.2] at k9
      exact k9
    refine am_E.go (t2 := (17, [vR a, vR t, vR u, vR o, vI i, vI j, v6, v7], [vI j], aq_h m s F c)) rfl rfl ?_
    refine am_E.go (t2 := (18, [vR a, vR t, vR u, vR o, vI i, vI j, v6, v7], [vR u, vI j], aq_h m s F c)) rfl rfl ?_
    refine aq_gf (v := vI (c u 1)) rfl (by omega) hFau (by decide) rfl ?_
    show am_E _ (21, [vR a, vR t, vR u, vR o, vI i, vI j, v6, v7], [vI (c u 1), vI j], aq_h m s F c) _
    have f_1 := hs u (by omega) 1
    refine ae_icmp rfl (fun (q_2 : (c u 1) ≤ j) => ?_) (fun (q_2 : j < (c u 1)) => ?_)
    · exact K0 j (v6) (v7) _ c hs e0 hw he (by rw [← hQ, sp_s, if_neg (show ¬ j < c0 u 1 by omega)])
    · refine am_E.go (t2 := (25, [vR a, vR t, vR u, vR o, vI i, vI j, v6, v7], [vR t], aq_h m s F c)) rfl rfl ?_
      refine aq_gf (v := vR (t + 3)) rfl (by omega) hFat (by decide) rfl ?_
      show am_E _ (28, [vR a, vR t, vR u, vR o, vI i, vI j, v6, v7], [vR (t + 3)], aq_h m s F c) _
      refine am_E.go (t2 := (30, [vR a, vR t, vR u, vR o, vI i, vI j, v6, v7], [vI i, vR (t + 3)], aq_h m s F c)) rfl rfl ?_
      refine aq_al (ok := fun k => k == 2) (v := vL (c (t + 3) i)) rfl rfl (by omega) hFft rfl (by omega) (by omega) rfl ?_
      show am_E _ (31, [vR a, vR t, vR u, vR o, vI i, vI j, v6, v7], [vL (c (t + 3) i)], aq_h m s F c) _
      have f_3 := hs (t + 3) (by omega) i
      have kkt : (0 ≤ c0 (t + 1) i ∧ c0 (t + 1) i < k) ∧ (0 ≤ c0 (t + 2) i ∧ c0 (t + 2) i ≤ 20) ∧ sm_ok (c0 (t + 3) i) ∧ c0 (t + 3) i ≠ 0 := hWt.2.2.1 i (by omega) (show i < c0 t 1 by omega)
      obtain ⟨⟨kb0t, kb1t⟩, ⟨kp0t, kp1t⟩, kft, knt⟩ := kkt
      have kgt := kft
      unfold sm_ok at kgt
      refine am_E.go (t2 := (32, [vR a, vR t, vR u, vR o, vI i, vI j, v6, v7], [vR u, vL (c (t + 3) i)], aq_h m s F c)) rfl rfl ?_
      refine aq_gf (v := vR (u + 3)) rfl (by omega) hFau (by decide) rfl ?_
      show am_E _ (35, [vR a, vR t, vR u, vR o, vI i, vI j, v6, v7], [vR (u + 3), vL (c (t + 3) i)], aq_h m s F c) _
      refine am_E.go (t2 := (37, [vR a, vR t, vR u, vR o, vI i, vI j, v6, v7], [vI j, vR (u + 3), vL (c (t + 3) i)], aq_h m s F c)) rfl rfl ?_
      refine aq_al (ok := fun k => k == 2) (v := vL (c (u + 3) j)) rfl rfl (by omega) hFfu rfl (by omega) (by omega) rfl ?_
      show am_E _ (38, [vR a, vR t, vR u, vR o, vI i, vI j, v6, v7], [vL (c (u + 3) j), vL (c (t + 3) i)], aq_h m s F c) _
      have f_4 := hs (u + 3) (by omega) j
      have kku : (0 ≤ c0 (u + 1) j ∧ c0 (u + 1) j < k) ∧ (0 ≤ c0 (u + 2) j ∧ c0 (u + 2) j ≤ 20) ∧ sm_ok (c0 (u + 3) j) ∧ c0 (u + 3) j ≠ 0 := hWu.2.2.1 j (by omega) (show j < c0 u 1 by omega)
      obtain ⟨⟨kb0u, kb1u⟩, ⟨kp0u, kp1u⟩, kfu, knu⟩ := kku
      have kgu := kfu
      unfold sm_ok at kgu
      refine am_E.call rfl rfl rfl (Nat.le_of_ble_eq_true rfl) (qx_fits (by omega) (by omega) (by omega) (by omega) (by omega)) ?_
      rintro r5 h5 ⟨rfl, v_f, rfl, h_f⟩
      show am_E _ (41, [vR a, vR t, vR u, vR o, vI i, vI j, v6, v7], [vI v_f], aq_h m s F c) _
      refine ae_if0 rfl (fun (q_5 : v_f ≠ 0) => ?_) (fun (q_5 : v_f = 0) => ?_)
      · have hpf : pf_ (c (t + 3) i) (c (u + 3) j) := by
          rcases h_f with ⟨k1, k2⟩ | ⟨k1, k2⟩
          · exact k2
          · exfalso; omega
        have hpo := pf_ok (by omega) hpf
        have hpr := hpo
        unfold sm_ok at hpr
        have hpg : pf_ (c0 (t + 3) i) (c0 (u + 3) j) := by rw [← hs (t + 3) (by omega) i, ← hs (u + 3) (by omega) j]; exact hpf
        refine am_E.go (t2 := (47, [vR a, vR t, vR u, vR o, vI i, vI j, v6, v7], [vR o], aq_h m s F c)) rfl rfl ?_
        refine am_E.go (t2 := (48, [vR a, vR t, vR u, vR o, vI i, vI j, v6, v7], [vR t, vR o], aq_h m s F c)) rfl rfl ?_
        refine aq_gf (v := vR (t + 1)) rfl (by omega) hFat (by decide) rfl ?_
        show am_E _ (51, [vR a, vR t, vR u, vR o, vI i, vI j, v6, v7], [vR (t + 1), vR o], aq_h m s F c) _
        refine am_E.go (t2 := (53, [vR a, vR t, vR u, vR o, vI i, vI j, v6, v7], [vI i, vR (t + 1), vR o], aq_h m s F c)) rfl rfl ?_
        refine aq_al (ok := fun k => k == 0) (v := vI (c (t + 1) i)) rfl rfl (by omega) hFnt rfl (by omega) (by omega) rfl ?_
        show am_E _ (54, [vR a, vR t, vR u, vR o, vI i, vI j, v6, v7], [vI (c (t + 1) i), vR o], aq_h m s F c) _
        have f_6 := hs (t + 1) (by omega) i
        refine am_E.go (t2 := (55, [vR a, vR t, vR u, vR o, vI i, vI j, v6, v7], [vR u, vI (c (t + 1) i), vR o], aq_h m s F c)) rfl rfl ?_
        refine aq_gf (v := vR (u + 1)) rfl (by omega) hFau (by decide) rfl ?_
        show am_E _ (58, [vR a, vR t, vR u, vR o, vI i, vI j, v6, v7], [vR (u + 1), vI (c (t + 1) i), vR o], aq_h m s F c) _
        refine am_E.go (t2 := (60, [vR a, vR t, vR u, vR o, vI i, vI j, v6, v7], [vI j, vR (u + 1), vI (c (t + 1) i), vR o], aq_h m s F c)) rfl rfl ?_
        refine aq_al (ok := fun k => k == 0) (v := vI (c (u + 1) j)) rfl rfl (by omega) hFnu rfl (by omega) (by omega) rfl ?_
        show am_E _ (61, [vR a, vR t, vR u, vR o, vI i, vI j, v6, v7], [vI (c (u + 1) j), vI (c (t + 1) i), vR o], aq_h m s F c) _
        have f_7 := hs (u + 1) (by omega) j
        refine aq_callv (y := 3) (as2 := [vI (c (t + 1) i), vI (c (u + 1) j)]) (rest := []) rfl rfl (by decide) (Nat.le_of_ble_eq_true rfl) rfl rfl (Nat.le_of_ble_eq_true rfl) (by omega) hFo rfl (Nat.le_of_ble_eq_true rfl) (qw_stackOn ⟨hm, hn1, hn4, hK, hFo, hFd, hFs⟩ ⟨hL, hGg, hGr, hNg, hNr, hLt, hGt, hNt⟩ hex (by omega) (by omega) (by omega) (by omega) hKn) ?_
        rintro r5 h5 ⟨rfl, rfl⟩
        show am_E _ (64, [vR a, vR t, vR u, vR o, vI i, vI j, v6, v7], [vI (sk_ (n : Int) (c (t + 1) i) (c (u + 1) j))], aq_h m s F c) _
        have bl := sk_l (n := (n : Int)) (x := c (t + 1) i) (y := c (u + 1) j)
        have bb := sk_b (n := (n : Int)) (x := c (t + 1) i) (y := c (u + 1) j) (by omega) (by omega) (by omega) (by omega) (by omega) (by omega)
        refine am_E.go (t2 := (66, [vR a, vR t, vR u, vR o, vI i, vI j, vI (sk_ (n : Int) (c (t + 1) i) (c (u + 1) j)), v7], [], aq_h m s F c)) rfl rfl ?_
        refine am_E.go (t2 := (67, [vR a, vR t, vR u, vR o, vI i, vI j, vI (sk_ (n : Int) (c (t + 1) i) (c (u + 1) j)), v7], [vR t], aq_h m s F c)) rfl rfl ?_
        refine aq_gf (v := vR (t + 2)) rfl (by omega) hFat (by decide) rfl ?_
        show am_E _ (70, [vR a, vR t, vR u, vR o, vI i, vI j, vI (sk_ (n : Int) (c (t + 1) i) (c (u + 1) j)), v7], [vR (t + 2)], aq_h m s F c) _
        refine am_E.go (t2 := (72, [vR a, vR t, vR u, vR o, vI i, vI j, vI (sk_ (n : Int) (c (t + 1) i) (c (u + 1) j)), v7], [vI i, vR (t + 2)], aq_h m s F c)) rfl rfl ?_
        refine aq_al (ok := fun k => k == 0) (v := vI (c (t + 2) i)) rfl rfl (by omega) hFpt rfl (by omega) (by omega) rfl ?_
        show am_E _ (73, [vR a, vR t, vR u, vR o, vI i, vI j, vI (sk_ (n : Int) (c (t + 1) i) (c (u + 1) j)), v7], [vI (c (t + 2) i)], aq_h m s F c) _
        have f_8 := hs (t + 2) (by omega) i
        refine am_E.go (t2 := (74, [vR a, vR t, vR u, vR o, vI i, vI j, vI (sk_ (n : Int) (c (t + 1) i) (c (u + 1) j)), v7], [vR u, vI (c (t + 2) i)], aq_h m s F c)) rfl rfl ?_
        refine aq_gf (v := vR (u + 2)) rfl (by omega) hFau (by decide) rfl ?_
        show am_E _ (77, [vR a, vR t, vR u, vR o, vI i, vI j, vI (sk_ (n : Int) (c (t + 1) i) (c (u + 1) j)), v7], [vR (u + 2), vI (c (t + 2) i)], aq_h m s F c) _
        refine am_E.go (t2 := (79, [vR a, vR t, vR u, vR o, vI i, vI j, vI (sk_ (n : Int) (c (t + 1) i) (c (u + 1) j)), v7], [vI j, vR (u + 2), vI (c (t + 2) i)], aq_h m s F c)) rfl rfl ?_
        refine aq_al (ok := fun k => k == 0) (v := vI (c (u + 2) j)) rfl rfl (by omega) hFpu rfl (by omega) (by omega) rfl ?_
        show am_E _ (80, [vR a, vR t, vR u, vR o, vI i, vI j, vI (sk_ (n : Int) (c (t + 1) i) (c (u + 1) j)), v7], [vI (c (u + 2) j), vI (c (t + 2) i)], aq_h m s F c) _
        have f_9 := hs (u + 2) (by omega) j
        refine ae_add rfl (am_ri (by omega) (by omega)) ?_
        show am_E _ (81, [vR a, vR t, vR u, vR o, vI i, vI j, vI (sk_ (n : Int) (c (t + 1) i) (c (u + 1) j)), v7], [vI ((c (t + 2) i) + (c (u + 2) j))], aq_h m s F c) _
        refine am_E.go (t2 := (83, [vR a, vR t, vR u, vR o, vI i, vI j, vI (sk_ (n : Int) (c (t + 1) i) (c (u + 1) j)), v7], [vI (sk_ (n : Int) (c (t + 1) i) (c (u + 1) j)), vI ((c (t + 2) i) + (c (u + 2) j))], aq_h m s F c)) rfl rfl ?_
        refine am_E.go (t2 := (86, [vR a, vR t, vR u, vR o, vI i, vI j, vI (sk_ (n : Int) (c (t + 1) i) (c (u + 1) j)), v7], [vI 1000, vI (sk_ (n : Int) (c (t + 1) i) (c (u + 1) j)), vI ((c (t + 2) i) + (c (u + 2) j))], aq_h m s F c)) rfl rfl ?_
        refine ae_bin (z := (sk_ (n : Int) (c (t + 1) i) (c (u + 1) j)) / 1000) rfl rfl (am_div_e (by omega) (by omega) (by decide)) ?_
        show am_E _ (87, [vR a, vR t, vR u, vR o, vI i, vI j, vI (sk_ (n : Int) (c (t + 1) i) (c (u + 1) j)), v7], [vI ((sk_ (n : Int) (c (t + 1) i) (c (u + 1) j)) / 1000), vI ((c (t + 2) i) + (c (u + 2) j))], aq_h m s F c) _
        refine ae_add rfl (am_ri (by omega) (by omega)) ?_
        show am_E _ (88, [vR a, vR t, vR u, vR o, vI i, vI j, vI (sk_ (n : Int) (c (t + 1) i) (c (u + 1) j)), v7], [vI (((c (t + 2) i) + (c (u + 2) j)) + ((sk_ (n : Int) (c (t + 1) i) (c (u + 1) j)) / 1000))], aq_h m s F c) _
        refine am_E.go (t2 := (90, [vR a, vR t, vR u, vR o, vI i, vI j, vI (sk_ (n : Int) (c (t + 1) i) (c (u + 1) j)), vI (((c (t + 2) i) + (c (u + 2) j)) + ((sk_ (n : Int) (c (t + 1) i) (c (u + 1) j)) / 1000))], [], aq_h m s F c)) rfl rfl ?_
        refine am_E.go (t2 := (91, [vR a, vR t, vR u, vR o, vI i, vI j, vI (sk_ (n : Int) (c (t + 1) i) (c (u + 1) j)), vI (((c (t + 2) i) + (c (u + 2) j)) + ((sk_ (n : Int) (c (t + 1) i) (c (u + 1) j)) / 1000))], [vR a], aq_h m s F c)) rfl rfl ?_
        refine am_E.go (t2 := (93, [vR a, vR t, vR u, vR o, vI i, vI j, vI (sk_ (n : Int) (c (t + 1) i) (c (u + 1) j)), vI (((c (t + 2) i) + (c (u + 2) j)) + ((sk_ (n : Int) (c (t + 1) i) (c (u + 1) j)) / 1000))], [vI (sk_ (n : Int) (c (t + 1) i) (c (u + 1) j)), vR a], aq_h m s F c)) rfl rfl ?_
        refine am_E.go (t2 := (96, [vR a, vR t, vR u, vR o, vI i, vI j, vI (sk_ (n : Int) (c (t + 1) i) (c (u + 1) j)), vI (((c (t + 2) i) + (c (u + 2) j)) + ((sk_ (n : Int) (c (t + 1) i) (c (u + 1) j)) / 1000))], [vI 1000, vI (sk_ (n : Int) (c (t + 1) i) (c (u + 1) j)), vR a], aq_h m s F c)) rfl rfl ?_
        refine ae_bin (z := (sk_ (n : Int) (c (t + 1) i) (c (u + 1) j)) % 1000) rfl rfl (am_rem_e (by omega) (by decide)) ?_
        show am_E _ (97, [vR a, vR t, vR u, vR o, vI i, vI j, vI (sk_ (n : Int) (c (t + 1) i) (c (u + 1) j)), vI (((c (t + 2) i) + (c (u + 2) j)) + ((sk_ (n : Int) (c (t + 1) i) (c (u + 1) j)) / 1000))], [vI ((sk_ (n : Int) (c (t + 1) i) (c (u + 1) j)) % 1000), vR a], aq_h m s F c) _
        refine am_E.go (t2 := (99, [vR a, vR t, vR u, vR o, vI i, vI j, vI (sk_ (n : Int) (c (t + 1) i) (c (u + 1) j)), vI (((c (t + 2) i) + (c (u + 2) j)) + ((sk_ (n : Int) (c (t + 1) i) (c (u + 1) j)) / 1000))], [vI (((c (t + 2) i) + (c (u + 2) j)) + ((sk_ (n : Int) (c (t + 1) i) (c (u + 1) j)) / 1000)), vI ((sk_ (n : Int) (c (t + 1) i) (c (u + 1) j)) % 1000), vR a], aq_h m s F c)) rfl rfl ?_
        refine am_E.go (t2 := (100, [vR a, vR t, vR u, vR o, vI i, vI j, vI (sk_ (n : Int) (c (t + 1) i) (c (u + 1) j)), vI (((c (t + 2) i) + (c (u + 2) j)) + ((sk_ (n : Int) (c (t + 1) i) (c (u + 1) j)) / 1000))], [vR t, vI (((c (t + 2) i) + (c (u + 2) j)) + ((sk_ (n : Int) (c (t + 1) i) (c (u + 1) j)) / 1000)), vI ((sk_ (n : Int) (c (t + 1) i) (c (u + 1) j)) % 1000), vR a], aq_h m s F c)) rfl rfl ?_
        refine aq_gf (v := vR (t + 3)) rfl (by omega) hFat (by decide) rfl ?_
        show am_E _ (103, [vR a, vR t, vR u, vR o, vI i, vI j, vI (sk_ (n : Int) (c (t + 1) i) (c (u + 1) j)), vI (((c (t + 2) i) + (c (u + 2) j)) + ((sk_ (n : Int) (c (t + 1) i) (c (u + 1) j)) / 1000))], [vR (t + 3), vI (((c (t + 2) i) + (c (u + 2) j)) + ((sk_ (n : Int) (c (t + 1) i) (c (u + 1) j)) / 1000)), vI ((sk_ (n : Int) (c (t + 1) i) (c (u + 1) j)) % 1000), vR a], aq_h m s F c) _
        refine am_E.go (t2 := (105, [vR a, vR t, vR u, vR o, vI i, vI j, vI (sk_ (n : Int) (c (t + 1) i) (c (u + 1) j)), vI (((c (t + 2) i) + (c (u + 2) j)) + ((sk_ (n : Int) (c (t + 1) i) (c (u + 1) j)) / 1000))], [vI i, vR (t + 3), vI (((c (t + 2) i) + (c (u + 2) j)) + ((sk_ (n : Int) (c (t + 1) i) (c (u + 1) j)) / 1000)), vI ((sk_ (n : Int) (c (t + 1) i) (c (u + 1) j)) % 1000), vR a], aq_h m s F c)) rfl rfl ?_
        refine aq_al (ok := fun k => k == 2) (v := vL (c (t + 3) i)) rfl rfl (by omega) hFft rfl (by omega) (by omega) rfl ?_
        show am_E _ (106, [vR a, vR t, vR u, vR o, vI i, vI j, vI (sk_ (n : Int) (c (t + 1) i) (c (u + 1) j)), vI (((c (t + 2) i) + (c (u + 2) j)) + ((sk_ (n : Int) (c (t + 1) i) (c (u + 1) j)) / 1000))], [vL (c (t + 3) i), vI (((c (t + 2) i) + (c (u + 2) j)) + ((sk_ (n : Int) (c (t + 1) i) (c (u + 1) j)) / 1000)), vI ((sk_ (n : Int) (c (t + 1) i) (c (u + 1) j)) % 1000), vR a], aq_h m s F c) _
        have f_10 := hs (t + 3) (by omega) i
        refine am_E.go (t2 := (107, [vR a, vR t, vR u, vR o, vI i, vI j, vI (sk_ (n : Int) (c (t + 1) i) (c (u + 1) j)), vI (((c (t + 2) i) + (c (u + 2) j)) + ((sk_ (n : Int) (c (t + 1) i) (c (u + 1) j)) / 1000))], [vR u, vL (c (t + 3) i), vI (((c (t + 2) i) + (c (u + 2) j)) + ((sk_ (n : Int) (c (t + 1) i) (c (u + 1) j)) / 1000)), vI ((sk_ (n : Int) (c (t + 1) i) (c (u + 1) j)) % 1000), vR a], aq_h m s F c)) rfl rfl ?_
        refine aq_gf (v := vR (u + 3)) rfl (by omega) hFau (by decide) rfl ?_
        show am_E _ (110, [vR a, vR t, vR u, vR o, vI i, vI j, vI (sk_ (n : Int) (c (t + 1) i) (c (u + 1) j)), vI (((c (t + 2) i) + (c (u + 2) j)) + ((sk_ (n : Int) (c (t + 1) i) (c (u + 1) j)) / 1000))], [vR (u + 3), vL (c (t + 3) i), vI (((c (t + 2) i) + (c (u + 2) j)) + ((sk_ (n : Int) (c (t + 1) i) (c (u + 1) j)) / 1000)), vI ((sk_ (n : Int) (c (t + 1) i) (c (u + 1) j)) % 1000), vR a], aq_h m s F c) _
        refine am_E.go (t2 := (112, [vR a, vR t, vR u, vR o, vI i, vI j, vI (sk_ (n : Int) (c (t + 1) i) (c (u + 1) j)), vI (((c (t + 2) i) + (c (u + 2) j)) + ((sk_ (n : Int) (c (t + 1) i) (c (u + 1) j)) / 1000))], [vI j, vR (u + 3), vL (c (t + 3) i), vI (((c (t + 2) i) + (c (u + 2) j)) + ((sk_ (n : Int) (c (t + 1) i) (c (u + 1) j)) / 1000)), vI ((sk_ (n : Int) (c (t + 1) i) (c (u + 1) j)) % 1000), vR a], aq_h m s F c)) rfl rfl ?_
        refine aq_al (ok := fun k => k == 2) (v := vL (c (u + 3) j)) rfl rfl (by omega) hFfu rfl (by omega) (by omega) rfl ?_
        show am_E _ (113, [vR a, vR t, vR u, vR o, vI i, vI j, vI (sk_ (n : Int) (c (t + 1) i) (c (u + 1) j)), vI (((c (t + 2) i) + (c (u + 2) j)) + ((sk_ (n : Int) (c (t + 1) i) (c (u + 1) j)) / 1000))], [vL (c (u + 3) j), vL (c (t + 3) i), vI (((c (t + 2) i) + (c (u + 2) j)) + ((sk_ (n : Int) (c (t + 1) i) (c (u + 1) j)) / 1000)), vI ((sk_ (n : Int) (c (t + 1) i) (c (u + 1) j)) % 1000), vR a], aq_h m s F c) _
        have f_11 := hs (u + 3) (by omega) j
        refine ae_binl (z := (c (t + 3) i) * (c (u + 3) j)) rfl rfl (congrArg some (am_wl_id (am_rl (by omega) (by omega)))) ?_
        show am_E _ (114, [vR a, vR t, vR u, vR o, vI i, vI j, vI (sk_ (n : Int) (c (t + 1) i) (c (u + 1) j)), vI (((c (t + 2) i) + (c (u + 2) j)) + ((sk_ (n : Int) (c (t + 1) i) (c (u + 1) j)) / 1000))], [vL ((c (t + 3) i) * (c (u + 3) j)), vI (((c (t + 2) i) + (c (u + 2) j)) + ((sk_ (n : Int) (c (t + 1) i) (c (u + 1) j)) / 1000)), vI ((sk_ (n : Int) (c (t + 1) i) (c (u + 1) j)) % 1000), vR a], aq_h m s F c) _
        refine aq_callv (y := 4) (as2 := [vI ((sk_ (n : Int) (c (t + 1) i) (c (u + 1) j)) % 1000), vI (((c (t + 2) i) + (c (u + 2) j)) + ((sk_ (n : Int) (c (t + 1) i) (c (u + 1) j)) / 1000)), vL ((c (t + 3) i) * (c (u + 3) j))]) (rest := []) rfl rfl (by decide) (Nat.le_of_ble_eq_true rfl) rfl rfl (Nat.le_of_ble_eq_true rfl) (by omega) hFa rfl (Nat.le_of_ble_eq_true rfl) (qx_joinJ ⟨hma, hFa, hFn, hFp, hFf⟩ (by omega) (by omega) hkf hpo) ?_
        rintro r5 h5 ⟨c_j, rfl, sc_j, v_j, rfl, e_j, q_j⟩
        show am_E _ (117, [vR a, vR t, vR u, vR o, vI i, vI j, vI (sk_ (n : Int) (c (t + 1) i) (c (u + 1) j)), vI (((c (t + 2) i) + (c (u + 2) j)) + ((sk_ (n : Int) (c (t + 1) i) (c (u + 1) j)) / 1000))], [vI v_j], aq_h m s F c_j) _
        have Q := sm_qJ hw he q_j
        have hpq := hpo
        rw [hs (t + 1) (by omega) i, hs (u + 1) (by omega) j, hs (t + 2) (by omega) i, hs (u + 2) (by omega) j, hs (t + 3) (by omega) i, hs (u + 3) (by omega) j] at Q
        rw [hs (t + 3) (by omega) i, hs (u + 3) (by omega) j] at hpq
        rw [hs (t + 1) (by omega) i, hs (u + 1) (by omega) j] at bb
        refine ae_if0 rfl (fun (q_12 : v_j ≠ 0) => ?_) (fun (q_12 : v_j = 0) => ?_)
        · obtain ⟨t2, e_t, e_w⟩ : ∃ t2, sm_J tg (sk_ (n : Int) (c0 (t + 1) i) (c0 (u + 1) j) % 1000) (c0 (t + 2) i + c0 (u + 2) j + sk_ (n : Int) (c0 (t + 1) i) (c0 (u + 1) j) / 1000) (c0 (t + 3) i * c0 (u + 3) j) = some t2 ∧ sm_e t2 (su_v a c_j) := by
            rcases Q with ⟨k1, k2⟩ | ⟨k1, k2⟩
            · exfalso; omega
            · exact k2
          have e_u := sm_Jw e_t
          have hw2 := sm_jw hw bb.1.1 (by have := bb.1.2; omega) (by omega) e_u.1 hpq e_u.2
          refine ae_iinc rfl rfl (am_ri (by omega) (by omega)) ?_
          show am_E _ (125, [vR a, vR t, vR u, vR o, vI i, vI (j + 1), vI (sk_ (n : Int) (c (t + 1) i) (c (u + 1) j)), vI (((c (t + 2) i) + (c (u + 2) j)) + ((sk_ (n : Int) (c (t + 1) i) (c (u + 1) j)) / 1000))], [], aq_h m s F c_j) _
          refine am_E.go (t2 := (15, [vR a, vR t, vR u, vR o, vI i, vI (j + 1), vI (sk_ (n : Int) (c (t + 1) i) (c (u + 1) j)), vI (((c (t + 2) i) + (c (u + 2) j)) + ((sk_ (n : Int) (c (t + 1) i) (c (u + 1) j)) / 1000))], [], aq_h m s F c_j)) rfl rfl ?_
          exact qx_joinProducts_in ⟨hma, hFa, hFn, hFp, hFf⟩ ⟨hmat, hFat, hFnt, hFpt, hFft⟩ hWt hnt ⟨hmau, hFau, hFnu, hFpu, hFfu⟩ hWu hnu ⟨hm, hn1, hn4, hK, hFo, hFd, hFs⟩ ⟨hL, hGg, hGr, hNg, hNr, hLt, hGt, hNt⟩ hex hkK hKn d i (j + 1) (vI (sk_ (n : Int) (c (t + 1) i) (c (u + 1) j))) (vI (((c (t + 2) i) + (c (u + 2) j)) + ((sk_ (n : Int) (c (t + 1) i) (c (u + 1) j)) / 1000))) _ _ c_j (aq_smt hs sc_j) (by omega) (by omega) (by omega) (by omega) (by rw [e_j]; exact e0) hw2 e_w (by rw [← hQ, sp_s, if_pos (show j < c0 u 1 by omega), if_pos hpg, e_t]; rfl) hN (by omega) K0
        · have e_t : sm_J tg (sk_ (n : Int) (c0 (t + 1) i) (c0 (u + 1) j) % 1000) (c0 (t + 2) i + c0 (u + 2) j + sk_ (n : Int) (c0 (t + 1) i) (c0 (u + 1) j) / 1000) (c0 (t + 3) i * c0 (u + 3) j) = none := by
            rcases Q with ⟨k1, k2⟩ | ⟨k1, k2⟩
            · exact k2
            · exfalso; omega
          refine am_E.go (t2 := (121, [vR a, vR t, vR u, vR o, vI i, vI j, vI (sk_ (n : Int) (c (t + 1) i) (c (u + 1) j)), vI (((c (t + 2) i) + (c (u + 2) j)) + ((sk_ (n : Int) (c (t + 1) i) (c (u + 1) j)) / 1000))], [vI 0], aq_h m s F c_j)) rfl rfl ?_
          refine am_E.ret rfl rfl ?_
          refine ⟨_, rfl, (aq_smt hs sc_j), 0, rfl, by rw [e_j]; exact e0, Or.inl ⟨rfl, hN ?_⟩⟩
          rw [← hQ, sp_s, if_pos (show j < c0 u 1 by omega), if_pos hpg, e_t]
          rfl
      · have hpg : ¬ pf_ (c0 (t + 3) i) (c0 (u + 3) j) := by
          rw [← hs (t + 3) (by omega) i, ← hs (u + 3) (by omega) j]
          rcases h_f with ⟨k1, k2⟩ | ⟨k1, k2⟩
          · exfalso; omega
          · exact k2
        refine am_E.go (t2 := (45, [vR a, vR t, vR u, vR o, vI i, vI j, v6, v7], [vI 0], aq_h m s F c)) rfl rfl ?_
        refine am_E.ret rfl rfl ?_
        refine ⟨_, rfl, hs, 0, rfl, e0, Or.inl ⟨rfl, hN ?_⟩⟩
        rw [← hQ, sp_s, if_pos (show j < c0 u 1 by omega), if_neg hpg]

theorem qx_joinProducts_out {m s : Nat} {F : aq_F} {c0 : aq_C} {a : Nat} (hA : su_0 m F a) {k : Int} {t : Nat} (hAt : su_0 m F t) (hWt : sm_w k (su_v t c0)) (hnt : t + 3 < a ∨ a + 3 < t) {u : Nat} (hAu : su_0 m F u) (hWu : sm_w k (su_v u c0)) (hnu : u + 3 < a ∨ a + 3 < u) {o n K : Nat} (hB : bx_0 m F o n K) {tL : Int → Int} {tG tN : Int → Int → Int} (hT : bx_w F o n K tL tG tN) {tR : Int → Int} (hex : bx_e n K tG tN tR tL) (hkK : k = (K : Int)) (hKn : (K : Int) = bx_K (n : Int)) {T : Option sm_} : ∀ (d : Nat) (i : Int) (v5 : am_V) (v6 : am_V) (v7 : am_V) (tg : sm_) (c : aq_C) (hs : aq_sm (fun b => b = a ∨ b = a + 1 ∨ b = a + 2 ∨ b = a + 3) c0 c) (h0 : 0 ≤ i) (h1 : i ≤ c0 t 1) (e0 : c a 0 = c0 a 0) (hw : sm_w k tg) (he : sm_e tg (su_v a c)) (hQ : sp_o (n : Int) (su_v t c0) (su_v u c0) d i tg = T) (hd : c0 t 1 - i < (d : Int)), am_E ac_X3_joinProducts (3, [vR a, vR t, vR u, vR o, vI i, v5, v6, v7], [], aq_h m s F c) (aq_Z m s F (fun b => b = a ∨ b = a + 1 ∨ b = a + 2 ∨ b = a + 3) c0 (fun r d => ∃ v, r = some (vI v) ∧ d a 0 = c0 a 0 ∧ ((v = 0 ∧ T = none) ∨ (v = 1 ∧ ∃ t2, T = some t2 ∧ sm_w k t2 ∧ sm_e t2 (su_v a d)))))
  | 0, i, v5, v6, v7, tg, c, hs, h0, h1, e0, hw, he, hQ, hd => by exfalso; omega
  | d + 1, i, v5, v6, v7, tg, c, hs, h0, h1, e0, hw, he, hQ, hd => by
    obtain ⟨hma, hFa, hFn, hFp, hFf⟩ := hA
    obtain ⟨hmat, hFat, hFnt, hFpt, hFft⟩ := hAt
    have hkt1 : 0 ≤ c0 t 1 := hWt.1
    have hkt2 : c0 t 1 ≤ 40 := hWt.2.1
    obtain ⟨hmau, hFau, hFnu, hFpu, hFfu⟩ := hAu
    have hku1 : 0 ≤ c0 u 1 := hWu.1
    have hku2 : c0 u 1 ≤ 40 := hWu.2.1
    obtain ⟨hm, hn1, hn4, hK, hFo, hFd, hFs⟩ := hB
    obtain ⟨hL, hGg, hGr, hNg, hNr, hLt, hGt, hNt⟩ := hT
    refine am_E.go (t2 := (5, [vR a, vR t, vR u, vR o, vI i, v5, v6, v7], [vI i], aq_h m s F c)) rfl rfl ?_
    refine am_E.go (t2 := (6, [vR a, vR t, vR u, vR o, vI i, v5, v6, v7], [vR t, vI i], aq_h m s F c)) rfl rfl ?_
    refine aq_gf (v := vI (c t 1)) rfl (by omega) hFat (by decide) rfl ?_
    show am_E _ (9, [vR a, vR t, vR u, vR o, vI i, v5, v6, v7], [vI (c t 1), vI i], aq_h m s F c) _
    have f_1 := hs t (by omega) 1
    refine ae_icmp rfl (fun (q_2 : (c t 1) ≤ i) => ?_) (fun (q_2 : i < (c t 1)) => ?_)
    · refine am_E.go (t2 := (135, [vR a, vR t, vR u, vR o, vI i, v5, v6, v7], [vI 1], aq_h m s F c)) rfl rfl ?_
      refine am_E.ret rfl rfl ?_
      refine ⟨_, rfl, hs, 1, rfl, e0, Or.inr ⟨rfl, tg, ?_, hw, he⟩⟩
      rw [← hQ, sp_t, if_neg (show ¬ i < c0 t 1 by omega)]
    · refine am_E.go (t2 := (13, [vR a, vR t, vR u, vR o, vI i, v5, v6, v7], [vI 0], aq_h m s F c)) rfl rfl ?_
      refine am_E.go (t2 := (15, [vR a, vR t, vR u, vR o, vI i, vI 0, v6, v7], [], aq_h m s F c)) rfl rfl ?_
      refine qx_joinProducts_in ⟨hma, hFa, hFn, hFp, hFf⟩ ⟨hmat, hFat, hFnt, hFpt, hFft⟩ hWt hnt ⟨hmau, hFau, hFnu, hFpu, hFfu⟩ hWu hnu ⟨hm, hn1, hn4, hK, hFo, hFd, hFs⟩ ⟨hL, hGg, hGr, hNg, hNr, hLt, hGt, hNt⟩ hex hkK hKn 41 i 0 (v6) (v7) _ _ c hs (by omega) (by omega) (by omega) (by omega) e0 hw he rfl (fun h9 => by rw [← hQ, sp_t, if_pos (show i < c0 t 1 by omega), h9]; rfl) (by omega) ?_
      · intro j2_15 v62_15 v72_15 tg2_15 c_3 sc_3 e2_15 hw2_15 he2_15 hT2_15
        refine ae_iinc rfl rfl (am_ri (by omega) (by omega)) ?_
        show am_E _ (131, [vR a, vR t, vR u, vR o, vI (i + 1), vI j2_15, v62_15, v72_15], [], aq_h m s F c_3) _
        refine am_E.go (t2 := (3, [vR a, vR t, vR u, vR o, vI (i + 1), vI j2_15, v62_15, v72_15], [], aq_h m s F c_3)) rfl rfl ?_
        exact qx_joinProducts_out ⟨hma, hFa, hFn, hFp, hFf⟩ ⟨hmat, hFat, hFnt, hFpt, hFft⟩ hWt hnt ⟨hmau, hFau, hFnu, hFpu, hFfu⟩ hWu hnu ⟨hm, hn1, hn4, hK, hFo, hFd, hFs⟩ ⟨hL, hGg, hGr, hNg, hNr, hLt, hGt, hNt⟩ hex hkK hKn d (i + 1) (vI j2_15) (v62_15) (v72_15) _ c_3 sc_3 (by omega) (by omega) e2_15 hw2_15 he2_15 (by rw [← hQ, sp_t, if_pos (show i < c0 t 1 by omega), hT2_15]; rfl) (by omega)

theorem qx_joinProducts {m s : Nat} {F : aq_F} {c : aq_C} {a : Nat} (hA : su_0 m F a) {k : Int} {t : Nat} (hAt : su_0 m F t) (hWt : sm_w k (su_v t c)) (hnt : t + 3 < a ∨ a + 3 < t) {u : Nat} (hAu : su_0 m F u) (hWu : sm_w k (su_v u c)) (hnu : u + 3 < a ∨ a + 3 < u) {o n K : Nat} (hB : bx_0 m F o n K) {tL : Int → Int} {tG tN : Int → Int → Int} (hT : bx_w F o n K tL tG tN) {tR : Int → Int} (hex : bx_e n K tG tN tR tL) (hkK : k = (K : Int)) (hKn : (K : Int) = bx_K (n : Int)) {tg : sm_} (hw : sm_w k tg) (he : sm_e tg (su_v a c)) : am_E ac_X3_joinProducts (0, [vR a, vR t, vR u, vR o, vU, vU, vU, vU], [], aq_h m s F c) (aq_Z m s F (fun b => b = a ∨ b = a + 1 ∨ b = a + 2 ∨ b = a + 3) c (fun r d => ∃ v, r = some (vI v) ∧ d a 0 = c a 0 ∧ ((v = 0 ∧ sp_o (n : Int) (su_v t c) (su_v u c) 41 0 tg = none) ∨ (v = 1 ∧ ∃ t2, sp_o (n : Int) (su_v t c) (su_v u c) 41 0 tg = some t2 ∧ sm_w k t2 ∧ sm_e t2 (su_v a d))))) := by
  obtain ⟨hma, hFa, hFn, hFp, hFf⟩ := hA
  obtain ⟨hmat, hFat, hFnt, hFpt, hFft⟩ := hAt
  have hkt1 : 0 ≤ c t 1 := hWt.1
  have hkt2 : c t 1 ≤ 40 := hWt.2.1
  obtain ⟨hmau, hFau, hFnu, hFpu, hFfu⟩ := hAu
  have hku1 : 0 ≤ c u 1 := hWu.1
  have hku2 : c u 1 ≤ 40 := hWu.2.1
  obtain ⟨hm, hn1, hn4, hK, hFo, hFd, hFs⟩ := hB
  obtain ⟨hL, hGg, hGr, hNg, hNr, hLt, hGt, hNt⟩ := hT
  refine am_E.go (t2 := (1, [vR a, vR t, vR u, vR o, vU, vU, vU, vU], [vI 0], aq_h m s F c)) rfl rfl ?_
  refine am_E.go (t2 := (3, [vR a, vR t, vR u, vR o, vI 0, vU, vU, vU], [], aq_h m s F c)) rfl rfl ?_
  exact qx_joinProducts_out ⟨hma, hFa, hFn, hFp, hFf⟩ ⟨hmat, hFat, hFnt, hFpt, hFft⟩ hWt hnt ⟨hmau, hFau, hFnu, hFpu, hFfu⟩ hWu hnu ⟨hm, hn1, hn4, hK, hFo, hFd, hFs⟩ ⟨hL, hGg, hGr, hNg, hNr, hLt, hGt, hNt⟩ hex hkK hKn 41 0 (vU) (vU) (vU) _ c (aq_sm0 (S := (fun b => b = a ∨ b = a + 1 ∨ b = a + 2 ∨ b = a + 3))) (by omega) (by omega) rfl hw he rfl (by omega)

theorem qx_take {m s : Nat} {F : aq_F} {c : aq_C} {a : Nat} (hA : su_0 m F a) {t : Nat} (hAt : su_0 m F t) (hkt1 : 0 ≤ c t 1) (hkt2 : c t 1 ≤ 40) (hnt : t + 3 < a ∨ a + 3 < t) : am_E ac_X3_take (0, [vR a, vR t], [], aq_h m s F c) (aq_Z m s F (fun b => b = a ∨ b = a + 1 ∨ b = a + 2 ∨ b = a + 3) c (fun r d => r = none ∧ d a 0 = c t 0 ∧ sm_e (su_v t c) (su_v a d))) := by
  obtain ⟨hma, hFa, hFn, hFp, hFf⟩ := hA
  obtain ⟨hmat, hFat, hFnt, hFpt, hFft⟩ := hAt
  refine am_E.go (t2 := (1, [vR a, vR t], [vR a], aq_h m s F c)) rfl rfl ?_
  refine am_E.go (t2 := (2, [vR a, vR t], [vR t, vR a], aq_h m s F c)) rfl rfl ?_
  refine aq_gf (v := vI (c t 0)) rfl (by omega) hFat (by decide) rfl ?_
  show am_E _ (5, [vR a, vR t], [vI (c t 0), vR a], aq_h m s F c) _
  have f_1 : c t 0 = c t 0 := by rfl
  refine aq_pf rfl (by omega) hFa (by decide) rfl rfl ?_
  show am_E _ (8, [vR a, vR t], [], aq_h m s F (aq_u c a 0 (c t 0))) _
  generalize hdc_2 : aq_u c a 0 (c t 0) = c_2
  have sc_2 := aq_smu (aq_sm0 (S := (fun b => b = a ∨ b = a + 1 ∨ b = a + 2 ∨ b = a + 3))) hdc_2 (Or.inl rfl)
  refine am_E.go (t2 := (9, [vR a, vR t], [vR a], aq_h m s F c_2)) rfl rfl ?_
  refine am_E.go (t2 := (10, [vR a, vR t], [vR t, vR a], aq_h m s F c_2)) rfl rfl ?_
  refine aq_gf (v := vI (c_2 t 1)) rfl (by omega) hFat (by decide) rfl ?_
  show am_E _ (13, [vR a, vR t], [vI (c_2 t 1), vR a], aq_h m s F c_2) _
  have f_3 : c_2 t 1 = c t 1 := by rw [← hdc_2, aq_un (Or.inl (by omega))]
  refine aq_pf rfl (by omega) hFa (by decide) rfl rfl ?_
  show am_E _ (16, [vR a, vR t], [], aq_h m s F (aq_u c_2 a 1 (c_2 t 1))) _
  generalize hdc_4 : aq_u c_2 a 1 (c_2 t 1) = c_4
  have sc_4 := aq_smu sc_2 hdc_4 (Or.inl rfl)
  refine am_E.go (t2 := (17, [vR a, vR t], [vR t], aq_h m s F c_4)) rfl rfl ?_
  refine aq_gf (v := vR (t + 1)) rfl (by omega) hFat (by decide) rfl ?_
  show am_E _ (20, [vR a, vR t], [vR (t + 1)], aq_h m s F c_4) _
  refine am_E.go (t2 := (21, [vR a, vR t], [vI 0, vR (t + 1)], aq_h m s F c_4)) rfl rfl ?_
  refine am_E.go (t2 := (22, [vR a, vR t], [vR a, vI 0, vR (t + 1)], aq_h m s F c_4)) rfl rfl ?_
  refine aq_gf (v := vR (a + 1)) rfl (by omega) hFa (by decide) rfl ?_
  show am_E _ (25, [vR a, vR t], [vR (a + 1), vI 0, vR (t + 1)], aq_h m s F c_4) _
  refine am_E.go (t2 := (26, [vR a, vR t], [vI 0, vR (a + 1), vI 0, vR (t + 1)], aq_h m s F c_4)) rfl rfl ?_
  refine am_E.go (t2 := (27, [vR a, vR t], [vR a, vI 0, vR (a + 1), vI 0, vR (t + 1)], aq_h m s F c_4)) rfl rfl ?_
  refine aq_gf (v := vI (c_4 a 1)) rfl (by omega) hFa (by decide) rfl ?_
  show am_E _ (30, [vR a, vR t], [vI (c_4 a 1), vI 0, vR (a + 1), vI 0, vR (t + 1)], aq_h m s F c_4) _
  have f_5 : c_4 a 1 = c t 1 := by rw [← hdc_4, aq_us]; assumption
  refine aq_cpy (n := ((c_4 a 1) : Int).toNat) (sp := (0 : Int).toNat) (dp := (0 : Int).toNat) rfl (by omega) (by omega) hFnt hFn (by decide) (by omega) (by omega) (by omega) (by omega) (by omega) ?_
  show am_E _ (33, [vR a, vR t], [], aq_h m s F (aq_cp c_4 (t + 1) (0 : Int).toNat (a + 1) (0 : Int).toNat ((c_4 a 1) : Int).toNat)) _
  generalize hdc_6 : aq_cp c_4 (t + 1) (0 : Int).toNat (a + 1) (0 : Int).toNat ((c_4 a 1) : Int).toNat = c_6
  have sc_6 := aq_smc sc_4 hdc_6 (Or.inr (Or.inl rfl))
  refine am_E.go (t2 := (34, [vR a, vR t], [vR t], aq_h m s F c_6)) rfl rfl ?_
  refine aq_gf (v := vR (t + 2)) rfl (by omega) hFat (by decide) rfl ?_
  show am_E _ (37, [vR a, vR t], [vR (t + 2)], aq_h m s F c_6) _
  refine am_E.go (t2 := (38, [vR a, vR t], [vI 0, vR (t + 2)], aq_h m s F c_6)) rfl rfl ?_
  refine am_E.go (t2 := (39, [vR a, vR t], [vR a, vI 0, vR (t + 2)], aq_h m s F c_6)) rfl rfl ?_
  refine aq_gf (v := vR (a + 2)) rfl (by omega) hFa (by decide) rfl ?_
  show am_E _ (42, [vR a, vR t], [vR (a + 2), vI 0, vR (t + 2)], aq_h m s F c_6) _
  refine am_E.go (t2 := (43, [vR a, vR t], [vI 0, vR (a + 2), vI 0, vR (t + 2)], aq_h m s F c_6)) rfl rfl ?_
  refine am_E.go (t2 := (44, [vR a, vR t], [vR a, vI 0, vR (a + 2), vI 0, vR (t + 2)], aq_h m s F c_6)) rfl rfl ?_
  refine aq_gf (v := vI (c_6 a 1)) rfl (by omega) hFa (by decide) rfl ?_
  show am_E _ (47, [vR a, vR t], [vI (c_6 a 1), vI 0, vR (a + 2), vI 0, vR (t + 2)], aq_h m s F c_6) _
  have f_7 : c_6 a 1 = c t 1 := by rw [← hdc_6, aq_cpn (by omega), ← hdc_4, aq_us]; assumption
  refine aq_cpy (n := ((c_6 a 1) : Int).toNat) (sp := (0 : Int).toNat) (dp := (0 : Int).toNat) rfl (by omega) (by omega) hFpt hFp (by decide) (by omega) (by omega) (by omega) (by omega) (by omega) ?_
  show am_E _ (50, [vR a, vR t], [], aq_h m s F (aq_cp c_6 (t + 2) (0 : Int).toNat (a + 2) (0 : Int).toNat ((c_6 a 1) : Int).toNat)) _
  generalize hdc_8 : aq_cp c_6 (t + 2) (0 : Int).toNat (a + 2) (0 : Int).toNat ((c_6 a 1) : Int).toNat = c_8
  have sc_8 := aq_smc sc_6 hdc_8 (Or.inr (Or.inr (Or.inl rfl)))
  refine am_E.go (t2 := (51, [vR a, vR t], [vR t], aq_h m s F c_8)) rfl rfl ?_
  refine aq_gf (v := vR (t + 3)) rfl (by omega) hFat (by decide) rfl ?_
  show am_E _ (54, [vR a, vR t], [vR (t + 3)], aq_h m s F c_8) _
  refine am_E.go (t2 := (55, [vR a, vR t], [vI 0, vR (t + 3)], aq_h m s F c_8)) rfl rfl ?_
  refine am_E.go (t2 := (56, [vR a, vR t], [vR a, vI 0, vR (t + 3)], aq_h m s F c_8)) rfl rfl ?_
  refine aq_gf (v := vR (a + 3)) rfl (by omega) hFa (by decide) rfl ?_
  show am_E _ (59, [vR a, vR t], [vR (a + 3), vI 0, vR (t + 3)], aq_h m s F c_8) _
  refine am_E.go (t2 := (60, [vR a, vR t], [vI 0, vR (a + 3), vI 0, vR (t + 3)], aq_h m s F c_8)) rfl rfl ?_
  refine am_E.go (t2 := (61, [vR a, vR t], [vR a, vI 0, vR (a + 3), vI 0, vR (t + 3)], aq_h m s F c_8)) rfl rfl ?_
  refine aq_gf (v := vI (c_8 a 1)) rfl (by omega) hFa (by decide) rfl ?_
  show am_E _ (64, [vR a, vR t], [vI (c_8 a 1), vI 0, vR (a + 3), vI 0, vR (t + 3)], aq_h m s F c_8) _
  have f_9 : c_8 a 1 = c t 1 := by rw [← hdc_8, aq_cpn (by omega), ← hdc_6, aq_cpn (by omega), ← hdc_4, aq_us]; assumption
  refine aq_cpy (n := ((c_8 a 1) : Int).toNat) (sp := (0 : Int).toNat) (dp := (0 : Int).toNat) rfl (by omega) (by omega) hFft hFf (by decide) (by omega) (by omega) (by omega) (by omega) (by omega) ?_
  show am_E _ (67, [vR a, vR t], [], aq_h m s F (aq_cp c_8 (t + 3) (0 : Int).toNat (a + 3) (0 : Int).toNat ((c_8 a 1) : Int).toNat)) _
  generalize hdc_10 : aq_cp c_8 (t + 3) (0 : Int).toNat (a + 3) (0 : Int).toNat ((c_8 a 1) : Int).toNat = c_10
  have sc_10 := aq_smc sc_8 hdc_10 (Or.inr (Or.inr (Or.inr rfl)))
  refine am_E.ret rfl rfl ?_
  have g1 : c_10 a 1 = c t 1 := by rw [← hdc_10, aq_cpn (by omega), ← hdc_8, aq_cpn (by omega), ← hdc_6, aq_cpn (by omega), ← hdc_4, aq_us]; assumption
  have g0 : c_10 a 0 = c t 0 := by rw [← hdc_10, aq_cpn (by omega), ← hdc_8, aq_cpn (by omega), ← hdc_6, aq_cpn (by omega), ← hdc_4, aq_un (Or.inr (by omega)), ← hdc_2, aq_us]
  refine ⟨_, rfl, sc_10, rfl, g0, g1.symm, fun j h5 h6 => ?_⟩
  have h7 : j < c t 1 := h6
  have n1 : c_10 (a + 1) j = c (t + 1) j := by rw [← hdc_10, aq_cpn (by omega), ← hdc_8, aq_cpn (by omega), ← hdc_6, aq_cps h5 (by omega), ← hdc_4, aq_un (Or.inl (by omega)), ← hdc_2, aq_un (Or.inl (by omega))]
  have n2 : c_10 (a + 2) j = c (t + 2) j := by rw [← hdc_10, aq_cpn (by omega), ← hdc_8, aq_cps h5 (by omega), ← hdc_6, aq_cpn (by omega), ← hdc_4, aq_un (Or.inl (by omega)), ← hdc_2, aq_un (Or.inl (by omega))]
  have n3 : c_10 (a + 3) j = c (t + 3) j := by rw [← hdc_10, aq_cps h5 (by omega), ← hdc_8, aq_cpn (by omega), ← hdc_6, aq_cpn (by omega), ← hdc_4, aq_un (Or.inl (by omega)), ← hdc_2, aq_un (Or.inl (by omega))]
  exact ⟨n1.symm, n2.symm, n3.symm⟩

theorem wk_f {x y : Option sm_} {K v : Int} {s : sm_} (hr : rox_ x y) (hx : ∀ a, x = some a → sm_w K a) (q : (v = 0 ∧ y = none) ∨ (v = 1 ∧ ∃ t2, y = some t2 ∧ sm_w K t2 ∧ sm_e t2 s)) : (v = 0 ∧ x = none) ∨ (v = 1 ∧ ∃ t2, x = some t2 ∧ sm_w K t2 ∧ sm_e t2 s) := by
  rcases hr with ⟨h1, h2⟩ | ⟨a, b, h1, h2, h3⟩
  · rcases q with ⟨k1, k2⟩ | ⟨k1, t2, k2, k3, k4⟩
    · exact Or.inl ⟨k1, h1⟩
    · rw [h2] at k2
      exact absurd k2 (by simp)
  · rcases q with ⟨k1, k2⟩ | ⟨k1, t2, k2, k3, k4⟩
    · rw [h2] at k2
      exact absurd k2 (by simp)
    · rw [h2] at k2
      obtain rfl := Option.some.inj k2
      exact Or.inr ⟨k1, a, h1, hx a h1, sm_et h3 k4⟩

theorem qx_X4_make {m s : Nat} {F : aq_F} {c : aq_C} (hC : sb_C m F) {t u : Nat} {w : Int} (hAt : su_0 m F t) (hAu : su_0 m F u) (ht : 8 ≤ t) (hu : 8 ≤ u) (h1 : 1 ≤ c t 0) (h4 : c t 0 ≤ 4) (hWt : sm_w (bx_K (c t 0)) (su_v t c)) (hWu : sm_w (bx_K (c t 0)) (su_v u c)) : am_E ac_X4_make (0, [vR 0, vI w, vR t, vR u], [], aq_h m s F c) (aq_Z m s F (fun b => b = 4 ∨ b = 4 + 1 ∨ b = 4 + 2 ∨ b = 4 + 3) c (fun r d => ∃ v, r = some (vI v) ∧ d 4 0 = c t 0 ∧ ((v = 0 ∧ wk_o (c t 0) w (su_v t c) (su_v u c) = none) ∨ (v = 1 ∧ ∃ t2, wk_o (c t 0) w (su_v t c) (su_v u c) = some t2 ∧ sm_w (bx_K (c t 0)) t2 ∧ sm_e t2 (su_v 4 d))))) := by
  obtain ⟨hCm, hC0, hC1, hC2, hC3, ⟨hma4, hFa4, hFn4, hFp4, hFf4⟩, ⟨hmx, hFx, hFl, hFw⟩, hCs, hCb, hCh⟩ := id hC
  obtain ⟨hmat, hFat, hFnt, hFpt, hFft⟩ := hAt
  obtain ⟨hmau, hFau, hFnu, hFpu, hFfu⟩ := hAu
  refine am_E.go (t2 := (1, [vR 0, vI w, vR t, vR u], [vR 0], aq_h m s F c)) rfl rfl ?_
  refine aq_gf (v := vR 4) rfl (by omega) hC0 (by decide) rfl ?_
  show am_E _ (4, [vR 0, vI w, vR t, vR u], [vR 4], aq_h m s F c) _
  refine am_E.go (t2 := (5, [vR 0, vI w, vR t, vR u], [vR t, vR 4], aq_h m s F c)) rfl rfl ?_
  refine aq_gf (v := vI (c t 0)) rfl (by omega) hFat (by decide) rfl ?_
  show am_E _ (8, [vR 0, vI w, vR t, vR u], [vI (c t 0), vR 4], aq_h m s F c) _
  have f_1 := (aq_sm0 (c := c) (S := (fun b => b = 4 ∨ b = 4 + 1 ∨ b = 4 + 2 ∨ b = 4 + 3))) t (by omega) 0
  refine aq_callv (y := 2) (as2 := [vI (c t 0)]) (rest := []) rfl rfl (by decide) (Nat.le_of_ble_eq_true rfl) rfl rfl (Nat.le_of_ble_eq_true rfl) (by omega) hFa4 rfl (Nat.le_of_ble_eq_true rfl) (qn_X3_begin (a := 4) ⟨hma4, hFa4, hFn4, hFp4, hFf4⟩) ?_
  rintro r5 h5 ⟨c_g, rfl, s_g, rfl, hb0, hb1⟩
  show am_E _ (11, [vR 0, vI w, vR t, vR u], [], aq_h m s F c_g) _
  have E1t : su_v t c_g = su_v t c := (su_vs s_g (t := t) (by omega) (by omega) (by omega) (by omega))
  have E1u : su_v u c_g = su_v u c := (su_vs s_g (t := u) (by omega) (by omega) (by omega) (by omega))
  refine am_E.go (t2 := (12, [vR 0, vI w, vR t, vR u], [vI w], aq_h m s F c_g)) rfl rfl ?_
  refine am_E.go (t2 := (13, [vR 0, vI w, vR t, vR u], [vI 2, vI w], aq_h m s F c_g)) rfl rfl ?_
  refine ae_icmp rfl (fun (q_2 : w ≠ 2) => ?_) (fun (q_2 : w = 2) => ?_)
  · refine am_E.go (t2 := (38, [vR 0, vI w, vR t, vR u], [vR 0], aq_h m s F c_g)) rfl rfl ?_
    refine aq_gf (v := vR 4) rfl (by omega) hC0 (by decide) rfl ?_
    show am_E _ (41, [vR 0, vI w, vR t, vR u], [vR 4], aq_h m s F c_g) _
    refine am_E.go (t2 := (42, [vR 0, vI w, vR t, vR u], [vR t, vR 4], aq_h m s F c_g)) rfl rfl ?_
    refine am_E.go (t2 := (43, [vR 0, vI w, vR t, vR u], [vI 1, vR t, vR 4], aq_h m s F c_g)) rfl rfl ?_
    refine aq_callv (y := 3) (as2 := [vR t, vI 1]) (rest := []) rfl rfl (by decide) (Nat.le_of_ble_eq_true rfl) rfl rfl (Nat.le_of_ble_eq_true rfl) (by omega) hFa4 rfl (Nat.le_of_ble_eq_true rfl) (qx_joinAll (a := 4) (k := bx_K (c t 0)) ⟨hma4, hFa4, hFn4, hFp4, hFf4⟩ (t := t) ⟨hmat, hFat, hFnt, hFpt, hFft⟩ (by rw [E1t]; exact hWt) (by omega) (Or.inl rfl) (tg := su_v 4 c_g) (sm_w0 hb1) sm_er) ?_
    rintro r5 h5 ⟨c_a, rfl, s_a, v_a, rfl, e_a, q_a⟩
    show am_E _ (46, [vR 0, vI w, vR t, vR u], [vI v_a], aq_h m s F c_a) _
    rw [E1t] at q_a
    obtain ⟨w2, i1, i2⟩ := sj_id hWt 41 0 (su_v 4 c_g) (by omega) hWt.1 (by have := hWt.2.1; omega) hb1 (fun j j0 j1 => by exfalso; omega)
    obtain ⟨hva, hww, hee⟩ : v_a = 1 ∧ sm_w (bx_K (c t 0)) w2 ∧ sm_e w2 (su_v 4 c_a) := by
      rcases q_a with ⟨k1, k2⟩ | ⟨k1, t2, k2, k3, k4⟩
      · rw [i1] at k2
        exact absurd k2 (by simp)
      · rw [i1] at k2
        obtain rfl := Option.some.inj k2
        exact ⟨k1, k3, k4⟩
    have E2u : su_v u c_a = su_v u c := ((su_vs s_a (t := u) (by omega) (by omega) (by omega) (by omega))).trans E1u
    refine ae_if0 rfl (fun (q_3 : v_a = 0) => ?_) (fun (q_3 : v_a ≠ 0) => ?_)
    · refine am_E.go (t2 := (74, [vR 0, vI w, vR t, vR u], [vI 0], aq_h m s F c_a)) rfl rfl ?_
      refine am_E.ret rfl rfl ?_
      exfalso
      omega
    · refine am_E.go (t2 := (50, [vR 0, vI w, vR t, vR u], [vR 0], aq_h m s F c_a)) rfl rfl ?_
      refine aq_gf (v := vR 4) rfl (by omega) hC0 (by decide) rfl ?_
      show am_E _ (53, [vR 0, vI w, vR t, vR u], [vR 4], aq_h m s F c_a) _
      refine am_E.go (t2 := (54, [vR 0, vI w, vR t, vR u], [vR u, vR 4], aq_h m s F c_a)) rfl rfl ?_
      refine am_E.go (t2 := (55, [vR 0, vI w, vR t, vR u], [vI w, vR u, vR 4], aq_h m s F c_a)) rfl rfl ?_
      refine ae_if0 rfl (fun (q_4 : w ≠ 0) => ?_) (fun (q_4 : w = 0) => ?_)
      · refine am_E.go (t2 := (63, [vR 0, vI w, vR t, vR u], [vI (-1), vR u, vR 4], aq_h m s F c_a)) rfl rfl ?_
        refine aq_callv (y := 3) (as2 := [vR u, vI (-1)]) (rest := []) rfl rfl (by decide) (Nat.le_of_ble_eq_true rfl) rfl rfl (Nat.le_of_ble_eq_true rfl) (by omega) hFa4 rfl (Nat.le_of_ble_eq_true rfl) (qx_joinAll (a := 4) (k := bx_K (c t 0)) ⟨hma4, hFa4, hFn4, hFp4, hFf4⟩ (t := u) ⟨hmau, hFau, hFnu, hFpu, hFfu⟩ (by rw [E2u]; exact hWu) (by omega) (Or.inr rfl) (tg := w2) hww hee) ?_
        rintro r5 h5 ⟨c_b, rfl, s_b, v_b, rfl, e_b, q_b⟩
        show am_E _ (66, [vR 0, vI w, vR t, vR u], [vI v_b], aq_h m s F c_b) _
        rw [E2u] at q_b
        have sc := sj_c (g := (-1)) hWu sm_er (Or.inr rfl) 41 0 (su_v t c) w2 (by omega) hWt i2
        have ew : wk_o (c t 0) w (su_v t c) (su_v u c) = sj_ (su_v u c) (-1) 41 0 (su_v t c) := by unfold wk_o; rw [if_neg (by omega)]; first | rw [if_pos (by omega)] | rw [if_neg (by omega)]
        rw [← ew] at sc
        have qf := wk_f sc.1 sc.2 q_b
        refine ae_if0 rfl (fun (q_5 : v_b = 0) => ?_) (fun (q_5 : v_b ≠ 0) => ?_)
        · refine am_E.go (t2 := (74, [vR 0, vI w, vR t, vR u], [vI 0], aq_h m s F c_b)) rfl rfl ?_
          refine am_E.ret rfl rfl ?_
          have ev : v_b = 0 := by rcases qf with k | k <;> omega
          rw [ev] at qf
          exact ⟨_, rfl, (aq_smt (aq_smt s_g s_a) s_b), 0, rfl, by rw [e_b, e_a]; exact hb0, qf⟩
        · refine am_E.go (t2 := (70, [vR 0, vI w, vR t, vR u], [vI 1], aq_h m s F c_b)) rfl rfl ?_
          refine am_E.go (t2 := (74, [vR 0, vI w, vR t, vR u], [vI 1], aq_h m s F c_b)) rfl rfl ?_
          refine am_E.ret rfl rfl ?_
          have ev : v_b = 1 := by rcases qf with k | k <;> omega
          rw [ev] at qf
          exact ⟨_, rfl, (aq_smt (aq_smt s_g s_a) s_b), 1, rfl, by rw [e_b, e_a]; exact hb0, qf⟩
      · refine am_E.go (t2 := (59, [vR 0, vI w, vR t, vR u], [vI 1, vR u, vR 4], aq_h m s F c_a)) rfl rfl ?_
        refine am_E.go (t2 := (63, [vR 0, vI w, vR t, vR u], [vI 1, vR u, vR 4], aq_h m s F c_a)) rfl rfl ?_
        refine aq_callv (y := 3) (as2 := [vR u, vI 1]) (rest := []) rfl rfl (by decide) (Nat.le_of_ble_eq_true rfl) rfl rfl (Nat.le_of_ble_eq_true rfl) (by omega) hFa4 rfl (Nat.le_of_ble_eq_true rfl) (qx_joinAll (a := 4) (k := bx_K (c t 0)) ⟨hma4, hFa4, hFn4, hFp4, hFf4⟩ (t := u) ⟨hmau, hFau, hFnu, hFpu, hFfu⟩ (by rw [E2u]; exact hWu) (by omega) (Or.inl rfl) (tg := w2) hww hee) ?_
        rintro r5 h5 ⟨c_b, rfl, s_b, v_b, rfl, e_b, q_b⟩
        show am_E _ (66, [vR 0, vI w, vR t, vR u], [vI v_b], aq_h m s F c_b) _
        rw [E2u] at q_b
        have sc := sj_c (g := 1) hWu sm_er (Or.inl rfl) 41 0 (su_v t c) w2 (by omega) hWt i2
        have ew : wk_o (c t 0) w (su_v t c) (su_v u c) = sj_ (su_v u c) 1 41 0 (su_v t c) := by unfold wk_o; rw [if_neg (by omega)]; first | rw [if_pos (by omega)] | rw [if_neg (by omega)]
        rw [← ew] at sc
        have qf := wk_f sc.1 sc.2 q_b
        refine ae_if0 rfl (fun (q_6 : v_b = 0) => ?_) (fun (q_6 : v_b ≠ 0) => ?_)
        · refine am_E.go (t2 := (74, [vR 0, vI w, vR t, vR u], [vI 0], aq_h m s F c_b)) rfl rfl ?_
          refine am_E.ret rfl rfl ?_
          have ev : v_b = 0 := by rcases qf with k | k <;> omega
          rw [ev] at qf
          exact ⟨_, rfl, (aq_smt (aq_smt s_g s_a) s_b), 0, rfl, by rw [e_b, e_a]; exact hb0, qf⟩
        · refine am_E.go (t2 := (70, [vR 0, vI w, vR t, vR u], [vI 1], aq_h m s F c_b)) rfl rfl ?_
          refine am_E.go (t2 := (74, [vR 0, vI w, vR t, vR u], [vI 1], aq_h m s F c_b)) rfl rfl ?_
          refine am_E.ret rfl rfl ?_
          have ev : v_b = 1 := by rcases qf with k | k <;> omega
          rw [ev] at qf
          exact ⟨_, rfl, (aq_smt (aq_smt s_g s_a) s_b), 1, rfl, by rw [e_b, e_a]; exact hb0, qf⟩
  · refine am_E.go (t2 := (17, [vR 0, vI w, vR t, vR u], [vR 0], aq_h m s F c_g)) rfl rfl ?_
    refine aq_gf (v := vR 4) rfl (by omega) hC0 (by decide) rfl ?_
    show am_E _ (20, [vR 0, vI w, vR t, vR u], [vR 4], aq_h m s F c_g) _
    refine am_E.go (t2 := (21, [vR 0, vI w, vR t, vR u], [vR t, vR 4], aq_h m s F c_g)) rfl rfl ?_
    refine am_E.go (t2 := (22, [vR 0, vI w, vR t, vR u], [vR u, vR t, vR 4], aq_h m s F c_g)) rfl rfl ?_
    refine am_E.go (t2 := (23, [vR 0, vI w, vR t, vR u], [vR 0, vR u, vR t, vR 4], aq_h m s F c_g)) rfl rfl ?_
    refine aq_gf (v := vR 1) rfl (by omega) hC0 (by decide) rfl ?_
    show am_E _ (26, [vR 0, vI w, vR t, vR u], [vR 1, vR u, vR t, vR 4], aq_h m s F c_g) _
    refine am_E.go (t2 := (27, [vR 0, vI w, vR t, vR u], [vR t, vR 1, vR u, vR t, vR 4], aq_h m s F c_g)) rfl rfl ?_
    refine aq_gf (v := vI (c_g t 0)) rfl (by omega) hFat (by decide) rfl ?_
    show am_E _ (30, [vR 0, vI w, vR t, vR u], [vI (c_g t 0), vR 1, vR u, vR t, vR 4], aq_h m s F c_g) _
    have f_7 := s_g t (by omega) 0
    refine am_E.go (t2 := (31, [vR 0, vI w, vR t, vR u], [vI 1, vI (c_g t 0), vR 1, vR u, vR t, vR 4], aq_h m s F c_g)) rfl rfl ?_
    refine ae_sub rfl (am_ri (by omega) (by omega)) ?_
    show am_E _ (32, [vR 0, vI w, vR t, vR u], [vI ((c_g t 0) - 1), vR 1, vR u, vR t, vR 4], aq_h m s F c_g) _
    obtain ⟨o, n, K, e_o, e_n, e_K, e_j, e_k, tP, tG, tN, tR, tL, ⟨hm, hn1, hn4, hK, hFo, hFd, hFs⟩, ⟨hPg, hPr, hPt⟩, ⟨hL, hGg, hGr, hNg, hNr, hLt, hGt, hNt⟩, ⟨hR, hRt⟩, hst, hex⟩ := sb_box hC (i := ((c_g t 0) - 1)) (by omega) (by omega)
    have hb := sb_bnd (((c_g t 0) - 1)).toNat (by omega)
    rw [e_o, e_k] at hb
    have hbK : (K : Int) = bx_K (c t 0) := by rw [e_K]; congr 1; omega
    refine aq_al (ok := fun k => decide (3 ≤ k) && decide (k < 7)) (v := vR o) rfl rfl (by omega) hC1 rfl (by omega) (by omega) (aq_gi2 (by omega) e_o) ?_
    show am_E _ (33, [vR 0, vI w, vR t, vR u], [vR o, vR u, vR t, vR 4], aq_h m s F c_g) _
    refine aq_callv (y := 4) (as2 := [vR t, vR u, vR o]) (rest := []) rfl rfl (by decide) (Nat.le_of_ble_eq_true rfl) rfl rfl (Nat.le_of_ble_eq_true rfl) (by omega) hFa4 rfl (Nat.le_of_ble_eq_true rfl) (qx_joinProducts (a := 4) (k := bx_K (c t 0)) ⟨hma4, hFa4, hFn4, hFp4, hFf4⟩ (t := t) ⟨hmat, hFat, hFnt, hFpt, hFft⟩ (by rw [E1t]; exact hWt) (by omega) (u := u) ⟨hmau, hFau, hFnu, hFpu, hFfu⟩ (by rw [E1u]; exact hWu) (by omega) ⟨hm, hn1, hn4, hK, hFo, hFd, hFs⟩ ⟨hL, hGg, hGr, hNg, hNr, hLt, hGt, hNt⟩ hex hbK.symm (by rw [hbK]; congr 1; omega) (tg := su_v 4 c_g) (sm_w0 hb1) sm_er) ?_
    rintro r5 h5 ⟨c_a, rfl, s_a, v_a, rfl, e_a, q_a⟩
    show am_E _ (36, [vR 0, vI w, vR t, vR u], [vI v_a], aq_h m s F c_a) _
    have e_nn : (n : Int) = c t 0 := by omega
    rw [E1t, E1u, e_nn] at q_a
    have sc := sp_oc h1 h4 hWt sm_er hWu sm_er 41 0 sm_0 (su_v 4 c_g) (by omega) (sm_w0 rfl) (sm_e0 rfl hb1)
    have ew : wk_o (c t 0) w (su_v t c) (su_v u c) = sp_o (c t 0) (su_v t c) (su_v u c) 41 0 sm_0 := by unfold wk_o; rw [if_pos (by omega)]
    rw [← ew] at sc
    have qf := wk_f sc.1 sc.2 q_a
    refine ae_retb rfl (by omega) ?_
    exact ⟨_, rfl, (aq_smt s_g s_a), v_a, rfl, by rw [e_a]; exact hb0, qf⟩

theorem qx_X4_work {m s : Nat} {F : aq_F} {c : aq_C} (hC : sb_C m F) (hI : cl_I c) {sa w sb sd : Int} {aa tt uu : Nat} (haa : aa = 495 + 4 * sa.toNat) (htt : tt = 495 + 4 * sb.toNat) (huu : uu = 495 + 4 * sd.toNat) (hWs : ∀ x : Int, 0 ≤ x → x < 8 → sm_w (bx_K (c (495 + 4 * x.toNat) 0)) (su_v (495 + 4 * x.toNat) c)) : am_E ac_X4_work (0, [vR 0, vI sa, vI w, vI sb, vI sd], [], aq_h m s F c) (aq_Z m s F (fun a => a < 527) c (fun r d => r = some (vI (wk_a (c tt 0) (c uu 0) (su_v tt c) (su_v uu c) sa w sb sd)) ∧ cl_I d ∧ aq_sm (fun x => (x = 4 ∨ x = 4 + 1 ∨ x = 4 + 2 ∨ x = 4 + 3) ∨ x = aa ∨ x = aa + 1 ∨ x = aa + 2 ∨ x = aa + 3) c d ∧ (∀ v, (wk_k sa w sb sd ∧ c tt 0 = c uu 0) → wk_o (c tt 0) w (su_v tt c) (su_v uu c) = some v → d aa 0 = c tt 0 ∧ sm_e v (su_v aa d)) ∧ (((wk_k sa w sb sd ∧ c tt 0 = c uu 0) → wk_o (c tt 0) w (su_v tt c) (su_v uu c) = none) → aq_sm (fun b => b = 4 ∨ b = 4 + 1 ∨ b = 4 + 2 ∨ b = 4 + 3) c d))) := by
  obtain ⟨hCm, hC0, hC1, hC2, hC3, ⟨hma4, hFa4, hFn4, hFp4, hFf4⟩, ⟨hmx, hFx, hFl, hFw⟩, hCs, hCb, hCh⟩ := id hC
  refine am_E.go (t2 := (1, [vR 0, vI sa, vI w, vI sb, vI sd], [vI sa], aq_h m s F c)) rfl rfl ?_
  refine am_E.call rfl rfl rfl (Nat.le_of_ble_eq_true rfl) (qn_X4_isSum) ?_
  rintro r5 h5 ⟨rfl, v_1, rfl, hv_1⟩
  show am_E _ (4, [vR 0, vI sa, vI w, vI sb, vI sd], [vI v_1], aq_h m s F c) _
  refine ae_if0 rfl (fun (q_2 : v_1 = 0) => ?_) (fun (q_2 : v_1 ≠ 0) => ?_)
  · refine am_E.go (t2 := (32, [vR 0, vI sa, vI w, vI sb, vI sd], [vI (-1)], aq_h m s F c)) rfl rfl ?_
    refine am_E.ret rfl rfl ?_
    refine ⟨_, rfl, (aq_sm0 (S := fun a => a < 527)), ?_, hI, fun _ _ _ => rfl, fun v q => absurd q.1 (by unfold wk_k; omega), fun _ _ _ _ => rfl⟩
    unfold wk_a
    rw [if_neg (by unfold wk_k; omega)]
  · refine am_E.go (t2 := (8, [vR 0, vI sa, vI w, vI sb, vI sd], [vI w], aq_h m s F c)) rfl rfl ?_
    refine ae_if0 rfl (fun (q_3 : w < 0) => ?_) (fun (q_3 : 0 ≤ w) => ?_)
    · refine am_E.go (t2 := (32, [vR 0, vI sa, vI w, vI sb, vI sd], [vI (-1)], aq_h m s F c)) rfl rfl ?_
      refine am_E.ret rfl rfl ?_
      refine ⟨_, rfl, (aq_sm0 (S := fun a => a < 527)), ?_, hI, fun _ _ _ => rfl, fun v q => absurd q.1 (by unfold wk_k; omega), fun _ _ _ _ => rfl⟩
      unfold wk_a
      rw [if_neg (by unfold wk_k; omega)]
    · refine am_E.go (t2 := (12, [vR 0, vI sa, vI w, vI sb, vI sd], [vI w], aq_h m s F c)) rfl rfl ?_
      refine am_E.go (t2 := (13, [vR 0, vI sa, vI w, vI sb, vI sd], [vI 2, vI w], aq_h m s F c)) rfl rfl ?_
      refine ae_icmp rfl (fun (q_4 : 2 < w) => ?_) (fun (q_4 : w ≤ 2) => ?_)
      · refine am_E.go (t2 := (32, [vR 0, vI sa, vI w, vI sb, vI sd], [vI (-1)], aq_h m s F c)) rfl rfl ?_
        refine am_E.ret rfl rfl ?_
        refine ⟨_, rfl, (aq_sm0 (S := fun a => a < 527)), ?_, hI, fun _ _ _ => rfl, fun v q => absurd q.1 (by unfold wk_k; omega), fun _ _ _ _ => rfl⟩
        unfold wk_a
        rw [if_neg (by unfold wk_k; omega)]
      · refine am_E.go (t2 := (17, [vR 0, vI sa, vI w, vI sb, vI sd], [vI sb], aq_h m s F c)) rfl rfl ?_
        refine am_E.call rfl rfl rfl (Nat.le_of_ble_eq_true rfl) (qn_X4_isSum) ?_
        rintro r5 h5 ⟨rfl, v_5, rfl, hv_5⟩
        show am_E _ (20, [vR 0, vI sa, vI w, vI sb, vI sd], [vI v_5], aq_h m s F c) _
        refine ae_if0 rfl (fun (q_6 : v_5 = 0) => ?_) (fun (q_6 : v_5 ≠ 0) => ?_)
        · refine am_E.go (t2 := (32, [vR 0, vI sa, vI w, vI sb, vI sd], [vI (-1)], aq_h m s F c)) rfl rfl ?_
          refine am_E.ret rfl rfl ?_
          refine ⟨_, rfl, (aq_sm0 (S := fun a => a < 527)), ?_, hI, fun _ _ _ => rfl, fun v q => absurd q.1 (by unfold wk_k; omega), fun _ _ _ _ => rfl⟩
          unfold wk_a
          rw [if_neg (by unfold wk_k; omega)]
        · refine am_E.go (t2 := (25, [vR 0, vI sa, vI w, vI sb, vI sd], [vI sd], aq_h m s F c)) rfl rfl ?_
          refine am_E.call rfl rfl rfl (Nat.le_of_ble_eq_true rfl) (qn_X4_isSum) ?_
          rintro r5 h5 ⟨rfl, v_7, rfl, hv_7⟩
          show am_E _ (28, [vR 0, vI sa, vI w, vI sb, vI sd], [vI v_7], aq_h m s F c) _
          refine ae_if0 rfl (fun (q_8 : v_7 ≠ 0) => ?_) (fun (q_8 : v_7 = 0) => ?_)
          · refine am_E.go (t2 := (34, [vR 0, vI sa, vI w, vI sb, vI sd], [vR 0], aq_h m s F c)) rfl rfl ?_
            refine aq_gf (v := vR 3) rfl (by omega) hC0 (by decide) rfl ?_
            show am_E _ (37, [vR 0, vI sa, vI w, vI sb, vI sd], [vR 3], aq_h m s F c) _
            refine am_E.go (t2 := (38, [vR 0, vI sa, vI w, vI sb, vI sd], [vI sb, vR 3], aq_h m s F c)) rfl rfl ?_
            obtain ⟨t, e_t⟩ : ∃ x, x = 495 + 4 * (sb).toNat := ⟨_, rfl⟩
            obtain ⟨hmat, hFat, hFnt, hFpt, hFft⟩ : su_0 m F t := by rw [e_t]; exact hCs _ (by omega)
            obtain ⟨hu0t, hu4t, hkt⟩ : sb_u t c := by rw [e_t]; exact hI.2.2 _ (by omega)
            have hk1t := hkt.1
            have hk2t := hkt.2.1
            have hWt : sm_w (bx_K (c t 0)) (su_v t c) := by rw [e_t]; exact hWs sb (by omega) (by omega)
            refine aq_al (ok := fun k => decide (3 ≤ k) && decide (k < 7)) (v := vR t) rfl rfl (by omega) hC3 rfl (by omega) (by omega) (aq_gi2 (by omega) e_t.symm) ?_
            show am_E _ (39, [vR 0, vI sa, vI w, vI sb, vI sd], [vR t], aq_h m s F c) _
            refine aq_gf (v := vI (c t 0)) rfl (by omega) hFat (by decide) rfl ?_
            show am_E _ (42, [vR 0, vI sa, vI w, vI sb, vI sd], [vI (c t 0)], aq_h m s F c) _
            refine am_E.go (t2 := (43, [vR 0, vI sa, vI w, vI sb, vI sd], [vR 0, vI (c t 0)], aq_h m s F c)) rfl rfl ?_
            refine aq_gf (v := vR 3) rfl (by omega) hC0 (by decide) rfl ?_
            show am_E _ (46, [vR 0, vI sa, vI w, vI sb, vI sd], [vR 3, vI (c t 0)], aq_h m s F c) _
            refine am_E.go (t2 := (48, [vR 0, vI sa, vI w, vI sb, vI sd], [vI sd, vR 3, vI (c t 0)], aq_h m s F c)) rfl rfl ?_
            obtain ⟨u, e_u⟩ : ∃ x, x = 495 + 4 * (sd).toNat := ⟨_, rfl⟩
            obtain ⟨hmau, hFau, hFnu, hFpu, hFfu⟩ : su_0 m F u := by rw [e_u]; exact hCs _ (by omega)
            obtain ⟨hu0u, hu4u, hku⟩ : sb_u u c := by rw [e_u]; exact hI.2.2 _ (by omega)
            have hk1u := hku.1
            have hk2u := hku.2.1
            have hWu : sm_w (bx_K (c u 0)) (su_v u c) := by rw [e_u]; exact hWs sd (by omega) (by omega)
            refine aq_al (ok := fun k => decide (3 ≤ k) && decide (k < 7)) (v := vR u) rfl rfl (by omega) hC3 rfl (by omega) (by omega) (aq_gi2 (by omega) e_u.symm) ?_
            show am_E _ (49, [vR 0, vI sa, vI w, vI sb, vI sd], [vR u, vI (c t 0)], aq_h m s F c) _
            refine aq_gf (v := vI (c u 0)) rfl (by omega) hFau (by decide) rfl ?_
            show am_E _ (52, [vR 0, vI sa, vI w, vI sb, vI sd], [vI (c u 0), vI (c t 0)], aq_h m s F c) _
            refine ae_icmp rfl (fun (q_9 : (c t 0) = (c u 0)) => ?_) (fun (q_9 : (c t 0) ≠ (c u 0)) => ?_)
            · have h_eq : c t 0 = c u 0 := q_9
              refine am_E.go (t2 := (59, [vR 0, vI sa, vI w, vI sb, vI sd], [vR 0], aq_h m s F c)) rfl rfl ?_
              refine am_E.go (t2 := (60, [vR 0, vI sa, vI w, vI sb, vI sd], [vI w, vR 0], aq_h m s F c)) rfl rfl ?_
              refine am_E.go (t2 := (61, [vR 0, vI sa, vI w, vI sb, vI sd], [vR 0, vI w, vR 0], aq_h m s F c)) rfl rfl ?_
              refine aq_gf (v := vR 3) rfl (by omega) hC0 (by decide) rfl ?_
              show am_E _ (64, [vR 0, vI sa, vI w, vI sb, vI sd], [vR 3, vI w, vR 0], aq_h m s F c) _
              refine am_E.go (t2 := (65, [vR 0, vI sa, vI w, vI sb, vI sd], [vI sb, vR 3, vI w, vR 0], aq_h m s F c)) rfl rfl ?_
              refine aq_al (ok := fun k => decide (3 ≤ k) && decide (k < 7)) (v := vR t) rfl rfl (by omega) hC3 rfl (by omega) (by omega) (aq_gi2 (by omega) e_t.symm) ?_
              show am_E _ (66, [vR 0, vI sa, vI w, vI sb, vI sd], [vR t, vI w, vR 0], aq_h m s F c) _
              refine am_E.go (t2 := (67, [vR 0, vI sa, vI w, vI sb, vI sd], [vR 0, vR t, vI w, vR 0], aq_h m s F c)) rfl rfl ?_
              refine aq_gf (v := vR 3) rfl (by omega) hC0 (by decide) rfl ?_
              show am_E _ (70, [vR 0, vI sa, vI w, vI sb, vI sd], [vR 3, vR t, vI w, vR 0], aq_h m s F c) _
              refine am_E.go (t2 := (72, [vR 0, vI sa, vI w, vI sb, vI sd], [vI sd, vR 3, vR t, vI w, vR 0], aq_h m s F c)) rfl rfl ?_
              refine aq_al (ok := fun k => decide (3 ≤ k) && decide (k < 7)) (v := vR u) rfl rfl (by omega) hC3 rfl (by omega) (by omega) (aq_gi2 (by omega) e_u.symm) ?_
              show am_E _ (73, [vR 0, vI sa, vI w, vI sb, vI sd], [vR u, vR t, vI w, vR 0], aq_h m s F c) _
              refine aq_callv (y := 4) (as2 := [vI w, vR t, vR u]) (rest := []) rfl rfl (by decide) (Nat.le_of_ble_eq_true rfl) rfl rfl (Nat.le_of_ble_eq_true rfl) (by omega) hC0 rfl (Nat.le_of_ble_eq_true rfl) (qx_X4_make hC ⟨hmat, hFat, hFnt, hFpt, hFft⟩ ⟨hmau, hFau, hFnu, hFpu, hFfu⟩ (by omega) (by omega) (by omega) (by omega) hWt (by rw [h_eq]; exact hWu)) ?_
              rintro r5 h5 ⟨c_b, rfl, s_b, v_b, rfl, e_b, q_b⟩
              show am_E _ (76, [vR 0, vI sa, vI w, vI sb, vI sd], [vI v_b], aq_h m s F c_b) _
              refine ae_if0 rfl (fun (q_10 : v_b ≠ 0) => ?_) (fun (q_10 : v_b = 0) => ?_)
              · have z9 : 0 ≤ c_b 4 1 ∧ c_b 4 1 ≤ 40 := by
                  rcases q_b with ⟨k1, k2⟩ | ⟨k1, t2, k2, k3, k4⟩
                  · exfalso; omega
                  · have e5 : t2.1 = c_b 4 1 := k4.1
                    have := k3.1
                    have := k3.2.1
                    omega
                refine am_E.go (t2 := (83, [vR 0, vI sa, vI w, vI sb, vI sd], [vR 0], aq_h m s F c_b)) rfl rfl ?_
                refine aq_gf (v := vR 3) rfl (by omega) hC0 (by decide) rfl ?_
                show am_E _ (86, [vR 0, vI sa, vI w, vI sb, vI sd], [vR 3], aq_h m s F c_b) _
                refine am_E.go (t2 := (87, [vR 0, vI sa, vI w, vI sb, vI sd], [vI sa, vR 3], aq_h m s F c_b)) rfl rfl ?_
                obtain ⟨a, e_a⟩ : ∃ x, x = 495 + 4 * (sa).toNat := ⟨_, rfl⟩
                obtain ⟨hmaa, hFaa, hFna, hFpa, hFfa⟩ : su_0 m F a := by rw [e_a]; exact hCs _ (by omega)
                obtain ⟨hu0a, hu4a, hka⟩ : sb_u a c := by rw [e_a]; exact hI.2.2 _ (by omega)
                have hk1a := hka.1
                have hk2a := hka.2.1
                have hWa : sm_w (bx_K (c a 0)) (su_v a c) := by rw [e_a]; exact hWs sa (by omega) (by omega)
                refine aq_al (ok := fun k => decide (3 ≤ k) && decide (k < 7)) (v := vR a) rfl rfl (by omega) hC3 rfl (by omega) (by omega) (aq_gi2 (by omega) e_a.symm) ?_
                show am_E _ (88, [vR 0, vI sa, vI w, vI sb, vI sd], [vR a], aq_h m s F c_b) _
                refine am_E.go (t2 := (89, [vR 0, vI sa, vI w, vI sb, vI sd], [vR 0, vR a], aq_h m s F c_b)) rfl rfl ?_
                refine aq_gf (v := vR 4) rfl (by omega) hC0 (by decide) rfl ?_
                show am_E _ (92, [vR 0, vI sa, vI w, vI sb, vI sd], [vR 4, vR a], aq_h m s F c_b) _
                refine aq_callv (y := 2) (as2 := [vR 4]) (rest := []) rfl rfl (by decide) (Nat.le_of_ble_eq_true rfl) rfl rfl (Nat.le_of_ble_eq_true rfl) (by omega) hFaa rfl (Nat.le_of_ble_eq_true rfl) (qx_take (a := a) ⟨hmaa, hFaa, hFna, hFpa, hFfa⟩ (t := 4) ⟨hma4, hFa4, hFn4, hFp4, hFf4⟩ (by omega) (by omega) (by omega)) ?_
                rintro r5 h5 ⟨c_k, rfl, s_k, rfl, e_k, x_k⟩
                show am_E _ (95, [vR 0, vI sa, vI w, vI sb, vI sd], [], aq_h m s F c_k) _
                refine am_E.go (t2 := (96, [vR 0, vI sa, vI w, vI sb, vI sd], [vR 0], aq_h m s F c_k)) rfl rfl ?_
                refine aq_gf (v := vR 4) rfl (by omega) hC0 (by decide) rfl ?_
                show am_E _ (99, [vR 0, vI sa, vI w, vI sb, vI sd], [vR 4], aq_h m s F c_k) _
                refine aq_gf (v := vI (c_k 4 1)) rfl (by omega) hFa4 (by decide) rfl ?_
                show am_E _ (102, [vR 0, vI sa, vI w, vI sb, vI sd], [vI (c_k 4 1)], aq_h m s F c_k) _
                refine am_E.ret rfl rfl ?_
                have e9 : tt = t := by rw [htt, e_t]
                have e8 : uu = u := by rw [huu, e_u]
                rw [e9, e8]
                have ewa : wk_a (c t 0) (c u 0) (su_v t c) (su_v u c) sa w sb sd = wk_z (wk_o (c t 0) w (su_v t c) (su_v u c)) := by unfold wk_a; rw [if_pos (by unfold wk_k; omega), if_pos h_eq]
                have e7 : aa = a := by rw [haa, e_a]
                rw [e7]
                obtain ⟨t2, k2, k3, k4⟩ : ∃ t2, wk_o (c t 0) w (su_v t c) (su_v u c) = some t2 ∧ sm_w (bx_K (c t 0)) t2 ∧ sm_e t2 (su_v 4 c_b) := by
                  rcases q_b with ⟨k1, k2⟩ | ⟨k1, k2⟩
                  · exfalso; omega
                  · exact k2
                have z4 : (c_k 4 1) = t2.1 := by rw [s_k 4 (by omega) 1]; exact k4.1.symm
                have hks : su_k a (bx_K (c t 0)) c_k := sm_k k3 (sm_et k4 x_k)
                refine ⟨_, rfl, (aq_smt (aq_smt (aq_sm0 (S := fun a => a < 527)) (aq_smi s_b (fun b h => by omega))) (aq_smi s_k (fun b h => by omega))), by rw [ewa, k2, z4]; rfl, cl_u (cl_m hI s_b) (j := sa.toNat) (by omega) (by rw [← e_a]; exact s_k) (by rw [← e_a]; exact ⟨by omega, by omega, by rw [e_k, e_b]; exact hks⟩), aq_smt (aq_smi s_b (fun x h => Or.inl h)) (aq_smi s_k (fun x h => Or.inr h)), fun v q q2 => ?_, fun q => ?_⟩
                · rw [k2] at q2
                  obtain rfl := Option.some.inj q2
                  exact ⟨by rw [e_k, e_b], sm_et k4 x_k⟩
                · have q9 := q ⟨by unfold wk_k; omega, h_eq⟩
                  rw [k2] at q9
                  exact absurd q9 (by simp)
              · refine am_E.go (t2 := (81, [vR 0, vI sa, vI w, vI sb, vI sd], [vI (-5)], aq_h m s F c_b)) rfl rfl ?_
                refine am_E.ret rfl rfl ?_
                have e9 : tt = t := by rw [htt, e_t]
                have e8 : uu = u := by rw [huu, e_u]
                rw [e9, e8]
                have ewa : wk_a (c t 0) (c u 0) (su_v t c) (su_v u c) sa w sb sd = wk_z (wk_o (c t 0) w (su_v t c) (su_v u c)) := by unfold wk_a; rw [if_pos (by unfold wk_k; omega), if_pos h_eq]
                have k2 : wk_o (c t 0) w (su_v t c) (su_v u c) = none := by
                  rcases q_b with ⟨k1, k2⟩ | ⟨k1, k2⟩
                  · exact k2
                  · exfalso; omega
                refine ⟨_, rfl, (aq_smt (aq_sm0 (S := fun a => a < 527)) (aq_smi s_b (fun b h => by omega))), by rw [ewa, k2]; rfl, cl_m hI s_b, aq_smi s_b (fun x h => Or.inl h), fun v q q2 => ?_, fun _ => s_b⟩
                rw [k2] at q2
                exact absurd q2 (by simp)
            · refine am_E.go (t2 := (57, [vR 0, vI sa, vI w, vI sb, vI sd], [vI (-2)], aq_h m s F c)) rfl rfl ?_
              refine am_E.ret rfl rfl ?_
              have e9 : tt = t := by rw [htt, e_t]
              have e8 : uu = u := by rw [huu, e_u]
              rw [e9, e8]
              refine ⟨_, rfl, (aq_sm0 (S := fun a => a < 527)), ?_, hI, fun _ _ _ => rfl, fun v q => absurd q.2 (by omega), fun _ _ _ _ => rfl⟩
              unfold wk_a
              rw [if_pos (by unfold wk_k; omega), if_neg (by omega)]
          · refine am_E.go (t2 := (32, [vR 0, vI sa, vI w, vI sb, vI sd], [vI (-1)], aq_h m s F c)) rfl rfl ?_
            refine am_E.ret rfl rfl ?_
            refine ⟨_, rfl, (aq_sm0 (S := fun a => a < 527)), ?_, hI, fun _ _ _ => rfl, fun v q => absurd q.1 (by unfold wk_k; omega), fun _ _ _ _ => rfl⟩
            unfold wk_a
            rw [if_neg (by unfold wk_k; omega)]

theorem qx_comes_h {m s : Nat} {F : aq_F} {c : aq_C} {y : Nat} (hO : mo_0 m F y) {b p f : Int} (hf0 : f ≠ 0) (hp : 20 < p) : am_E ac_X5_comes (0, [vR y, vI b, vI p, vL f, vU, vU, vU], [], aq_h m s F c) (aq_P m s F c (fun r => r = some (vI 0))) := by
  obtain ⟨hm, hFo, hG5, hG6, hG7, hG8, hG9, hG10, hG11, hG12, hG13, hG14, hG15, hG16, hG17, hG18, hG19, hG20, hG21, hG22, hG23⟩ := hO
  refine am_E.go (t2 := (1, [vR y, vI b, vI p, vL f, vU, vU, vU], [vL f], aq_h m s F c)) rfl rfl ?_
  refine am_E.go (t2 := (2, [vR y, vI b, vI p, vL f, vU, vU, vU], [vL 0, vL f], aq_h m s F c)) rfl rfl ?_
  have ez_1 := am_lcf f 0
  refine am_E.go (t2 := (3, [vR y, vI b, vI p, vL f, vU, vU, vU], [vI (if f < 0 then -1 else if f = 0 then 0 else 1)], aq_h m s F c)) rfl rfl ?_
  generalize (if f < 0 then -1 else if f = 0 then 0 else 1) = z_1 at ez_1 ⊢
  refine ae_if0 rfl (fun (q_2 : z_1 ≠ 0) => ?_) (fun (q_2 : z_1 = 0) => ?_)
  · refine am_E.go (t2 := (9, [vR y, vI b, vI p, vL f, vU, vU, vU], [vI p], aq_h m s F c)) rfl rfl ?_
    refine am_E.go (t2 := (11, [vR y, vI b, vI p, vL f, vU, vU, vU], [vI 20, vI p], aq_h m s F c)) rfl rfl ?_
    refine ae_icmp rfl (fun (q_3 : 20 < p) => ?_) (fun (q_3 : p ≤ 20) => ?_)
    · refine am_E.go (t2 := (28, [vR y, vI b, vI p, vL f, vU, vU, vU], [vI 0], aq_h m s F c)) rfl rfl ?_
      refine am_E.ret rfl rfl ?_
      first | (exfalso; omega) | exact ⟨rfl, rfl⟩
    · refine am_E.go (t2 := (15, [vR y, vI b, vI p, vL f, vU, vU, vU], [vL f], aq_h m s F c)) rfl rfl ?_
      refine am_E.go (t2 := (18, [vR y, vI b, vI p, vL f, vU, vU, vU], [vL (-1000000000000), vL f], aq_h m s F c)) rfl rfl ?_
      refine am_E.go (t2 := (21, [vR y, vI b, vI p, vL f, vU, vU, vU], [vL 1000000000000, vL (-1000000000000), vL f], aq_h m s F c)) rfl rfl ?_
      refine am_E.call rfl rfl rfl (Nat.le_of_ble_eq_true rfl) (qm_in) ?_
      rintro r5 h5 ⟨rfl, v_4, rfl, hv_4⟩
      show am_E _ (24, [vR y, vI b, vI p, vL f, vU, vU, vU], [vI v_4], aq_h m s F c) _
      refine ae_if0 rfl (fun (q_5 : v_4 ≠ 0) => ?_) (fun (q_5 : v_4 = 0) => ?_)
      · refine am_E.go (t2 := (30, [vR y, vI b, vI p, vL f, vU, vU, vU], [vI 0], aq_h m s F c)) rfl rfl ?_
        refine am_E.go (t2 := (32, [vR y, vI b, vI p, vL f, vU, vI 0, vU], [], aq_h m s F c)) rfl rfl ?_
        exfalso
        omega
      · refine am_E.go (t2 := (28, [vR y, vI b, vI p, vL f, vU, vU, vU], [vI 0], aq_h m s F c)) rfl rfl ?_
        refine am_E.ret rfl rfl ?_
        first | (exfalso; omega) | exact ⟨rfl, rfl⟩
  · refine am_E.go (t2 := (7, [vR y, vI b, vI p, vL f, vU, vU, vU], [vI 1], aq_h m s F c)) rfl rfl ?_
    refine am_E.ret rfl rfl ?_
    first | (exfalso; omega) | exact ⟨rfl, rfl⟩

theorem qx_comesJ {m s : Nat} {F : aq_F} {c : aq_C} {y : Nat} (hO : mo_0 m F y) {b p f : Int} (hR1 : 0 ≤ c y 17) (hR2 : c y 17 ≤ 40) (hkf : ∀ i, 0 ≤ i → i < c y 17 → sm_ok (c (y + 17) i)) (hf : sm_ok f) (hf0 : f ≠ 0) : am_E ac_X5_comes (0, [vR y, vI b, vI p, vL f, vU, vU, vU], [], aq_h m s F c) (aq_Z m s F (fun a => a = y ∨ a = y + 15 ∨ a = y + 16 ∨ a = y + 17) c (fun r d => ∃ v, r = some (vI v) ∧ mo_q y c d ∧ ((v = 0 ∧ sm_J (mr_v y c) b p f = none) ∨ (v = 1 ∧ ∃ t2, sm_J (mr_v y c) b p f = some t2 ∧ sm_e t2 (mr_v y d))))) := by
  by_cases hp : p ≤ 20
  · have e : sm_J (mr_v y c) b p f = sm_j (mr_v y c) b p f := by unfold sm_J; rw [if_pos hp]
    rw [e]
    refine am_E.imp (qx_comes hO hR1 hR2 hkf hf hp) ?_
    rintro r5 h5 ⟨d, e1, s1, v, e2, q1, q2⟩
    refine ⟨d, e1, s1, v, e2, q1, ?_⟩
    rcases q2 with ⟨k1, k2, k3⟩ | ⟨k1, k2, k3⟩ | ⟨k1, k2, k3⟩
    · exact absurd k1 hf0
    · exact Or.inl ⟨k2, k3⟩
    · exact Or.inr ⟨k2, k3⟩
  · have e : sm_J (mr_v y c) b p f = none := by unfold sm_J; rw [if_neg hp]
    rw [e]
    refine am_E.imp (qx_comes_h hO hf0 (by omega)) ?_
    rintro r5 h5 ⟨rfl, rfl⟩
    exact ⟨c, rfl, aq_sm0, 0, rfl, mo_q0, Or.inl ⟨rfl, rfl⟩⟩
theorem sm_qJ2 {K b p f v : Int} {t u w : sm_} (hw : sm_w K t) (he : sm_e t u) (q : (v = 0 ∧ sm_J u b p f = none) ∨ (v = 1 ∧ ∃ t2, sm_J u b p f = some t2 ∧ sm_e t2 w)) : (v = 0 ∧ sm_J t b p f = none) ∨ (v = 1 ∧ ∃ t2, sm_J t b p f = some t2 ∧ sm_e t2 w) := by
  rcases q with ⟨k1, k2⟩ | k
  · exact (sm_qJ (w := u) hw he (Or.inl ⟨k1, k2, sm_er⟩)).elim Or.inl (fun h => absurd h.1 (by omega))
  · exact sm_qJ hw he (Or.inr k)
theorem sj_r {y d : Nat} {u : Int} {c : aq_C} {g i : Int} {w : sm_} : sj_ (rf_v y u c) g (d + 1) i w = if i < c (y + 6) u then (sm_j w (c (y + 7) (40 * u + i)) (c (y + 8) (40 * u + i)) (g * c (y + 9) (40 * u + i))).bind (fun t2 => sj_ (rf_v y u c) g d (i + 1) t2) else some w := rfl
theorem sp_r {y d : Nat} {t u : Int} {c : aq_C} {n i j : Int} {w : sm_} : sp_i n (rf_v y t c) (rf_v y u c) i (d + 1) j w = if j < c (y + 6) u then (if pf_ (c (y + 9) (40 * t + i)) (c (y + 9) (40 * u + j)) then (sm_J w (sk_ n (c (y + 7) (40 * t + i)) (c (y + 7) (40 * u + j)) % 1000) (c (y + 8) (40 * t + i) + c (y + 8) (40 * u + j) + sk_ n (c (y + 7) (40 * t + i)) (c (y + 7) (40 * u + j)) / 1000) (c (y + 9) (40 * t + i) * c (y + 9) (40 * u + j))).bind (fun w2 => sp_i n (rf_v y t c) (rf_v y u c) i d (j + 1) w2) else none) else some w := rfl
theorem sp_q {y d : Nat} {t u : Int} {c : aq_C} {n i : Int} {w : sm_} : sp_o n (rf_v y t c) (rf_v y u c) (d + 1) i w = if i < c (y + 6) t then (sp_i n (rf_v y t c) (rf_v y u c) i 41 0 w).bind (fun w2 => sp_o n (rf_v y t c) (rf_v y u c) d (i + 1) w2) else some w := rfl
theorem mr_vs {S : Nat → Prop} {y : Nat} {c d : aq_C} (hs : aq_sm S c d) (hz : d y 17 = c y 17) (h1 : ¬ S (y + 15)) (h2 : ¬ S (y + 16)) (h3 : ¬ S (y + 17)) : mr_v y d = mr_v y c := by
  unfold mr_v
  rw [hz, show d (y + 15) = c (y + 15) from funext (hs _ h1), show d (y + 16) = c (y + 16) from funext (hs _ h2), show d (y + 17) = c (y + 17) from funext (hs _ h3)]

theorem qx_work_a {m s : Nat} {F : aq_F} {c0 : aq_C} {y : Nat} (hO : mo_0 m F y) {tbl : Int → Int} (hT : mo_T F y tbl) (hI : mo_I y c0) {t u w nn sa : Int} (hs0 : 0 ≤ sa) (hs1 : sa < 8) (ht0 : 0 ≤ t) (ht1 : t < 8) (hu0 : 0 ≤ u) (hu1 : u < 8) (hn1 : 1 ≤ nn) (hn4 : nn ≤ 4) (hWt : sm_w (bx_K nn) (rf_v y t c0)) (hWu : sm_w (bx_K nn) (rf_v y u c0)) {T : Option sm_} {g : Int} (hg : (w = 0 ∧ g = 1) ∨ (w ≠ 0 ∧ g = -1)) : ∀ (d : Nat) (x : Int) (k : Int) (v8 : am_V) (v9 : am_V) (v10 : am_V) (v11 : am_V) (v12 : am_V) (v13 : am_V) (v14 : am_V) (v15 : am_V) (v16 : am_V) (c : aq_C) (hs : aq_sm (mo_S y) c0 c) (h0 : 0 ≤ k) (h1 : k ≤ c0 (y + 6) u) (hq : mo_q y c0 c) (hx : (x = 0 ∧ T = none) ∨ (x = 1 ∧ ∃ tg, sm_w (bx_K nn) tg ∧ sm_e tg (mr_v y c) ∧ sj_ (rf_v y u c0) g d k tg = T)) (hd : c0 (y + 6) u - k < (d : Int)), am_E ac_X5_work (79, [vR y, vI sa, vI w, vI t, vI u, vI nn, vI x, vI k, v8, v9, v10, v11, v12, v13, v14, v15, v16], [], aq_h m s F c) (aq_Z m s F (fun a => y ≤ a ∧ a < y + 24) c0 (fun r d => r = some (vI (wk_z T)) ∧ mo_I y d ∧ (∀ i, i ≠ sa → d (y + 5) i = c0 (y + 5) i ∧ d (y + 6) i = c0 (y + 6) i) ∧ (∀ i, (∀ j, 0 ≤ j → j < 40 → i ≠ 40 * sa + j) → d (y + 7) i = c0 (y + 7) i ∧ d (y + 8) i = c0 (y + 8) i ∧ d (y + 9) i = c0 (y + 9) i) ∧ (∀ v, T = some v → d (y + 5) sa = nn ∧ sm_e v (rf_v y sa d)) ∧ (T = none → aq_sm (mo_S y) c0 d)))
  | 0, x, k, v8, v9, v10, v11, v12, v13, v14, v15, v16, c, hs, h0, h1, hq, hx, hd => by exfalso; omega
  | d + 1, x, k, v8, v9, v10, v11, v12, v13, v14, v15, v16, c, hs, h0, h1, hq, hx, hd => by
    obtain ⟨hm, hFo, hG5, hG6, hG7, hG8, hG9, hG10, hG11, hG12, hG13, hG14, hG15, hG16, hG17, hG18, hG19, hG20, hG21, hG22, hG23⟩ := hO
    obtain ⟨hT1, hTt⟩ := hT
    have hzt1 : 0 ≤ c0 (y + 6) t := hWt.1
    have hzt2 : c0 (y + 6) t ≤ 40 := hWt.2.1
    have hzu1 : 0 ≤ c0 (y + 6) u := hWu.1
    have hzu2 : c0 (y + 6) u ≤ 40 := hWu.2.1
    refine am_E.go (t2 := (81, [vR y, vI sa, vI w, vI t, vI u, vI nn, vI x, vI k, v8, v9, v10, v11, v12, v13, v14, v15, v16], [vI k], aq_h m s F c)) rfl rfl ?_
    refine am_E.go (t2 := (82, [vR y, vI sa, vI w, vI t, vI u, vI nn, vI x, vI k, v8, v9, v10, v11, v12, v13, v14, v15, v16], [vR y, vI k], aq_h m s F c)) rfl rfl ?_
    refine aq_gf (v := vR (y + 6)) rfl (by omega) hFo (by decide) rfl ?_
    show am_E _ (85, [vR y, vI sa, vI w, vI t, vI u, vI nn, vI x, vI k, v8, v9, v10, v11, v12, v13, v14, v15, v16], [vR (y + 6), vI k], aq_h m s F c) _
    refine am_E.go (t2 := (87, [vR y, vI sa, vI w, vI t, vI u, vI nn, vI x, vI k, v8, v9, v10, v11, v12, v13, v14, v15, v16], [vI u, vR (y + 6), vI k], aq_h m s F c)) rfl rfl ?_
    refine aq_al (ok := fun k => k == 0) (v := vI (c (y + 6) u)) rfl rfl (by omega) hG6 rfl (by omega) (by omega) rfl ?_
    show am_E _ (88, [vR y, vI sa, vI w, vI t, vI u, vI nn, vI x, vI k, v8, v9, v10, v11, v12, v13, v14, v15, v16], [vI (c (y + 6) u), vI k], aq_h m s F c) _
    have f_1 := hs (y + 6) (mo_n (by decide) (by decide)) u
    refine ae_icmp rfl (fun (q_2 : (c (y + 6) u) ≤ k) => ?_) (fun (q_2 : k < (c (y + 6) u)) => ?_)
    · refine am_E.go (t2 := (163, [vR y, vI sa, vI w, vI t, vI u, vI nn, vI x, vI k, v8, v9, v10, v11, v12, v13, v14, v15, v16], [vI x], aq_h m s F c)) rfl rfl ?_
      refine ae_if0 rfl (fun (q_3 : x = 0) => ?_) (fun (q_3 : x ≠ 0) => ?_)
      · have e_T : T = none := by
          rcases hx with ⟨k1, k2⟩ | ⟨k1, k2⟩
          · exact k2
          · exfalso; omega
        refine am_E.go (t2 := (178, [vR y, vI sa, vI w, vI t, vI u, vI nn, vI x, vI k, v8, v9, v10, v11, v12, v13, v14, v15, v16], [vI (-5)], aq_h m s F c)) rfl rfl ?_
        refine am_E.ret rfl rfl ?_
        rw [e_T]
        exact ⟨_, rfl, aq_smi hs (fun a h => mo_Sa h), rfl, mo_Iw hI hs hq, fun i _ => ⟨hs (y + 5) (mo_n (by decide) (by decide)) _, hs (y + 6) (mo_n (by decide) (by decide)) _⟩, fun i _ => ⟨hs (y + 7) (mo_n (by decide) (by decide)) _, hs (y + 8) (mo_n (by decide) (by decide)) _, hs (y + 9) (mo_n (by decide) (by decide)) _⟩, fun v q => absurd q (by simp), fun _ => hs⟩
      · obtain ⟨tg, hw, he, hT2⟩ : ∃ tg, sm_w (bx_K nn) tg ∧ sm_e tg (mr_v y c) ∧ sj_ (rf_v y u c0) g (d + 1) k tg = T := by
          rcases hx with ⟨k1, k2⟩ | ⟨k1, k2⟩
          · exfalso; omega
          · exact k2
        have z0 : tg.1 = c y 17 := he.1
        have w0 := hw.1
        have w1 := hw.2.1
        have hkf : ∀ i, 0 ≤ i → i < c y 17 → sm_ok (c (y + 17) i) := fun i i0 i1 => by
          have k9 := (hw.2.2.1 i i0 (by omega)).2.2.1
          rw [(he.2 i i0 (by omega)).2.2] at k9
          exact k9
        have e_T : T = some tg := by rw [← hT2, sj_r, if_neg (show ¬ k < c0 (y + 6) u by omega)]
        refine am_E.go (t2 := (167, [vR y, vI sa, vI w, vI t, vI u, vI nn, vI x, vI k, v8, v9, v10, v11, v12, v13, v14, v15, v16], [vR y], aq_h m s F c)) rfl rfl ?_
        refine am_E.go (t2 := (168, [vR y, vI sa, vI w, vI t, vI u, vI nn, vI x, vI k, v8, v9, v10, v11, v12, v13, v14, v15, v16], [vI sa, vR y], aq_h m s F c)) rfl rfl ?_
        refine am_E.go (t2 := (170, [vR y, vI sa, vI w, vI t, vI u, vI nn, vI x, vI k, v8, v9, v10, v11, v12, v13, v14, v15, v16], [vI nn, vI sa, vR y], aq_h m s F c)) rfl rfl ?_
        refine aq_callv (y := 3) (as2 := [vI sa, vI nn]) (rest := []) rfl rfl (by decide) (Nat.le_of_ble_eq_true rfl) rfl rfl (Nat.le_of_ble_eq_true rfl) (by omega) hFo rfl (Nat.le_of_ble_eq_true rfl) (qx_store ⟨hm, hFo, hG5, hG6, hG7, hG8, hG9, hG10, hG11, hG12, hG13, hG14, hG15, hG16, hG17, hG18, hG19, hG20, hG21, hG22, hG23⟩ (by omega) (by omega) hn1 hn4 (mo_Iw hI hs hq) (sm_mr hw he)) ?_
        rintro r5 h5 ⟨c_b, rfl, s_b, rfl, hI_b, b5, b6, b7, b8⟩
        show am_E _ (173, [vR y, vI sa, vI w, vI t, vI u, vI nn, vI x, vI k, v8, v9, v10, v11, v12, v13, v14, v15, v16], [vI (c y 17)], aq_h m s F c_b) _
        refine am_E.go (t2 := (178, [vR y, vI sa, vI w, vI t, vI u, vI nn, vI x, vI k, v8, v9, v10, v11, v12, v13, v14, v15, v16], [vI (c y 17)], aq_h m s F c_b)) rfl rfl ?_
        refine am_E.ret rfl rfl ?_
        rw [e_T]
        refine ⟨_, rfl, (aq_smt (aq_smi hs (fun a h => mo_Sa h)) (aq_smi s_b (fun a h => by omega))), ?_, hI_b, fun i hi => ⟨by rw [b5 i, if_neg hi, hs (y + 5) (mo_n (by decide) (by decide)) _], by rw [b6 i hi, hs (y + 6) (mo_n (by decide) (by decide)) _]⟩, fun i hi => ⟨by rw [(b8 i hi).1, hs (y + 7) (mo_n (by decide) (by decide)) _], by rw [(b8 i hi).2.1, hs (y + 8) (mo_n (by decide) (by decide)) _], by rw [(b8 i hi).2.2, hs (y + 9) (mo_n (by decide) (by decide)) _]⟩, fun v q => ?_, fun q => absurd q (by simp)⟩
        · exact congrArg (fun z => some (vI z)) z0.symm
        · obtain rfl := Option.some.inj q
          exact ⟨by rw [b5 sa, if_pos rfl], sm_et he b7⟩
    · refine am_E.go (t2 := (93, [vR y, vI sa, vI w, vI t, vI u, vI nn, vI x, vI k, v8, v9, v10, v11, v12, v13, v14, v15, v16], [vI x], aq_h m s F c)) rfl rfl ?_
      refine ae_if0 rfl (fun (q_4 : x = 0) => ?_) (fun (q_4 : x ≠ 0) => ?_)
      · refine am_E.go (t2 := (163, [vR y, vI sa, vI w, vI t, vI u, vI nn, vI x, vI k, v8, v9, v10, v11, v12, v13, v14, v15, v16], [vI x], aq_h m s F c)) rfl rfl ?_
        refine ae_if0 rfl (fun (q_5 : x = 0) => ?_) (fun (q_5 : x ≠ 0) => ?_)
        · have e_T : T = none := by
            rcases hx with ⟨k1, k2⟩ | ⟨k1, k2⟩
            · exact k2
            · exfalso; omega
          refine am_E.go (t2 := (178, [vR y, vI sa, vI w, vI t, vI u, vI nn, vI x, vI k, v8, v9, v10, v11, v12, v13, v14, v15, v16], [vI (-5)], aq_h m s F c)) rfl rfl ?_
          refine am_E.ret rfl rfl ?_
          rw [e_T]
          exact ⟨_, rfl, aq_smi hs (fun a h => mo_Sa h), rfl, mo_Iw hI hs hq, fun i _ => ⟨hs (y + 5) (mo_n (by decide) (by decide)) _, hs (y + 6) (mo_n (by decide) (by decide)) _⟩, fun i _ => ⟨hs (y + 7) (mo_n (by decide) (by decide)) _, hs (y + 8) (mo_n (by decide) (by decide)) _, hs (y + 9) (mo_n (by decide) (by decide)) _⟩, fun v q => absurd q (by simp), fun _ => hs⟩
        · obtain ⟨tg, hw, he, hT2⟩ : ∃ tg, sm_w (bx_K nn) tg ∧ sm_e tg (mr_v y c) ∧ sj_ (rf_v y u c0) g (d + 1) k tg = T := by
            rcases hx with ⟨k1, k2⟩ | ⟨k1, k2⟩
            · exfalso; omega
            · exact k2
          have z0 : tg.1 = c y 17 := he.1
          have w0 := hw.1
          have w1 := hw.2.1
          have hkf : ∀ i, 0 ≤ i → i < c y 17 → sm_ok (c (y + 17) i) := fun i i0 i1 => by
            have k9 := (hw.2.2.1 i i0 (by omega)).2.2.1
            rw [(he.2 i i0 (by omega)).2.2] at k9
            exact k9
          have e_T : T = some tg := by rw [← hT2, sj_r, if_neg (show ¬ k < c0 (y + 6) u by omega)]
          refine am_E.go (t2 := (167, [vR y, vI sa, vI w, vI t, vI u, vI nn, vI x, vI k, v8, v9, v10, v11, v12, v13, v14, v15, v16], [vR y], aq_h m s F c)) rfl rfl ?_
          refine am_E.go (t2 := (168, [vR y, vI sa, vI w, vI t, vI u, vI nn, vI x, vI k, v8, v9, v10, v11, v12, v13, v14, v15, v16], [vI sa, vR y], aq_h m s F c)) rfl rfl ?_
          refine am_E.go (t2 := (170, [vR y, vI sa, vI w, vI t, vI u, vI nn, vI x, vI k, v8, v9, v10, v11, v12, v13, v14, v15, v16], [vI nn, vI sa, vR y], aq_h m s F c)) rfl rfl ?_
          refine aq_callv (y := 3) (as2 := [vI sa, vI nn]) (rest := []) rfl rfl (by decide) (Nat.le_of_ble_eq_true rfl) rfl rfl (Nat.le_of_ble_eq_true rfl) (by omega) hFo rfl (Nat.le_of_ble_eq_true rfl) (qx_store ⟨hm, hFo, hG5, hG6, hG7, hG8, hG9, hG10, hG11, hG12, hG13, hG14, hG15, hG16, hG17, hG18, hG19, hG20, hG21, hG22, hG23⟩ (by omega) (by omega) hn1 hn4 (mo_Iw hI hs hq) (sm_mr hw he)) ?_
          rintro r5 h5 ⟨c_b, rfl, s_b, rfl, hI_b, b5, b6, b7, b8⟩
          show am_E _ (173, [vR y, vI sa, vI w, vI t, vI u, vI nn, vI x, vI k, v8, v9, v10, v11, v12, v13, v14, v15, v16], [vI (c y 17)], aq_h m s F c_b) _
          refine am_E.go (t2 := (178, [vR y, vI sa, vI w, vI t, vI u, vI nn, vI x, vI k, v8, v9, v10, v11, v12, v13, v14, v15, v16], [vI (c y 17)], aq_h m s F c_b)) rfl rfl ?_
          refine am_E.ret rfl rfl ?_
          rw [e_T]
          refine ⟨_, rfl, (aq_smt (aq_smi hs (fun a h => mo_Sa h)) (aq_smi s_b (fun a h => by omega))), ?_, hI_b, fun i hi => ⟨by rw [b5 i, if_neg hi, hs (y + 5) (mo_n (by decide) (by decide)) _], by rw [b6 i hi, hs (y + 6) (mo_n (by decide) (by decide)) _]⟩, fun i hi => ⟨by rw [(b8 i hi).1, hs (y + 7) (mo_n (by decide) (by decide)) _], by rw [(b8 i hi).2.1, hs (y + 8) (mo_n (by decide) (by decide)) _], by rw [(b8 i hi).2.2, hs (y + 9) (mo_n (by decide) (by decide)) _]⟩, fun v q => ?_, fun q => absurd q (by simp)⟩
          · exact congrArg (fun z => some (vI z)) z0.symm
          · obtain rfl := Option.some.inj q
            exact ⟨by rw [b5 sa, if_pos rfl], sm_et he b7⟩
      · obtain ⟨tg, hw, he, hT2⟩ : ∃ tg, sm_w (bx_K nn) tg ∧ sm_e tg (mr_v y c) ∧ sj_ (rf_v y u c0) g (d + 1) k tg = T := by
          rcases hx with ⟨k1, k2⟩ | ⟨k1, k2⟩
          · exfalso; omega
          · exact k2
        have z0 : tg.1 = c y 17 := he.1
        have w0 := hw.1
        have w1 := hw.2.1
        have hkf : ∀ i, 0 ≤ i → i < c y 17 → sm_ok (c (y + 17) i) := fun i i0 i1 => by
          have k9 := (hw.2.2.1 i i0 (by omega)).2.2.1
          rw [(he.2 i i0 (by omega)).2.2] at k9
          exact k9
        refine am_E.go (t2 := (97, [vR y, vI sa, vI w, vI t, vI u, vI nn, vI x, vI k, v8, v9, v10, v11, v12, v13, v14, v15, v16], [vR y], aq_h m s F c)) rfl rfl ?_
        refine aq_gf (v := vR (y + 9)) rfl (by omega) hFo (by decide) rfl ?_
        show am_E _ (100, [vR y, vI sa, vI w, vI t, vI u, vI nn, vI x, vI k, v8, v9, v10, v11, v12, v13, v14, v15, v16], [vR (y + 9)], aq_h m s F c) _
        refine am_E.go (t2 := (102, [vR y, vI sa, vI w, vI t, vI u, vI nn, vI x, vI k, v8, v9, v10, v11, v12, v13, v14, v15, v16], [vI 40, vR (y + 9)], aq_h m s F c)) rfl rfl ?_
        refine am_E.go (t2 := (104, [vR y, vI sa, vI w, vI t, vI u, vI nn, vI x, vI k, v8, v9, v10, v11, v12, v13, v14, v15, v16], [vI u, vI 40, vR (y + 9)], aq_h m s F c)) rfl rfl ?_
        refine ae_mul rfl (am_ri (by omega) (by omega)) ?_
        show am_E _ (105, [vR y, vI sa, vI w, vI t, vI u, vI nn, vI x, vI k, v8, v9, v10, v11, v12, v13, v14, v15, v16], [vI (40 * u), vR (y + 9)], aq_h m s F c) _
        refine am_E.go (t2 := (107, [vR y, vI sa, vI w, vI t, vI u, vI nn, vI x, vI k, v8, v9, v10, v11, v12, v13, v14, v15, v16], [vI k, vI (40 * u), vR (y + 9)], aq_h m s F c)) rfl rfl ?_
        refine ae_add rfl (am_ri (by omega) (by omega)) ?_
        show am_E _ (108, [vR y, vI sa, vI w, vI t, vI u, vI nn, vI x, vI k, v8, v9, v10, v11, v12, v13, v14, v15, v16], [vI ((40 * u) + k), vR (y + 9)], aq_h m s F c) _
        refine aq_al (ok := fun k => k == 2) (v := vL (c (y + 9) ((40 * u) + k))) rfl rfl (by omega) hG9 rfl (by omega) (by omega) rfl ?_
        show am_E _ (109, [vR y, vI sa, vI w, vI t, vI u, vI nn, vI x, vI k, v8, v9, v10, v11, v12, v13, v14, v15, v16], [vL (c (y + 9) ((40 * u) + k))], aq_h m s F c) _
        have f_6 := hs (y + 9) (mo_n (by decide) (by decide)) ((40 * u) + k)
        have kku : (0 ≤ c0 (y + 7) (40 * u + k) ∧ c0 (y + 7) (40 * u + k) < bx_K nn) ∧ (0 ≤ c0 (y + 8) (40 * u + k) ∧ c0 (y + 8) (40 * u + k) ≤ 20) ∧ sm_ok (c0 (y + 9) (40 * u + k)) ∧ c0 (y + 9) (40 * u + k) ≠ 0 := hWu.2.2.1 k (by omega) (show k < c0 (y + 6) u by omega)
        obtain ⟨⟨kb0u, kb1u⟩, ⟨kp0u, kp1u⟩, kfu, knu⟩ := kku
        have kgu := kfu
        unfold sm_ok at kgu
        refine am_E.go (t2 := (111, [vR y, vI sa, vI w, vI t, vI u, vI nn, vI x, vI k, vL (c (y + 9) ((40 * u) + k)), vU, v10, v11, v12, v13, v14, v15, v16], [], aq_h m s F c)) rfl rfl ?_
        refine am_E.go (t2 := (112, [vR y, vI sa, vI w, vI t, vI u, vI nn, vI x, vI k, vL (c (y + 9) ((40 * u) + k)), vU, v10, v11, v12, v13, v14, v15, v16], [vR y], aq_h m s F c)) rfl rfl ?_
        refine am_E.go (t2 := (113, [vR y, vI sa, vI w, vI t, vI u, vI nn, vI x, vI k, vL (c (y + 9) ((40 * u) + k)), vU, v10, v11, v12, v13, v14, v15, v16], [vR y, vR y], aq_h m s F c)) rfl rfl ?_
        refine aq_gf (v := vR (y + 7)) rfl (by omega) hFo (by decide) rfl ?_
        show am_E _ (116, [vR y, vI sa, vI w, vI t, vI u, vI nn, vI x, vI k, vL (c (y + 9) ((40 * u) + k)), vU, v10, v11, v12, v13, v14, v15, v16], [vR (y + 7), vR y], aq_h m s F c) _
        refine am_E.go (t2 := (118, [vR y, vI sa, vI w, vI t, vI u, vI nn, vI x, vI k, vL (c (y + 9) ((40 * u) + k)), vU, v10, v11, v12, v13, v14, v15, v16], [vI 40, vR (y + 7), vR y], aq_h m s F c)) rfl rfl ?_
        refine am_E.go (t2 := (120, [vR y, vI sa, vI w, vI t, vI u, vI nn, vI x, vI k, vL (c (y + 9) ((40 * u) + k)), vU, v10, v11, v12, v13, v14, v15, v16], [vI u, vI 40, vR (y + 7), vR y], aq_h m s F c)) rfl rfl ?_
        refine ae_mul rfl (am_ri (by omega) (by omega)) ?_
        show am_E _ (121, [vR y, vI sa, vI w, vI t, vI u, vI nn, vI x, vI k, vL (c (y + 9) ((40 * u) + k)), vU, v10, v11, v12, v13, v14, v15, v16], [vI (40 * u), vR (y + 7), vR y], aq_h m s F c) _
        refine am_E.go (t2 := (123, [vR y, vI sa, vI w, vI t, vI u, vI nn, vI x, vI k, vL (c (y + 9) ((40 * u) + k)), vU, v10, v11, v12, v13, v14, v15, v16], [vI k, vI (40 * u), vR (y + 7), vR y], aq_h m s F c)) rfl rfl ?_
        refine ae_add rfl (am_ri (by omega) (by omega)) ?_
        show am_E _ (124, [vR y, vI sa, vI w, vI t, vI u, vI nn, vI x, vI k, vL (c (y + 9) ((40 * u) + k)), vU, v10, v11, v12, v13, v14, v15, v16], [vI ((40 * u) + k), vR (y + 7), vR y], aq_h m s F c) _
        refine aq_al (ok := fun k => k == 0) (v := vI (c (y + 7) ((40 * u) + k))) rfl rfl (by omega) hG7 rfl (by omega) (by omega) rfl ?_
        show am_E _ (125, [vR y, vI sa, vI w, vI t, vI u, vI nn, vI x, vI k, vL (c (y + 9) ((40 * u) + k)), vU, v10, v11, v12, v13, v14, v15, v16], [vI (c (y + 7) ((40 * u) + k)), vR y], aq_h m s F c) _
        have f_7 := hs (y + 7) (mo_n (by decide) (by decide)) ((40 * u) + k)
        refine am_E.go (t2 := (126, [vR y, vI sa, vI w, vI t, vI u, vI nn, vI x, vI k, vL (c (y + 9) ((40 * u) + k)), vU, v10, v11, v12, v13, v14, v15, v16], [vR y, vI (c (y + 7) ((40 * u) + k)), vR y], aq_h m s F c)) rfl rfl ?_
        refine aq_gf (v := vR (y + 8)) rfl (by omega) hFo (by decide) rfl ?_
        show am_E _ (129, [vR y, vI sa, vI w, vI t, vI u, vI nn, vI x, vI k, vL (c (y + 9) ((40 * u) + k)), vU, v10, v11, v12, v13, v14, v15, v16], [vR (y + 8), vI (c (y + 7) ((40 * u) + k)), vR y], aq_h m s F c) _
        refine am_E.go (t2 := (131, [vR y, vI sa, vI w, vI t, vI u, vI nn, vI x, vI k, vL (c (y + 9) ((40 * u) + k)), vU, v10, v11, v12, v13, v14, v15, v16], [vI 40, vR (y + 8), vI (c (y + 7) ((40 * u) + k)), vR y], aq_h m s F c)) rfl rfl ?_
        refine am_E.go (t2 := (133, [vR y, vI sa, vI w, vI t, vI u, vI nn, vI x, vI k, vL (c (y + 9) ((40 * u) + k)), vU, v10, v11, v12, v13, v14, v15, v16], [vI u, vI 40, vR (y + 8), vI (c (y + 7) ((40 * u) + k)), vR y], aq_h m s F c)) rfl rfl ?_
        refine ae_mul rfl (am_ri (by omega) (by omega)) ?_
        show am_E _ (134, [vR y, vI sa, vI w, vI t, vI u, vI nn, vI x, vI k, vL (c (y + 9) ((40 * u) + k)), vU, v10, v11, v12, v13, v14, v15, v16], [vI (40 * u), vR (y + 8), vI (c (y + 7) ((40 * u) + k)), vR y], aq_h m s F c) _
        refine am_E.go (t2 := (136, [vR y, vI sa, vI w, vI t, vI u, vI nn, vI x, vI k, vL (c (y + 9) ((40 * u) + k)), vU, v10, v11, v12, v13, v14, v15, v16], [vI k, vI (40 * u), vR (y + 8), vI (c (y + 7) ((40 * u) + k)), vR y], aq_h m s F c)) rfl rfl ?_
        refine ae_add rfl (am_ri (by omega) (by omega)) ?_
        show am_E _ (137, [vR y, vI sa, vI w, vI t, vI u, vI nn, vI x, vI k, vL (c (y + 9) ((40 * u) + k)), vU, v10, v11, v12, v13, v14, v15, v16], [vI ((40 * u) + k), vR (y + 8), vI (c (y + 7) ((40 * u) + k)), vR y], aq_h m s F c) _
        refine aq_al (ok := fun k => k == 0) (v := vI (c (y + 8) ((40 * u) + k))) rfl rfl (by omega) hG8 rfl (by omega) (by omega) rfl ?_
        show am_E _ (138, [vR y, vI sa, vI w, vI t, vI u, vI nn, vI x, vI k, vL (c (y + 9) ((40 * u) + k)), vU, v10, v11, v12, v13, v14, v15, v16], [vI (c (y + 8) ((40 * u) + k)), vI (c (y + 7) ((40 * u) + k)), vR y], aq_h m s F c) _
        have f_8 := hs (y + 8) (mo_n (by decide) (by decide)) ((40 * u) + k)
        refine am_E.go (t2 := (139, [vR y, vI sa, vI w, vI t, vI u, vI nn, vI x, vI k, vL (c (y + 9) ((40 * u) + k)), vU, v10, v11, v12, v13, v14, v15, v16], [vI w, vI (c (y + 8) ((40 * u) + k)), vI (c (y + 7) ((40 * u) + k)), vR y], aq_h m s F c)) rfl rfl ?_
        refine ae_if0 rfl (fun (q_9 : w ≠ 0) => ?_) (fun (q_9 : w = 0) => ?_)
        · have e_n : am_wl (-(c (y + 9) (40 * u + k))) = -(c (y + 9) (40 * u + k)) := am_wl_id (am_rl (by omega) (by omega))
          refine am_E.go (t2 := (149, [vR y, vI sa, vI w, vI t, vI u, vI nn, vI x, vI k, vL (c (y + 9) ((40 * u) + k)), vU, v10, v11, v12, v13, v14, v15, v16], [vL (c (y + 9) ((40 * u) + k)), vI (c (y + 8) ((40 * u) + k)), vI (c (y + 7) ((40 * u) + k)), vR y], aq_h m s F c)) rfl rfl ?_
          refine am_E.go (t2 := (150, [vR y, vI sa, vI w, vI t, vI u, vI nn, vI x, vI k, vL (c (y + 9) ((40 * u) + k)), vU, v10, v11, v12, v13, v14, v15, v16], [vL (am_wl (-(c (y + 9) ((40 * u) + k)))), vI (c (y + 8) ((40 * u) + k)), vI (c (y + 7) ((40 * u) + k)), vR y], aq_h m s F c)) rfl rfl ?_
          refine aq_callv (y := 4) (as2 := [vI (c (y + 7) ((40 * u) + k)), vI (c (y + 8) ((40 * u) + k)), vL (am_wl (-(c (y + 9) ((40 * u) + k))))]) (rest := []) rfl rfl (by decide) (Nat.le_of_ble_eq_true rfl) rfl rfl (Nat.le_of_ble_eq_true rfl) (by omega) hFo rfl (Nat.le_of_ble_eq_true rfl) (qx_comesJ ⟨hm, hFo, hG5, hG6, hG7, hG8, hG9, hG10, hG11, hG12, hG13, hG14, hG15, hG16, hG17, hG18, hG19, hG20, hG21, hG22, hG23⟩ (by omega) (by omega) hkf (by unfold sm_ok; omega) (by omega)) ?_
          rintro r5 h5 ⟨c_k, rfl, s_k, v_k, rfl, q_k, r_k⟩
          show am_E _ (153, [vR y, vI sa, vI w, vI t, vI u, vI nn, vI x, vI k, vL (c (y + 9) ((40 * u) + k)), vU, v10, v11, v12, v13, v14, v15, v16], [vI v_k], aq_h m s F c_k) _
          have Q := sm_qJ2 hw he r_k
          have e_g : (am_wl (-(c (y + 9) ((40 * u) + k)))) = g * c0 (y + 9) (40 * u + k) := by rcases hg with ⟨g1, g2⟩ | ⟨g1, g2⟩ <;> rw [g2] <;> omega
          rw [e_g, hs (y + 7) (mo_n (by decide) (by decide)) _, hs (y + 8) (mo_n (by decide) (by decide)) _] at Q
          refine am_E.go (t2 := (155, [vR y, vI sa, vI w, vI t, vI u, vI nn, vI v_k, vI k, vL (c (y + 9) ((40 * u) + k)), vU, v10, v11, v12, v13, v14, v15, v16], [], aq_h m s F c_k)) rfl rfl ?_
          refine ae_iinc rfl rfl (am_ri (by omega) (by omega)) ?_
          show am_E _ (158, [vR y, vI sa, vI w, vI t, vI u, vI nn, vI v_k, vI (k + 1), vL (c (y + 9) ((40 * u) + k)), vU, v10, v11, v12, v13, v14, v15, v16], [], aq_h m s F c_k) _
          refine am_E.go (t2 := (79, [vR y, vI sa, vI w, vI t, vI u, vI nn, vI v_k, vI (k + 1), vL (c (y + 9) ((40 * u) + k)), vU, v10, v11, v12, v13, v14, v15, v16], [], aq_h m s F c_k)) rfl rfl ?_
          exact qx_work_a ⟨hm, hFo, hG5, hG6, hG7, hG8, hG9, hG10, hG11, hG12, hG13, hG14, hG15, hG16, hG17, hG18, hG19, hG20, hG21, hG22, hG23⟩ ⟨hT1, hTt⟩ hI hs0 hs1 ht0 ht1 hu0 hu1 hn1 hn4 hWt hWu hg d v_k (k + 1) (vL (c (y + 9) ((40 * u) + k))) (vU) (v10) (v11) (v12) (v13) (v14) (v15) (v16) c_k (aq_smt hs (aq_smi s_k (fun a h => mo_S3 h))) (by omega) (by omega) (mo_qt hq q_k) (by
      rcases Q with ⟨k1, k2⟩ | ⟨k1, t2, k2, k3⟩
      · refine Or.inl ⟨k1, ?_⟩
        have k5 : sm_j tg (c0 (y + 7) (40 * u + k)) (c0 (y + 8) (40 * u + k)) (g * c0 (y + 9) (40 * u + k)) = none := by unfold sm_J at k2; rw [if_pos kp1u] at k2; exact k2
        rw [← hT2, sj_r, if_pos (show k < c0 (y + 6) u by omega), k5]
        rfl
      · have k5 := sm_Jw k2
        refine Or.inr ⟨k1, t2, sm_jw hw kb0u kb1u kp0u kp1u (by unfold sm_ok; rcases hg with ⟨g1, g2⟩ | ⟨g1, g2⟩ <;> rw [g2] <;> omega) k5.2, k3, ?_⟩
        rw [← hT2, sj_r, if_pos (show k < c0 (y + 6) u by omega), k5.2]
        rfl) (by omega)
        · refine am_E.go (t2 := (144, [vR y, vI sa, vI w, vI t, vI u, vI nn, vI x, vI k, vL (c (y + 9) ((40 * u) + k)), vU, v10, v11, v12, v13, v14, v15, v16], [vL (c (y + 9) ((40 * u) + k)), vI (c (y + 8) ((40 * u) + k)), vI (c (y + 7) ((40 * u) + k)), vR y], aq_h m s F c)) rfl rfl ?_
          refine am_E.go (t2 := (150, [vR y, vI sa, vI w, vI t, vI u, vI nn, vI x, vI k, vL (c (y + 9) ((40 * u) + k)), vU, v10, v11, v12, v13, v14, v15, v16], [vL (c (y + 9) ((40 * u) + k)), vI (c (y + 8) ((40 * u) + k)), vI (c (y + 7) ((40 * u) + k)), vR y], aq_h m s F c)) rfl rfl ?_
          refine aq_callv (y := 4) (as2 := [vI (c (y + 7) ((40 * u) + k)), vI (c (y + 8) ((40 * u) + k)), vL (c (y + 9) ((40 * u) + k))]) (rest := []) rfl rfl (by decide) (Nat.le_of_ble_eq_true rfl) rfl rfl (Nat.le_of_ble_eq_true rfl) (by omega) hFo rfl (Nat.le_of_ble_eq_true rfl) (qx_comesJ ⟨hm, hFo, hG5, hG6, hG7, hG8, hG9, hG10, hG11, hG12, hG13, hG14, hG15, hG16, hG17, hG18, hG19, hG20, hG21, hG22, hG23⟩ (by omega) (by omega) hkf (by unfold sm_ok; omega) (by omega)) ?_
          rintro r5 h5 ⟨c_k, rfl, s_k, v_k, rfl, q_k, r_k⟩
          show am_E _ (153, [vR y, vI sa, vI w, vI t, vI u, vI nn, vI x, vI k, vL (c (y + 9) ((40 * u) + k)), vU, v10, v11, v12, v13, v14, v15, v16], [vI v_k], aq_h m s F c_k) _
          have Q := sm_qJ2 hw he r_k
          have e_g : (c (y + 9) ((40 * u) + k)) = g * c0 (y + 9) (40 * u + k) := by rcases hg with ⟨g1, g2⟩ | ⟨g1, g2⟩ <;> rw [g2] <;> omega
          rw [e_g, hs (y + 7) (mo_n (by decide) (by decide)) _, hs (y + 8) (mo_n (by decide) (by decide)) _] at Q
          refine am_E.go (t2 := (155, [vR y, vI sa, vI w, vI t, vI u, vI nn, vI v_k, vI k, vL (c (y + 9) ((40 * u) + k)), vU, v10, v11, v12, v13, v14, v15, v16], [], aq_h m s F c_k)) rfl rfl ?_
          refine ae_iinc rfl rfl (am_ri (by omega) (by omega)) ?_
          show am_E _ (158, [vR y, vI sa, vI w, vI t, vI u, vI nn, vI v_k, vI (k + 1), vL (c (y + 9) ((40 * u) + k)), vU, v10, v11, v12, v13, v14, v15, v16], [], aq_h m s F c_k) _
          refine am_E.go (t2 := (79, [vR y, vI sa, vI w, vI t, vI u, vI nn, vI v_k, vI (k + 1), vL (c (y + 9) ((40 * u) + k)), vU, v10, v11, v12, v13, v14, v15, v16], [], aq_h m s F c_k)) rfl rfl ?_
          exact qx_work_a ⟨hm, hFo, hG5, hG6, hG7, hG8, hG9, hG10, hG11, hG12, hG13, hG14, hG15, hG16, hG17, hG18, hG19, hG20, hG21, hG22, hG23⟩ ⟨hT1, hTt⟩ hI hs0 hs1 ht0 ht1 hu0 hu1 hn1 hn4 hWt hWu hg d v_k (k + 1) (vL (c (y + 9) ((40 * u) + k))) (vU) (v10) (v11) (v12) (v13) (v14) (v15) (v16) c_k (aq_smt hs (aq_smi s_k (fun a h => mo_S3 h))) (by omega) (by omega) (mo_qt hq q_k) (by
      rcases Q with ⟨k1, k2⟩ | ⟨k1, t2, k2, k3⟩
      · refine Or.inl ⟨k1, ?_⟩
        have k5 : sm_j tg (c0 (y + 7) (40 * u + k)) (c0 (y + 8) (40 * u + k)) (g * c0 (y + 9) (40 * u + k)) = none := by unfold sm_J at k2; rw [if_pos kp1u] at k2; exact k2
        rw [← hT2, sj_r, if_pos (show k < c0 (y + 6) u by omega), k5]
        rfl
      · have k5 := sm_Jw k2
        refine Or.inr ⟨k1, t2, sm_jw hw kb0u kb1u kp0u kp1u (by unfold sm_ok; rcases hg with ⟨g1, g2⟩ | ⟨g1, g2⟩ <;> rw [g2] <;> omega) k5.2, k3, ?_⟩
        rw [← hT2, sj_r, if_pos (show k < c0 (y + 6) u by omega), k5.2]
        rfl) (by omega)
