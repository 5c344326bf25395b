/-! The reference: comes beyond 20, work: exactly. Printed by wip/p20/sx/gWC.py. -/

theorem qx_comes_h {m s : Nat} {F : aq_F} {c : aq_C} {y : Nat} (hO : mo_0 m F y) {b p f : Int} (hf0 : f ≠ 0) (hp : 20 < p) : am_E ac_X5_comes (0, [vR y, vI b, vI p, vL f, vU, vU, vU], [], aq_h m s F c) (aq_P m s F c (fun r => r = some (vI 0))) := by
  obtain ⟨hm, hFo, hG5, hG6, hG7, hG8, hG9, hG10, hG11, hG12, hG13, hG14, hG15, hG16, hG17, hG18, hG19, hG20, hG21, hG22, hG23⟩ := hO
  refine am_E.go (t2 := (1, [vR y, vI b, vI p, vL f, vU, vU, vU], [vL f], aq_h m s F c)) rfl rfl ?_
  refine am_E.go (t2 := (2, [vR y, vI b, vI p, vL f, vU, vU, vU], [vL 0, vL f], aq_h m s F c)) rfl rfl ?_
  have ez_1 := am_lcf f 0
  refine am_E.go (t2 := (3, [vR y, vI b, vI p, vL f, vU, vU, vU], [vI (if f < 0 then -1 else if f = 0 then 0 else 1)], aq_h m s F c)) rfl rfl ?_
  generalize (if f < 0 then -1 else if f = 0 then 0 else 1) = z_1 at ez_1 ⊢
  refine ae_if0 rfl (fun (q_2 : z_1 ≠ 0) => ?_) (fun (q_2 : z_1 = 0) => ?_)
  · refine am_E.go (t2 := (9, [vR y, vI b, vI p, vL f, vU, vU, vU], [vI p], aq_h m s F c)) rfl rfl ?_
    refine am_E.go (t2 := (11, [vR y, vI b, vI p, vL f, vU, vU, vU], [vI 20, vI p], aq_h m s F c)) rfl rfl ?_
    refine ae_icmp rfl (fun (q_3 : 20 < p) => ?_) (fun (q_3 : p ≤ 20) => ?_)
    · refine am_E.go (t2 := (28, [vR y, vI b, vI p, vL f, vU, vU, vU], [vI 0], aq_h m s F c)) rfl rfl ?_
      refine am_E.ret rfl rfl ?_
      first | (exfalso; omega) | exact ⟨rfl, rfl⟩
    · refine am_E.go (t2 := (15, [vR y, vI b, vI p, vL f, vU, vU, vU], [vL f], aq_h m s F c)) rfl rfl ?_
      refine am_E.go (t2 := (18, [vR y, vI b, vI p, vL f, vU, vU, vU], [vL (-1000000000000), vL f], aq_h m s F c)) rfl rfl ?_
      refine am_E.go (t2 := (21, [vR y, vI b, vI p, vL f, vU, vU, vU], [vL 1000000000000, vL (-1000000000000), vL f], aq_h m s F c)) rfl rfl ?_
      refine am_E.call rfl rfl rfl (Nat.le_of_ble_eq_true rfl) (qm_in) ?_
      rintro r5 h5 ⟨rfl, v_4, rfl, hv_4⟩
      show am_E _ (24, [vR y, vI b, vI p, vL f, vU, vU, vU], [vI v_4], aq_h m s F c) _
      refine ae_if0 rfl (fun (q_5 : v_4 ≠ 0) => ?_) (fun (q_5 : v_4 = 0) => ?_)
      · refine am_E.go (t2 := (30, [vR y, vI b, vI p, vL f, vU, vU, vU], [vI 0], aq_h m s F c)) rfl rfl ?_
        refine am_E.go (t2 := (32, [vR y, vI b, vI p, vL f, vU, vI 0, vU], [], aq_h m s F c)) rfl rfl ?_
        exfalso
        omega
      · refine am_E.go (t2 := (28, [vR y, vI b, vI p, vL f, vU, vU, vU], [vI 0], aq_h m s F c)) rfl rfl ?_
        refine am_E.ret rfl rfl ?_
        first | (exfalso; omega) | exact ⟨rfl, rfl⟩
  · refine am_E.go (t2 := (7, [vR y, vI b, vI p, vL f, vU, vU, vU], [vI 1], aq_h m s F c)) rfl rfl ?_
    refine am_E.ret rfl rfl ?_
    first | (exfalso; omega) | exact ⟨rfl, rfl⟩

theorem qx_comesJ {m s : Nat} {F : aq_F} {c : aq_C} {y : Nat} (hO : mo_0 m F y) {b p f : Int} (hR1 : 0 ≤ c y 17) (hR2 : c y 17 ≤ 40) (hkf : ∀ i, 0 ≤ i → i < c y 17 → sm_ok (c (y + 17) i)) (hf : sm_ok f) (hf0 : f ≠ 0) : am_E ac_X5_comes (0, [vR y, vI b, vI p, vL f, vU, vU, vU], [], aq_h m s F c) (aq_Z m s F (fun a => a = y ∨ a = y + 15 ∨ a = y + 16 ∨ a = y + 17) c (fun r d => ∃ v, r = some (vI v) ∧ mo_q y c d ∧ ((v = 0 ∧ sm_J (mr_v y c) b p f = none) ∨ (v = 1 ∧ ∃ t2, sm_J (mr_v y c) b p f = some t2 ∧ sm_e t2 (mr_v y d))))) := by
  by_cases hp : p ≤ 20
  · have e : sm_J (mr_v y c) b p f = sm_j (mr_v y c) b p f := by unfold sm_J; rw [if_pos hp]
    rw [e]
    refine am_E.imp (qx_comes hO hR1 hR2 hkf hf hp) ?_
    rintro r5 h5 ⟨d, e1, s1, v, e2, q1, q2⟩
    refine ⟨d, e1, s1, v, e2, q1, ?_⟩
    rcases q2 with ⟨k1, k2, k3⟩ | ⟨k1, k2, k3⟩ | ⟨k1, k2, k3⟩
    · exact absurd k1 hf0
    · exact Or.inl ⟨k2, k3⟩
    · exact Or.inr ⟨k2, k3⟩
  · have e : sm_J (mr_v y c) b p f = none := by unfold sm_J; rw [if_neg hp]
    rw [e]
    refine am_E.imp (qx_comes_h hO hf0 (by omega)) ?_
    rintro r5 h5 ⟨rfl, rfl⟩
    exact ⟨c, rfl, aq_sm0, 0, rfl, mo_q0, Or.inl ⟨rfl, rfl⟩⟩
theorem sm_qJ2 {K b p f v : Int} {t u w : sm_} (hw : sm_w K t) (he : sm_e t u) (q : (v = 0 ∧ sm_J u b p f = none) ∨ (v = 1 ∧ ∃ t2, sm_J u b p f = some t2 ∧ sm_e t2 w)) : (v = 0 ∧ sm_J t b p f = none) ∨ (v = 1 ∧ ∃ t2, sm_J t b p f = some t2 ∧ sm_e t2 w) := by
  rcases q with ⟨k1, k2⟩ | k
  · exact (sm_qJ (w := u) hw he (Or.inl ⟨k1, k2, sm_er⟩)).elim Or.inl (fun h => absurd h.1 (by omega))
  · exact sm_qJ hw he (Or.inr k)
theorem sj_r {y d : Nat} {u : Int} {c : aq_C} {g i : Int} {w : sm_} : sj_ (rf_v y u c) g (d + 1) i w = if i < c (y + 6) u then (sm_j w (c (y + 7) (40 * u + i)) (c (y + 8) (40 * u + i)) (g * c (y + 9) (40 * u + i))).bind (fun t2 => sj_ (rf_v y u c) g d (i + 1) t2) else some w := rfl
theorem sp_r {y d : Nat} {t u : Int} {c : aq_C} {n i j : Int} {w : sm_} : sp_i n (rf_v y t c) (rf_v y u c) i (d + 1) j w = if j < c (y + 6) u then (if pf_ (c (y + 9) (40 * t + i)) (c (y + 9) (40 * u + j)) then (sm_J w (sk_ n (c (y + 7) (40 * t + i)) (c (y + 7) (40 * u + j)) % 1000) (c (y + 8) (40 * t + i) + c (y + 8) (40 * u + j) + sk_ n (c (y + 7) (40 * t + i)) (c (y + 7) (40 * u + j)) / 1000) (c (y + 9) (40 * t + i) * c (y + 9) (40 * u + j))).bind (fun w2 => sp_i n (rf_v y t c) (rf_v y u c) i d (j + 1) w2) else none) else some w := rfl
theorem sp_q {y d : Nat} {t u : Int} {c : aq_C} {n i : Int} {w : sm_} : sp_o n (rf_v y t c) (rf_v y u c) (d + 1) i w = if i < c (y + 6) t then (sp_i n (rf_v y t c) (rf_v y u c) i 41 0 w).bind (fun w2 => sp_o n (rf_v y t c) (rf_v y u c) d (i + 1) w2) else some w := rfl
theorem mr_vs {S : Nat → Prop} {y : Nat} {c d : aq_C} (hs : aq_sm S c d) (hz : d y 17 = c y 17) (h1 : ¬ S (y + 15)) (h2 : ¬ S (y + 16)) (h3 : ¬ S (y + 17)) : mr_v y d = mr_v y c := by
  unfold mr_v
  rw [hz, show d (y + 15) = c (y + 15) from funext (hs _ h1), show d (y + 16) = c (y + 16) from funext (hs _ h2), show d (y + 17) = c (y + 17) from funext (hs _ h3)]

theorem qx_work_a {m s : Nat} {F : aq_F} {c0 : aq_C} {y : Nat} (hO : mo_0 m F y) {tbl : Int → Int} (hT : mo_T F y tbl) (hI : mo_I y c0) {t u w nn sa : Int} (hs0 : 0 ≤ sa) (hs1 : sa < 8) (ht0 : 0 ≤ t) (ht1 : t < 8) (hu0 : 0 ≤ u) (hu1 : u < 8) (hn1 : 1 ≤ nn) (hn4 : nn ≤ 4) (hWt : sm_w (bx_K nn) (rf_v y t c0)) (hWu : sm_w (bx_K nn) (rf_v y u c0)) {T : Option sm_} {g : Int} (hg : (w = 0 ∧ g = 1) ∨ (w ≠ 0 ∧ g = -1)) : ∀ (d : Nat) (x : Int) (k : Int) (v8 : am_V) (v9 : am_V) (v10 : am_V) (v11 : am_V) (v12 : am_V) (v13 : am_V) (v14 : am_V) (v15 : am_V) (v16 : am_V) (c : aq_C) (hs : aq_sm (mo_S y) c0 c) (h0 : 0 ≤ k) (h1 : k ≤ c0 (y + 6) u) (hq : mo_q y c0 c) (hx : (x = 0 ∧ T = none) ∨ (x = 1 ∧ ∃ tg, sm_w (bx_K nn) tg ∧ sm_e tg (mr_v y c) ∧ sj_ (rf_v y u c0) g d k tg = T)) (hd : c0 (y + 6) u - k < (d : Int)), am_E ac_X5_work (79, [vR y, vI sa, vI w, vI t, vI u, vI nn, vI x, vI k, v8, v9, v10, v11, v12, v13, v14, v15, v16], [], aq_h m s F c) (aq_Z m s F (fun a => y ≤ a ∧ a < y + 24) c0 (fun r d => r = some (vI (wk_z T)) ∧ mo_I y d ∧ (∀ i, i ≠ sa → d (y + 5) i = c0 (y + 5) i ∧ d (y + 6) i = c0 (y + 6) i) ∧ (∀ i, (∀ j, 0 ≤ j → j < 40 → i ≠ 40 * sa + j) → d (y + 7) i = c0 (y + 7) i ∧ d (y + 8) i = c0 (y + 8) i ∧ d (y + 9) i = c0 (y + 9) i) ∧ (∀ v, T = some v → d (y + 5) sa = nn ∧ sm_e v (rf_v y sa d)) ∧ (T = none → aq_sm (mo_S y) c0 d)))
  | 0, x, k, v8, v9, v10, v11, v12, v13, v14, v15, v16, c, hs, h0, h1, hq, hx, hd => by exfalso; omega
  | d + 1, x, k, v8, v9, v10, v11, v12, v13, v14, v15, v16, c, hs, h0, h1, hq, hx, hd => by
    obtain ⟨hm, hFo, hG5, hG6, hG7, hG8, hG9, hG10, hG11, hG12, hG13, hG14, hG15, hG16, hG17, hG18, hG19, hG20, hG21, hG22, hG23⟩ := hO
    obtain ⟨hT1, hTt⟩ := hT
    have hzt1 : 0 ≤ c0 (y + 6) t := hWt.1
    have hzt2 : c0 (y + 6) t ≤ 40 := hWt.2.1
    have hzu1 : 0 ≤ c0 (y + 6) u := hWu.1
    have hzu2 : c0 (y + 6) u ≤ 40 := hWu.2.1
    refine am_E.go (t2 := (81, [vR y, vI sa, vI w, vI t, vI u, vI nn, vI x, vI k, v8, v9, v10, v11, v12, v13, v14, v15, v16], [vI k], aq_h m s F c)) rfl rfl ?_
    refine am_E.go (t2 := (82, [vR y, vI sa, vI w, vI t, vI u, vI nn, vI x, vI k, v8, v9, v10, v11, v12, v13, v14, v15, v16], [vR y, vI k], aq_h m s F c)) rfl rfl ?_
    refine aq_gf (v := vR (y + 6)) rfl (by omega) hFo (by decide) rfl ?_
    show am_E _ (85, [vR y, vI sa, vI w, vI t, vI u, vI nn, vI x, vI k, v8, v9, v10, v11, v12, v13, v14, v15, v16], [vR (y + 6), vI k], aq_h m s F c) _
    refine am_E.go (t2 := (87, [vR y, vI sa, vI w, vI t, vI u, vI nn, vI x, vI k, v8, v9, v10, v11, v12, v13, v14, v15, v16], [vI u, vR (y + 6), vI k], aq_h m s F c)) rfl rfl ?_
    refine aq_al (ok := fun k => k == 0) (v := vI (c (y + 6) u)) rfl rfl (by omega) hG6 rfl (by omega) (by omega) rfl ?_
    show am_E _ (88, [vR y, vI sa, vI w, vI t, vI u, vI nn, vI x, vI k, v8, v9, v10, v11, v12, v13, v14, v15, v16], [vI (c (y + 6) u), vI k], aq_h m s F c) _
    have f_1 := hs (y + 6) (mo_n (by decide) (by decide)) u
    refine ae_icmp rfl (fun (q_2 : (c (y + 6) u) ≤ k) => ?_) (fun (q_2 : k < (c (y + 6) u)) => ?_)
    · refine am_E.go (t2 := (163, [vR y, vI sa, vI w, vI t, vI u, vI nn, vI x, vI k, v8, v9, v10, v11, v12, v13, v14, v15, v16], [vI x], aq_h m s F c)) rfl rfl ?_
      refine ae_if0 rfl (fun (q_3 : x = 0) => ?_) (fun (q_3 : x ≠ 0) => ?_)
      · have e_T : T = none := by
          rcases hx with ⟨k1, k2⟩ | ⟨k1, k2⟩
          · exact k2
          · exfalso; omega
        refine am_E.go (t2 := (178, [vR y, vI sa, vI w, vI t, vI u, vI nn, vI x, vI k, v8, v9, v10, v11, v12, v13, v14, v15, v16], [vI (-5)], aq_h m s F c)) rfl rfl ?_
        refine am_E.ret rfl rfl ?_
        rw [e_T]
        exact ⟨_, rfl, aq_smi hs (fun a h => mo_Sa h), rfl, mo_Iw hI hs hq, fun i _ => ⟨hs (y + 5) (mo_n (by decide) (by decide)) _, hs (y + 6) (mo_n (by decide) (by decide)) _⟩, fun i _ => ⟨hs (y + 7) (mo_n (by decide) (by decide)) _, hs (y + 8) (mo_n (by decide) (by decide)) _, hs (y + 9) (mo_n (by decide) (by decide)) _⟩, fun v q => absurd q (by simp), fun _ => hs⟩
      · obtain ⟨tg, hw, he, hT2⟩ : ∃ tg, sm_w (bx_K nn) tg ∧ sm_e tg (mr_v y c) ∧ sj_ (rf_v y u c0) g (d + 1) k tg = T := by
          rcases hx with ⟨k1, k2⟩ | ⟨k1, k2⟩
          · exfalso; omega
          · exact k2
        have z0 : tg.1 = c y 17 := he.1
        have w0 := hw.1
        have w1 := hw.2.1
        have hkf : ∀ i, 0 ≤ i → i < c y 17 → sm_ok (c (y + 17) i) := fun i i0 i1 => by
          have k9 := (hw.2.2.1 i i0 (by omega)).2.2.1
          rw [(he.2 i i0 (by omega)).2.2] at k9
          exact k9
        have e_T : T = some tg := by rw [← hT2, sj_r, if_neg (show ¬ k < c0 (y + 6) u by omega)]
        refine am_E.go (t2 := (167, [vR y, vI sa, vI w, vI t, vI u, vI nn, vI x, vI k, v8, v9, v10, v11, v12, v13, v14, v15, v16], [vR y], aq_h m s F c)) rfl rfl ?_
        refine am_E.go (t2 := (168, [vR y, vI sa, vI w, vI t, vI u, vI nn, vI x, vI k, v8, v9, v10, v11, v12, v13, v14, v15, v16], [vI sa, vR y], aq_h m s F c)) rfl rfl ?_
        refine am_E.go (t2 := (170, [vR y, vI sa, vI w, vI t, vI u, vI nn, vI x, vI k, v8, v9, v10, v11, v12, v13, v14, v15, v16], [vI nn, vI sa, vR y], aq_h m s F c)) rfl rfl ?_
        refine aq_callv (y := 3) (as2 := [vI sa, vI nn]) (rest := []) rfl rfl (by decide) (Nat.le_of_ble_eq_true rfl) rfl rfl (Nat.le_of_ble_eq_true rfl) (by omega) hFo rfl (Nat.le_of_ble_eq_true rfl) (qx_store ⟨hm, hFo, hG5, hG6, hG7, hG8, hG9, hG10, hG11, hG12, hG13, hG14, hG15, hG16, hG17, hG18, hG19, hG20, hG21, hG22, hG23⟩ (by omega) (by omega) hn1 hn4 (mo_Iw hI hs hq) (sm_mr hw he)) ?_
        rintro r5 h5 ⟨c_b, rfl, s_b, rfl, hI_b, b5, b6, b7, b8⟩
        show am_E _ (173, [vR y, vI sa, vI w, vI t, vI u, vI nn, vI x, vI k, v8, v9, v10, v11, v12, v13, v14, v15, v16], [vI (c y 17)], aq_h m s F c_b) _
        refine am_E.go (t2 := (178, [vR y, vI sa, vI w, vI t, vI u, vI nn, vI x, vI k, v8, v9, v10, v11, v12, v13, v14, v15, v16], [vI (c y 17)], aq_h m s F c_b)) rfl rfl ?_
        refine am_E.ret rfl rfl ?_
        rw [e_T]
        refine ⟨_, rfl, (aq_smt (aq_smi hs (fun a h => mo_Sa h)) (aq_smi s_b (fun a h => by omega))), ?_, hI_b, fun i hi => ⟨by rw [b5 i, if_neg hi, hs (y + 5) (mo_n (by decide) (by decide)) _], by rw [b6 i hi, hs (y + 6) (mo_n (by decide) (by decide)) _]⟩, fun i hi => ⟨by rw [(b8 i hi).1, hs (y + 7) (mo_n (by decide) (by decide)) _], by rw [(b8 i hi).2.1, hs (y + 8) (mo_n (by decide) (by decide)) _], by rw [(b8 i hi).2.2, hs (y + 9) (mo_n (by decide) (by decide)) _]⟩, fun v q => ?_, fun q => absurd q (by simp)⟩
        · exact congrArg (fun z => some (vI z)) z0.symm
        · obtain rfl := Option.some.inj q
          exact ⟨by rw [b5 sa, if_pos rfl], sm_et he b7⟩
    · refine am_E.go (t2 := (93, [vR y, vI sa, vI w, vI t, vI u, vI nn, vI x, vI k, v8, v9, v10, v11, v12, v13, v14, v15, v16], [vI x], aq_h m s F c)) rfl rfl ?_
      refine ae_if0 rfl (fun (q_4 : x = 0) => ?_) (fun (q_4 : x ≠ 0) => ?_)
      · refine am_E.go (t2 := (163, [vR y, vI sa, vI w, vI t, vI u, vI nn, vI x, vI k, v8, v9, v10, v11, v12, v13, v14, v15, v16], [vI x], aq_h m s F c)) rfl rfl ?_
        refine ae_if0 rfl (fun (q_5 : x = 0) => ?_) (fun (q_5 : x ≠ 0) => ?_)
        · have e_T : T = none := by
            rcases hx with ⟨k1, k2⟩ | ⟨k1, k2⟩
            · exact k2
            · exfalso; omega
          refine am_E.go (t2 := (178, [vR y, vI sa, vI w, vI t, vI u, vI nn, vI x, vI k, v8, v9, v10, v11, v12, v13, v14, v15, v16], [vI (-5)], aq_h m s F c)) rfl rfl ?_
          refine am_E.ret rfl rfl ?_
          rw [e_T]
          exact ⟨_, rfl, aq_smi hs (fun a h => mo_Sa h), rfl, mo_Iw hI hs hq, fun i _ => ⟨hs (y + 5) (mo_n (by decide) (by decide)) _, hs (y + 6) (mo_n (by decide) (by decide)) _⟩, fun i _ => ⟨hs (y + 7) (mo_n (by decide) (by decide)) _, hs (y + 8) (mo_n (by decide) (by decide)) _, hs (y + 9) (mo_n (by decide) (by decide)) _⟩, fun v q => absurd q (by simp), fun _ => hs⟩
        · obtain ⟨tg, hw, he, hT2⟩ : ∃ tg, sm_w (bx_K nn) tg ∧ sm_e tg (mr_v y c) ∧ sj_ (rf_v y u c0) g (d + 1) k tg = T := by
            rcases hx with ⟨k1, k2⟩ | ⟨k1, k2⟩
            · exfalso; omega
            · exact k2
          have z0 : tg.1 = c y 17 := he.1
          have w0 := hw.1
          have w1 := hw.2.1
          have hkf : ∀ i, 0 ≤ i → i < c y 17 → sm_ok (c (y + 17) i) := fun i i0 i1 => by
            have k9 := (hw.2.2.1 i i0 (by omega)).2.2.1
            rw [(he.2 i i0 (by omega)).2.2] at k9
            exact k9
          have e_T : T = some tg := by rw [← hT2, sj_r, if_neg (show ¬ k < c0 (y + 6) u by omega)]
          refine am_E.go (t2 := (167, [vR y, vI sa, vI w, vI t, vI u, vI nn, vI x, vI k, v8, v9, v10, v11, v12, v13, v14, v15, v16], [vR y], aq_h m s F c)) rfl rfl ?_
          refine am_E.go (t2 := (168, [vR y, vI sa, vI w, vI t, vI u, vI nn, vI x, vI k, v8, v9, v10, v11, v12, v13, v14, v15, v16], [vI sa, vR y], aq_h m s F c)) rfl rfl ?_
          refine am_E.go (t2 := (170, [vR y, vI sa, vI w, vI t, vI u, vI nn, vI x, vI k, v8, v9, v10, v11, v12, v13, v14, v15, v16], [vI nn, vI sa, vR y], aq_h m s F c)) rfl rfl ?_
          refine aq_callv (y := 3) (as2 := [vI sa, vI nn]) (rest := []) rfl rfl (by decide) (Nat.le_of_ble_eq_true rfl) rfl rfl (Nat.le_of_ble_eq_true rfl) (by omega) hFo rfl (Nat.le_of_ble_eq_true rfl) (qx_store ⟨hm, hFo, hG5, hG6, hG7, hG8, hG9, hG10, hG11, hG12, hG13, hG14, hG15, hG16, hG17, hG18, hG19, hG20, hG21, hG22, hG23⟩ (by omega) (by omega) hn1 hn4 (mo_Iw hI hs hq) (sm_mr hw he)) ?_
          rintro r5 h5 ⟨c_b, rfl, s_b, rfl, hI_b, b5, b6, b7, b8⟩
          show am_E _ (173, [vR y, vI sa, vI w, vI t, vI u, vI nn, vI x, vI k, v8, v9, v10, v11, v12, v13, v14, v15, v16], [vI (c y 17)], aq_h m s F c_b) _
          refine am_E.go (t2 := (178, [vR y, vI sa, vI w, vI t, vI u, vI nn, vI x, vI k, v8, v9, v10, v11, v12, v13, v14, v15, v16], [vI (c y 17)], aq_h m s F c_b)) rfl rfl ?_
          refine am_E.ret rfl rfl ?_
          rw [e_T]
          refine ⟨_, rfl, (aq_smt (aq_smi hs (fun a h => mo_Sa h)) (aq_smi s_b (fun a h => by omega))), ?_, hI_b, fun i hi => ⟨by rw [b5 i, if_neg hi, hs (y + 5) (mo_n (by decide) (by decide)) _], by rw [b6 i hi, hs (y + 6) (mo_n (by decide) (by decide)) _]⟩, fun i hi => ⟨by rw [(b8 i hi).1, hs (y + 7) (mo_n (by decide) (by decide)) _], by rw [(b8 i hi).2.1, hs (y + 8) (mo_n (by decide) (by decide)) _], by rw [(b8 i hi).2.2, hs (y + 9) (mo_n (by decide) (by decide)) _]⟩, fun v q => ?_, fun q => absurd q (by simp)⟩
          · exact congrArg (fun z => some (vI z)) z0.symm
          · obtain rfl := Option.some.inj q
            exact ⟨by rw [b5 sa, if_pos rfl], sm_et he b7⟩
      · obtain ⟨tg, hw, he, hT2⟩ : ∃ tg, sm_w (bx_K nn) tg ∧ sm_e tg (mr_v y c) ∧ sj_ (rf_v y u c0) g (d + 1) k tg = T := by
          rcases hx with ⟨k1, k2⟩ | ⟨k1, k2⟩
          · exfalso; omega
          · exact k2
        have z0 : tg.1 = c y 17 := he.1
        have w0 := hw.1
        have w1 := hw.2.1
        have hkf : ∀ i, 0 ≤ i → i < c y 17 → sm_ok (c (y + 17) i) := fun i i0 i1 => by
          have k9 := (hw.2.2.1 i i0 (by omega)).2.2.1
          rw [(he.2 i i0 (by omega)).2.2] at k9
          exact k9
        refine am_E.go (t2 := (97, [vR y, vI sa, vI w, vI t, vI u, vI nn, vI x, vI k, v8, v9, v10, v11, v12, v13, v14, v15, v16], [vR y], aq_h m s F c)) rfl rfl ?_
        refine aq_gf (v := vR (y + 9)) rfl (by omega) hFo (by decide) rfl ?_
        show am_E _ (100, [vR y, vI sa, vI w, vI t, vI u, vI nn, vI x, vI k, v8, v9, v10, v11, v12, v13, v14, v15, v16], [vR (y + 9)], aq_h m s F c) _
        refine am_E.go (t2 := (102, [vR y, vI sa, vI w, vI t, vI u, vI nn, vI x, vI k, v8, v9, v10, v11, v12, v13, v14, v15, v16], [vI 40, vR (y + 9)], aq_h m s F c)) rfl rfl ?_
        refine am_E.go (t2 := (104, [vR y, vI sa, vI w, vI t, vI u, vI nn, vI x, vI k, v8, v9, v10, v11, v12, v13, v14, v15, v16], [vI u, vI 40, vR (y + 9)], aq_h m s F c)) rfl rfl ?_
        refine ae_mul rfl (am_ri (by omega) (by omega)) ?_
        show am_E _ (105, [vR y, vI sa, vI w, vI t, vI u, vI nn, vI x, vI k, v8, v9, v10, v11, v12, v13, v14, v15, v16], [vI (40 * u), vR (y + 9)], aq_h m s F c) _
        refine am_E.go (t2 := (107, [vR y, vI sa, vI w, vI t, vI u, vI nn, vI x, vI k, v8, v9, v10, v11, v12, v13, v14, v15, v16], [vI k, vI (40 * u), vR (y + 9)], aq_h m s F c)) rfl rfl ?_
        refine ae_add rfl (am_ri (by omega) (by omega)) ?_
        show am_E _ (108, [vR y, vI sa, vI w, vI t, vI u, vI nn, vI x, vI k, v8, v9, v10, v11, v12, v13, v14, v15, v16], [vI ((40 * u) + k), vR (y + 9)], aq_h m s F c) _
        refine aq_al (ok := fun k => k == 2) (v := vL (c (y + 9) ((40 * u) + k))) rfl rfl (by omega) hG9 rfl (by omega) (by omega) rfl ?_
        show am_E _ (109, [vR y, vI sa, vI w, vI t, vI u, vI nn, vI x, vI k, v8, v9, v10, v11, v12, v13, v14, v15, v16], [vL (c (y + 9) ((40 * u) + k))], aq_h m s F c) _
        have f_6 := hs (y + 9) (mo_n (by decide) (by decide)) ((40 * u) + k)
        have kku : (0 ≤ c0 (y + 7) (40 * u + k) ∧ c0 (y + 7) (40 * u + k) < bx_K nn) ∧ (0 ≤ c0 (y + 8) (40 * u + k) ∧ c0 (y + 8) (40 * u + k) ≤ 20) ∧ sm_ok (c0 (y + 9) (40 * u + k)) ∧ c0 (y + 9) (40 * u + k) ≠ 0 := hWu.2.2.1 k (by omega) (show k < c0 (y + 6) u by omega)
        obtain ⟨⟨kb0u, kb1u⟩, ⟨kp0u, kp1u⟩, kfu, knu⟩ := kku
        have kgu := kfu
        unfold sm_ok at kgu
        refine am_E.go (t2 := (111, [vR y, vI sa, vI w, vI t, vI u, vI nn, vI x, vI k, vL (c (y + 9) ((40 * u) + k)), vU, v10, v11, v12, v13, v14, v15, v16], [], aq_h m s F c)) rfl rfl ?_
        refine am_E.go (t2 := (112, [vR y, vI sa, vI w, vI t, vI u, vI nn, vI x, vI k, vL (c (y + 9) ((40 * u) + k)), vU, v10, v11, v12, v13, v14, v15, v16], [vR y], aq_h m s F c)) rfl rfl ?_
        refine am_E.go (t2 := (113, [vR y, vI sa, vI w, vI t, vI u, vI nn, vI x, vI k, vL (c (y + 9) ((40 * u) + k)), vU, v10, v11, v12, v13, v14, v15, v16], [vR y, vR y], aq_h m s F c)) rfl rfl ?_
        refine aq_gf (v := vR (y + 7)) rfl (by omega) hFo (by decide) rfl ?_
        show am_E _ (116, [vR y, vI sa, vI w, vI t, vI u, vI nn, vI x, vI k, vL (c (y + 9) ((40 * u) + k)), vU, v10, v11, v12, v13, v14, v15, v16], [vR (y + 7), vR y], aq_h m s F c) _
        refine am_E.go (t2 := (118, [vR y, vI sa, vI w, vI t, vI u, vI nn, vI x, vI k, vL (c (y + 9) ((40 * u) + k)), vU, v10, v11, v12, v13, v14, v15, v16], [vI 40, vR (y + 7), vR y], aq_h m s F c)) rfl rfl ?_
        refine am_E.go (t2 := (120, [vR y, vI sa, vI w, vI t, vI u, vI nn, vI x, vI k, vL (c (y + 9) ((40 * u) + k)), vU, v10, v11, v12, v13, v14, v15, v16], [vI u, vI 40, vR (y + 7), vR y], aq_h m s F c)) rfl rfl ?_
        refine ae_mul rfl (am_ri (by omega) (by omega)) ?_
        show am_E _ (121, [vR y, vI sa, vI w, vI t, vI u, vI nn, vI x, vI k, vL (c (y + 9) ((40 * u) + k)), vU, v10, v11, v12, v13, v14, v15, v16], [vI (40 * u), vR (y + 7), vR y], aq_h m s F c) _
        refine am_E.go (t2 := (123, [vR y, vI sa, vI w, vI t, vI u, vI nn, vI x, vI k, vL (c (y + 9) ((40 * u) + k)), vU, v10, v11, v12, v13, v14, v15, v16], [vI k, vI (40 * u), vR (y + 7), vR y], aq_h m s F c)) rfl rfl ?_
        refine ae_add rfl (am_ri (by omega) (by omega)) ?_
        show am_E _ (124, [vR y, vI sa, vI w, vI t, vI u, vI nn, vI x, vI k, vL (c (y + 9) ((40 * u) + k)), vU, v10, v11, v12, v13, v14, v15, v16], [vI ((40 * u) + k), vR (y + 7), vR y], aq_h m s F c) _
        refine aq_al (ok := fun k => k == 0) (v := vI (c (y + 7) ((40 * u) + k))) rfl rfl (by omega) hG7 rfl (by omega) (by omega) rfl ?_
        show am_E _ (125, [vR y, vI sa, vI w, vI t, vI u, vI nn, vI x, vI k, vL (c (y + 9) ((40 * u) + k)), vU, v10, v11, v12, v13, v14, v15, v16], [vI (c (y + 7) ((40 * u) + k)), vR y], aq_h m s F c) _
        have f_7 := hs (y + 7) (mo_n (by decide) (by decide)) ((40 * u) + k)
        refine am_E.go (t2 := (126, [vR y, vI sa, vI w, vI t, vI u, vI nn, vI x, vI k, vL (c (y + 9) ((40 * u) + k)), vU, v10, v11, v12, v13, v14, v15, v16], [vR y, vI (c (y + 7) ((40 * u) + k)), vR y], aq_h m s F c)) rfl rfl ?_
        refine aq_gf (v := vR (y + 8)) rfl (by omega) hFo (by decide) rfl ?_
        show am_E _ (129, [vR y, vI sa, vI w, vI t, vI u, vI nn, vI x, vI k, vL (c (y + 9) ((40 * u) + k)), vU, v10, v11, v12, v13, v14, v15, v16], [vR (y + 8), vI (c (y + 7) ((40 * u) + k)), vR y], aq_h m s F c) _
        refine am_E.go (t2 := (131, [vR y, vI sa, vI w, vI t, vI u, vI nn, vI x, vI k, vL (c (y + 9) ((40 * u) + k)), vU, v10, v11, v12, v13, v14, v15, v16], [vI 40, vR (y + 8), vI (c (y + 7) ((40 * u) + k)), vR y], aq_h m s F c)) rfl rfl ?_
        refine am_E.go (t2 := (133, [vR y, vI sa, vI w, vI t, vI u, vI nn, vI x, vI k, vL (c (y + 9) ((40 * u) + k)), vU, v10, v11, v12, v13, v14, v15, v16], [vI u, vI 40, vR (y + 8), vI (c (y + 7) ((40 * u) + k)), vR y], aq_h m s F c)) rfl rfl ?_
        refine ae_mul rfl (am_ri (by omega) (by omega)) ?_
        show am_E _ (134, [vR y, vI sa, vI w, vI t, vI u, vI nn, vI x, vI k, vL (c (y + 9) ((40 * u) + k)), vU, v10, v11, v12, v13, v14, v15, v16], [vI (40 * u), vR (y + 8), vI (c (y + 7) ((40 * u) + k)), vR y], aq_h m s F c) _
        refine am_E.go (t2 := (136, [vR y, vI sa, vI w, vI t, vI u, vI nn, vI x, vI k, vL (c (y + 9) ((40 * u) + k)), vU, v10, v11, v12, v13, v14, v15, v16], [vI k, vI (40 * u), vR (y + 8), vI (c (y + 7) ((40 * u) + k)), vR y], aq_h m s F c)) rfl rfl ?_
        refine ae_add rfl (am_ri (by omega) (by omega)) ?_
        show am_E _ (137, [vR y, vI sa, vI w, vI t, vI u, vI nn, vI x, vI k, vL (c (y + 9) ((40 * u) + k)), vU, v10, v11, v12, v13, v14, v15, v16], [vI ((40 * u) + k), vR (y + 8), vI (c (y + 7) ((40 * u) + k)), vR y], aq_h m s F c) _
        refine aq_al (ok := fun k => k == 0) (v := vI (c (y + 8) ((40 * u) + k))) rfl rfl (by omega) hG8 rfl (by omega) (by omega) rfl ?_
        show am_E _ (138, [vR y, vI sa, vI w, vI t, vI u, vI nn, vI x, vI k, vL (c (y + 9) ((40 * u) + k)), vU, v10, v11, v12, v13, v14, v15, v16], [vI (c (y + 8) ((40 * u) + k)), vI (c (y + 7) ((40 * u) + k)), vR y], aq_h m s F c) _
        have f_8 := hs (y + 8) (mo_n (by decide) (by decide)) ((40 * u) + k)
        refine am_E.go (t2 := (139, [vR y, vI sa, vI w, vI t, vI u, vI nn, vI x, vI k, vL (c (y + 9) ((40 * u) + k)), vU, v10, v11, v12, v13, v14, v15, v16], [vI w, vI (c (y + 8) ((40 * u) + k)), vI (c (y + 7) ((40 * u) + k)), vR y], aq_h m s F c)) rfl rfl ?_
        refine ae_if0 rfl (fun (q_9 : w ≠ 0) => ?_) (fun (q_9 : w = 0) => ?_)
        · have e_n : am_wl (-(c (y + 9) (40 * u + k))) = -(c (y + 9) (40 * u + k)) := am_wl_id (am_rl (by omega) (by omega))
          refine am_E.go (t2 := (149, [vR y, vI sa, vI w, vI t, vI u, vI nn, vI x, vI k, vL (c (y + 9) ((40 * u) + k)), vU, v10, v11, v12, v13, v14, v15, v16], [vL (c (y + 9) ((40 * u) + k)), vI (c (y + 8) ((40 * u) + k)), vI (c (y + 7) ((40 * u) + k)), vR y], aq_h m s F c)) rfl rfl ?_
          refine am_E.go (t2 := (150, [vR y, vI sa, vI w, vI t, vI u, vI nn, vI x, vI k, vL (c (y + 9) ((40 * u) + k)), vU, v10, v11, v12, v13, v14, v15, v16], [vL (am_wl (-(c (y + 9) ((40 * u) + k)))), vI (c (y + 8) ((40 * u) + k)), vI (c (y + 7) ((40 * u) + k)), vR y], aq_h m s F c)) rfl rfl ?_
          refine aq_callv (y := 4) (as2 := [vI (c (y + 7) ((40 * u) + k)), vI (c (y + 8) ((40 * u) + k)), vL (am_wl (-(c (y + 9) ((40 * u) + k))))]) (rest := []) rfl rfl (by decide) (Nat.le_of_ble_eq_true rfl) rfl rfl (Nat.le_of_ble_eq_true rfl) (by omega) hFo rfl (Nat.le_of_ble_eq_true rfl) (qx_comesJ ⟨hm, hFo, hG5, hG6, hG7, hG8, hG9, hG10, hG11, hG12, hG13, hG14, hG15, hG16, hG17, hG18, hG19, hG20, hG21, hG22, hG23⟩ (by omega) (by omega) hkf (by unfold sm_ok; omega) (by omega)) ?_
          rintro r5 h5 ⟨c_k, rfl, s_k, v_k, rfl, q_k, r_k⟩
          show am_E _ (153, [vR y, vI sa, vI w, vI t, vI u, vI nn, vI x, vI k, vL (c (y + 9) ((40 * u) + k)), vU, v10, v11, v12, v13, v14, v15, v16], [vI v_k], aq_h m s F c_k) _
          have Q := sm_qJ2 hw he r_k
          have e_g : (am_wl (-(c (y + 9) ((40 * u) + k)))) = g * c0 (y + 9) (40 * u + k) := by rcases hg with ⟨g1, g2⟩ | ⟨g1, g2⟩ <;> rw [g2] <;> omega
          rw [e_g, hs (y + 7) (mo_n (by decide) (by decide)) _, hs (y + 8) (mo_n (by decide) (by decide)) _] at Q
          refine am_E.go (t2 := (155, [vR y, vI sa, vI w, vI t, vI u, vI nn, vI v_k, vI k, vL (c (y + 9) ((40 * u) + k)), vU, v10, v11, v12, v13, v14, v15, v16], [], aq_h m s F c_k)) rfl rfl ?_
          refine ae_iinc rfl rfl (am_ri (by omega) (by omega)) ?_
          show am_E _ (158, [vR y, vI sa, vI w, vI t, vI u, vI nn, vI v_k, vI (k + 1), vL (c (y + 9) ((40 * u) + k)), vU, v10, v11, v12, v13, v14, v15, v16], [], aq_h m s F c_k) _
          refine am_E.go (t2 := (79, [vR y, vI sa, vI w, vI t, vI u, vI nn, vI v_k, vI (k + 1), vL (c (y + 9) ((40 * u) + k)), vU, v10, v11, v12, v13, v14, v15, v16], [], aq_h m s F c_k)) rfl rfl ?_
          exact qx_work_a ⟨hm, hFo, hG5, hG6, hG7, hG8, hG9, hG10, hG11, hG12, hG13, hG14, hG15, hG16, hG17, hG18, hG19, hG20, hG21, hG22, hG23⟩ ⟨hT1, hTt⟩ hI hs0 hs1 ht0 ht1 hu0 hu1 hn1 hn4 hWt hWu hg d v_k (k + 1) (vL (c (y + 9) ((40 * u) + k))) (vU) (v10) (v11) (v12) (v13) (v14) (v15) (v16) c_k (aq_smt hs (aq_smi s_k (fun a h => mo_S3 h))) (by omega) (by omega) (mo_qt hq q_k) (by
      rcases Q with ⟨k1, k2⟩ | ⟨k1, t2, k2, k3⟩
      · refine Or.inl ⟨k1, ?_⟩
        have k5 : sm_j tg (c0 (y + 7) (40 * u + k)) (c0 (y + 8) (40 * u + k)) (g * c0 (y + 9) (40 * u + k)) = none := by unfold sm_J at k2; rw [if_pos kp1u] at k2; exact k2
        rw [← hT2, sj_r, if_pos (show k < c0 (y + 6) u by omega), k5]
        rfl
      · have k5 := sm_Jw k2
        refine Or.inr ⟨k1, t2, sm_jw hw kb0u kb1u kp0u kp1u (by unfold sm_ok; rcases hg with ⟨g1, g2⟩ | ⟨g1, g2⟩ <;> rw [g2] <;> omega) k5.2, k3, ?_⟩
        rw [← hT2, sj_r, if_pos (show k < c0 (y + 6) u by omega), k5.2]
        rfl) (by omega)
        · refine am_E.go (t2 := (144, [vR y, vI sa, vI w, vI t, vI u, vI nn, vI x, vI k, vL (c (y + 9) ((40 * u) + k)), vU, v10, v11, v12, v13, v14, v15, v16], [vL (c (y + 9) ((40 * u) + k)), vI (c (y + 8) ((40 * u) + k)), vI (c (y + 7) ((40 * u) + k)), vR y], aq_h m s F c)) rfl rfl ?_
          refine am_E.go (t2 := (150, [vR y, vI sa, vI w, vI t, vI u, vI nn, vI x, vI k, vL (c (y + 9) ((40 * u) + k)), vU, v10, v11, v12, v13, v14, v15, v16], [vL (c (y + 9) ((40 * u) + k)), vI (c (y + 8) ((40 * u) + k)), vI (c (y + 7) ((40 * u) + k)), vR y], aq_h m s F c)) rfl rfl ?_
          refine aq_callv (y := 4) (as2 := [vI (c (y + 7) ((40 * u) + k)), vI (c (y + 8) ((40 * u) + k)), vL (c (y + 9) ((40 * u) + k))]) (rest := []) rfl rfl (by decide) (Nat.le_of_ble_eq_true rfl) rfl rfl (Nat.le_of_ble_eq_true rfl) (by omega) hFo rfl (Nat.le_of_ble_eq_true rfl) (qx_comesJ ⟨hm, hFo, hG5, hG6, hG7, hG8, hG9, hG10, hG11, hG12, hG13, hG14, hG15, hG16, hG17, hG18, hG19, hG20, hG21, hG22, hG23⟩ (by omega) (by omega) hkf (by unfold sm_ok; omega) (by omega)) ?_
          rintro r5 h5 ⟨c_k, rfl, s_k, v_k, rfl, q_k, r_k⟩
          show am_E _ (153, [vR y, vI sa, vI w, vI t, vI u, vI nn, vI x, vI k, vL (c (y + 9) ((40 * u) + k)), vU, v10, v11, v12, v13, v14, v15, v16], [vI v_k], aq_h m s F c_k) _
          have Q := sm_qJ2 hw he r_k
          have e_g : (c (y + 9) ((40 * u) + k)) = g * c0 (y + 9) (40 * u + k) := by rcases hg with ⟨g1, g2⟩ | ⟨g1, g2⟩ <;> rw [g2] <;> omega
          rw [e_g, hs (y + 7) (mo_n (by decide) (by decide)) _, hs (y + 8) (mo_n (by decide) (by decide)) _] at Q
          refine am_E.go (t2 := (155, [vR y, vI sa, vI w, vI t, vI u, vI nn, vI v_k, vI k, vL (c (y + 9) ((40 * u) + k)), vU, v10, v11, v12, v13, v14, v15, v16], [], aq_h m s F c_k)) rfl rfl ?_
          refine ae_iinc rfl rfl (am_ri (by omega) (by omega)) ?_
          show am_E _ (158, [vR y, vI sa, vI w, vI t, vI u, vI nn, vI v_k, vI (k + 1), vL (c (y + 9) ((40 * u) + k)), vU, v10, v11, v12, v13, v14, v15, v16], [], aq_h m s F c_k) _
          refine am_E.go (t2 := (79, [vR y, vI sa, vI w, vI t, vI u, vI nn, vI v_k, vI (k + 1), vL (c (y + 9) ((40 * u) + k)), vU, v10, v11, v12, v13, v14, v15, v16], [], aq_h m s F c_k)) rfl rfl ?_
          exact qx_work_a ⟨hm, hFo, hG5, hG6, hG7, hG8, hG9, hG10, hG11, hG12, hG13, hG14, hG15, hG16, hG17, hG18, hG19, hG20, hG21, hG22, hG23⟩ ⟨hT1, hTt⟩ hI hs0 hs1 ht0 ht1 hu0 hu1 hn1 hn4 hWt hWu hg d v_k (k + 1) (vL (c (y + 9) ((40 * u) + k))) (vU) (v10) (v11) (v12) (v13) (v14) (v15) (v16) c_k (aq_smt hs (aq_smi s_k (fun a h => mo_S3 h))) (by omega) (by omega) (mo_qt hq q_k) (by
      rcases Q with ⟨k1, k2⟩ | ⟨k1, t2, k2, k3⟩
      · refine Or.inl ⟨k1, ?_⟩
        have k5 : sm_j tg (c0 (y + 7) (40 * u + k)) (c0 (y + 8) (40 * u + k)) (g * c0 (y + 9) (40 * u + k)) = none := by unfold sm_J at k2; rw [if_pos kp1u] at k2; exact k2
        rw [← hT2, sj_r, if_pos (show k < c0 (y + 6) u by omega), k5]
        rfl
      · have k5 := sm_Jw k2
        refine Or.inr ⟨k1, t2, sm_jw hw kb0u kb1u kp0u kp1u (by unfold sm_ok; rcases hg with ⟨g1, g2⟩ | ⟨g1, g2⟩ <;> rw [g2] <;> omega) k5.2, k3, ?_⟩
        rw [← hT2, sj_r, if_pos (show k < c0 (y + 6) u by omega), k5.2]
        rfl) (by omega)
