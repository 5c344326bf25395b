/-! The reference: comes, whole, exactly. Printed by wip/p20/sx/gSY.py. -/

theorem qx_comes_1 {m s : Nat} {F : aq_F} {c : aq_C} {y : Nat} (hO : mo_0 m F y) {b p f : Int} (hR1 : 0 ≤ c y 17) (hR2 : c y 17 ≤ 40) (hkf : ∀ i, 0 ≤ i → i < c y 17 → sm_ok (c (y + 17) i)) (hf : sm_ok f) (hp : p ≤ 20) {T : Int} {Z : Option am_V → am_H → Prop} : ∀ (d : Nat) (k : Int) (v6 : am_V) (h0 : 0 ≤ k) (h1 : k ≤ c y 17) (hq : sm_p (c (y + 15)) (c (y + 16)) (c y 17) b p d k = T) (hd : c y 17 - k < (d : Int)) (K0 : ∀ (k2 : Int) (f0 : 0 ≤ k2) (f1 : k2 ≤ c y 17) (f3 : k2 = T), am_E ac_X5_comes (80, [vR y, vI b, vI p, vL f, vU, vI k2, v6], [], aq_h m s F c) Z), am_E ac_X5_comes (32, [vR y, vI b, vI p, vL f, vU, vI k, v6], [], aq_h m s F c) Z
  | 0, k, v6, h0, h1, hq, hd, K0 => by exfalso; omega
  | d + 1, k, v6, h0, h1, hq, hd, K0 => by
    obtain ⟨hm, hFo, hG5, hG6, hG7, hG8, hG9, hG10, hG11, hG12, hG13, hG14, hG15, hG16, hG17, hG18, hG19, hG20, hG21, hG22, hG23⟩ := hO
    refine am_E.go (t2 := (34, [vR y, vI b, vI p, vL f, vU, vI k, v6], [vI k], aq_h m s F c)) rfl rfl ?_
    refine am_E.go (t2 := (35, [vR y, vI b, vI p, vL f, vU, vI k, v6], [vR y, vI k], aq_h m s F c)) rfl rfl ?_
    refine aq_gf (v := vI (c y 17)) rfl (by omega) hFo (by decide) rfl ?_
    show am_E _ (38, [vR y, vI b, vI p, vL f, vU, vI k, v6], [vI (c y 17), vI k], aq_h m s F c) _
    skip
    refine ae_icmp rfl (fun (q_2 : (c y 17) ≤ k) => ?_) (fun (q_2 : k < (c y 17)) => ?_)
    · exact K0 k (by omega) (by omega) (by rw [← hq, sm_p, if_neg (by omega)])
    · refine am_E.go (t2 := (42, [vR y, vI b, vI p, vL f, vU, vI k, v6], [vR y], aq_h m s F c)) rfl rfl ?_
      refine aq_gf (v := vR (y + 15)) rfl (by omega) hFo (by decide) rfl ?_
      show am_E _ (45, [vR y, vI b, vI p, vL f, vU, vI k, v6], [vR (y + 15)], aq_h m s F c) _
      refine am_E.go (t2 := (47, [vR y, vI b, vI p, vL f, vU, vI k, v6], [vI k, vR (y + 15)], aq_h m s F c)) rfl rfl ?_
      refine aq_al (ok := fun k => k == 0) (v := vI (c (y + 15) k)) rfl rfl (by omega) hG15 rfl (by omega) (by omega) rfl ?_
      show am_E _ (48, [vR y, vI b, vI p, vL f, vU, vI k, v6], [vI (c (y + 15) k)], aq_h m s F c) _
      refine am_E.go (t2 := (49, [vR y, vI b, vI p, vL f, vU, vI k, v6], [vI b, vI (c (y + 15) k)], aq_h m s F c)) rfl rfl ?_
      refine ae_icmp rfl (fun (q_3 : (c (y + 15) k) < b) => ?_) (fun (q_3 : b ≤ (c (y + 15) k)) => ?_)
      · refine ae_iinc rfl rfl (am_ri (by omega) (by omega)) ?_
        show am_E _ (77, [vR y, vI b, vI p, vL f, vU, vI (k + 1), v6], [], aq_h m s F c) _
        refine am_E.go (t2 := (32, [vR y, vI b, vI p, vL f, vU, vI (k + 1), v6], [], aq_h m s F c)) rfl rfl ?_
        exact qx_comes_1 ⟨hm, hFo, hG5, hG6, hG7, hG8, hG9, hG10, hG11, hG12, hG13, hG14, hG15, hG16, hG17, hG18, hG19, hG20, hG21, hG22, hG23⟩ hR1 hR2 hkf hf hp d (k + 1) (v6) (by omega) (by omega) (by rw [← hq, sm_p, if_pos (by omega)]) (by omega) K0
      · refine am_E.go (t2 := (53, [vR y, vI b, vI p, vL f, vU, vI k, v6], [vR y], aq_h m s F c)) rfl rfl ?_
        refine aq_gf (v := vR (y + 15)) rfl (by omega) hFo (by decide) rfl ?_
        show am_E _ (56, [vR y, vI b, vI p, vL f, vU, vI k, v6], [vR (y + 15)], aq_h m s F c) _
        refine am_E.go (t2 := (58, [vR y, vI b, vI p, vL f, vU, vI k, v6], [vI k, vR (y + 15)], aq_h m s F c)) rfl rfl ?_
        refine aq_al (ok := fun k => k == 0) (v := vI (c (y + 15) k)) rfl rfl (by omega) hG15 rfl (by omega) (by omega) rfl ?_
        show am_E _ (59, [vR y, vI b, vI p, vL f, vU, vI k, v6], [vI (c (y + 15) k)], aq_h m s F c) _
        refine am_E.go (t2 := (60, [vR y, vI b, vI p, vL f, vU, vI k, v6], [vI b, vI (c (y + 15) k)], aq_h m s F c)) rfl rfl ?_
        refine ae_icmp rfl (fun (q_4 : (c (y + 15) k) ≠ b) => ?_) (fun (q_4 : (c (y + 15) k) = b) => ?_)
        · exact K0 k (by omega) (by omega) (by rw [← hq, sm_p, if_neg (by omega)])
        · refine am_E.go (t2 := (64, [vR y, vI b, vI p, vL f, vU, vI k, v6], [vR y], aq_h m s F c)) rfl rfl ?_
          refine aq_gf (v := vR (y + 16)) rfl (by omega) hFo (by decide) rfl ?_
          show am_E _ (67, [vR y, vI b, vI p, vL f, vU, vI k, v6], [vR (y + 16)], aq_h m s F c) _
          refine am_E.go (t2 := (69, [vR y, vI b, vI p, vL f, vU, vI k, v6], [vI k, vR (y + 16)], aq_h m s F c)) rfl rfl ?_
          refine aq_al (ok := fun k => k == 0) (v := vI (c (y + 16) k)) rfl rfl (by omega) hG16 rfl (by omega) (by omega) rfl ?_
          show am_E _ (70, [vR y, vI b, vI p, vL f, vU, vI k, v6], [vI (c (y + 16) k)], aq_h m s F c) _
          refine am_E.go (t2 := (71, [vR y, vI b, vI p, vL f, vU, vI k, v6], [vI p, vI (c (y + 16) k)], aq_h m s F c)) rfl rfl ?_
          refine ae_icmp rfl (fun (q_5 : p ≤ (c (y + 16) k)) => ?_) (fun (q_5 : (c (y + 16) k) < p) => ?_)
          · exact K0 k (by omega) (by omega) (by rw [← hq, sm_p, if_neg (by omega)])
          · refine ae_iinc rfl rfl (am_ri (by omega) (by omega)) ?_
            show am_E _ (77, [vR y, vI b, vI p, vL f, vU, vI (k + 1), v6], [], aq_h m s F c) _
            refine am_E.go (t2 := (32, [vR y, vI b, vI p, vL f, vU, vI (k + 1), v6], [], aq_h m s F c)) rfl rfl ?_
            exact qx_comes_1 ⟨hm, hFo, hG5, hG6, hG7, hG8, hG9, hG10, hG11, hG12, hG13, hG14, hG15, hG16, hG17, hG18, hG19, hG20, hG21, hG22, hG23⟩ hR1 hR2 hkf hf hp d (k + 1) (v6) (by omega) (by omega) (by rw [← hq, sm_p, if_pos (by omega)]) (by omega) K0

theorem qx_comes {m s : Nat} {F : aq_F} {c : aq_C} {y : Nat} (hO : mo_0 m F y) {b p f : Int} (hR1 : 0 ≤ c y 17) (hR2 : c y 17 ≤ 40) (hkf : ∀ i, 0 ≤ i → i < c y 17 → sm_ok (c (y + 17) i)) (hf : sm_ok f) (hp : p ≤ 20) : am_E ac_X5_comes (0, [vR y, vI b, vI p, vL f, vU, vU, vU], [], aq_h m s F c) (aq_Z m s F (fun a => a = y ∨ a = y + 15 ∨ a = y + 16 ∨ a = y + 17) c (fun r d => ∃ v, r = some (vI v) ∧ mo_q y c d ∧ ((f = 0 ∧ v = 1 ∧ sm_e (mr_v y c) (mr_v y d)) ∨ (f ≠ 0 ∧ v = 0 ∧ sm_j (mr_v y c) b p f = none) ∨ (f ≠ 0 ∧ v = 1 ∧ ∃ t2, sm_j (mr_v y c) b p f = some t2 ∧ sm_e t2 (mr_v y d))))) := by
  obtain ⟨hm, hFo, hG5, hG6, hG7, hG8, hG9, hG10, hG11, hG12, hG13, hG14, hG15, hG16, hG17, hG18, hG19, hG20, hG21, hG22, hG23⟩ := hO
  refine am_E.go (t2 := (1, [vR y, vI b, vI p, vL f, vU, vU, vU], [vL f], aq_h m s F c)) rfl rfl ?_
  refine am_E.go (t2 := (2, [vR y, vI b, vI p, vL f, vU, vU, vU], [vL 0, vL f], aq_h m s F c)) rfl rfl ?_
  have ez_1 := am_lcf f 0
  refine am_E.go (t2 := (3, [vR y, vI b, vI p, vL f, vU, vU, vU], [vI (if f < 0 then -1 else if f = 0 then 0 else 1)], aq_h m s F c)) rfl rfl ?_
  generalize (if f < 0 then -1 else if f = 0 then 0 else 1) = z_1 at ez_1 ⊢
  refine ae_if0 rfl (fun (q_2 : z_1 ≠ 0) => ?_) (fun (q_2 : z_1 = 0) => ?_)
  · refine am_E.go (t2 := (9, [vR y, vI b, vI p, vL f, vU, vU, vU], [vI p], aq_h m s F c)) rfl rfl ?_
    refine am_E.go (t2 := (11, [vR y, vI b, vI p, vL f, vU, vU, vU], [vI 20, vI p], aq_h m s F c)) rfl rfl ?_
    refine ae_icmp rfl (fun (q_3 : 20 < p) => ?_) (fun (q_3 : p ≤ 20) => ?_)
    · refine am_E.go (t2 := (28, [vR y, vI b, vI p, vL f, vU, vU, vU], [vI 0], aq_h m s F c)) rfl rfl ?_
      refine am_E.ret rfl rfl ?_
      exfalso
      unfold sm_ok at hf
      omega
    · refine am_E.go (t2 := (15, [vR y, vI b, vI p, vL f, vU, vU, vU], [vL f], aq_h m s F c)) rfl rfl ?_
      refine am_E.go (t2 := (18, [vR y, vI b, vI p, vL f, vU, vU, vU], [vL (-1000000000000), vL f], aq_h m s F c)) rfl rfl ?_
      refine am_E.go (t2 := (21, [vR y, vI b, vI p, vL f, vU, vU, vU], [vL 1000000000000, vL (-1000000000000), vL f], aq_h m s F c)) rfl rfl ?_
      refine am_E.call rfl rfl rfl (Nat.le_of_ble_eq_true rfl) (qm_in) ?_
      rintro r5 h5 ⟨rfl, v_4, rfl, hv_4⟩
      show am_E _ (24, [vR y, vI b, vI p, vL f, vU, vU, vU], [vI v_4], aq_h m s F c) _
      refine ae_if0 rfl (fun (q_5 : v_4 ≠ 0) => ?_) (fun (q_5 : v_4 = 0) => ?_)
      · refine am_E.go (t2 := (30, [vR y, vI b, vI p, vL f, vU, vU, vU], [vI 0], aq_h m s F c)) rfl rfl ?_
        refine am_E.go (t2 := (32, [vR y, vI b, vI p, vL f, vU, vI 0, vU], [], aq_h m s F c)) rfl rfl ?_
        refine qx_comes_1 ⟨hm, hFo, hG5, hG6, hG7, hG8, hG9, hG10, hG11, hG12, hG13, hG14, hG15, hG16, hG17, hG18, hG19, hG20, hG21, hG22, hG23⟩ hR1 hR2 hkf hf hp 41 0 (vU) (by omega) (by omega) rfl (by omega) ?_
        · intro k2_32 f0_32 f1_32 f3_32
          refine am_E.go (t2 := (82, [vR y, vI b, vI p, vL f, vU, vI k2_32, vU], [vI k2_32], aq_h m s F c)) rfl rfl ?_
          refine am_E.go (t2 := (83, [vR y, vI b, vI p, vL f, vU, vI k2_32, vU], [vR y, vI k2_32], aq_h m s F c)) rfl rfl ?_
          refine aq_gf (v := vI (c y 17)) rfl (by omega) hFo (by decide) rfl ?_
          show am_E _ (86, [vR y, vI b, vI p, vL f, vU, vI k2_32, vU], [vI (c y 17), vI k2_32], aq_h m s F c) _
          skip
          refine ae_icmp rfl (fun (q_8 : (c y 17) ≤ k2_32) => ?_) (fun (q_8 : k2_32 < (c y 17)) => ?_)
          · refine am_E.go (t2 := (193, [vR y, vI b, vI p, vL f, vU, vI k2_32, vU], [vR y], aq_h m s F c)) rfl rfl ?_
            refine aq_gf (v := vI (c y 17)) rfl (by omega) hFo (by decide) rfl ?_
            show am_E _ (196, [vR y, vI b, vI p, vL f, vU, vI k2_32, vU], [vI (c y 17)], aq_h m s F c) _
            skip
            refine am_E.go (t2 := (198, [vR y, vI b, vI p, vL f, vU, vI k2_32, vU], [vI 40, vI (c y 17)], aq_h m s F c)) rfl rfl ?_
            refine ae_icmp rfl (fun (q_10 : (c y 17) ≠ 40) => ?_) (fun (q_10 : (c y 17) = 40) => ?_)
            · refine am_E.go (t2 := (204, [vR y, vI b, vI p, vL f, vU, vI k2_32, vU], [vR y], aq_h m s F c)) rfl rfl ?_
              refine aq_gf (v := vI (c y 17)) rfl (by omega) hFo (by decide) rfl ?_
              show am_E _ (207, [vR y, vI b, vI p, vL f, vU, vI k2_32, vU], [vI (c y 17)], aq_h m s F c) _
              skip
              refine am_E.go (t2 := (209, [vR y, vI b, vI p, vL f, vU, vI k2_32, vI (c y 17)], [], aq_h m s F c)) rfl rfl ?_
              obtain ⟨T_, eT⟩ : ∃ T_, T_ = sm_p (c (y + 15)) (c (y + 16)) (c y 17) b p 41 0 := ⟨_, rfl⟩
              have eI : k2_32 = T_ := by rw [eT]; assumption
              have ej : sm_j (mr_v y c) b p f = (if T_ < c y 17 ∧ c (y + 15) T_ = b ∧ c (y + 16) T_ = p then (if sm_ok (c (y + 17) T_ + f) then (if c (y + 17) T_ + f = 0 then some (c y 17 - 1, sm_d (c (y + 15)) T_, sm_d (c (y + 16)) T_, sm_d (c (y + 17)) T_) else some (c y 17, c (y + 15), c (y + 16), sm_s (c (y + 17)) T_ (c (y + 17) T_ + f))) else none) else if f = 0 then some (mr_v y c) else if 40 ≤ c y 17 then none else some (c y 17 + 1, sm_i (c (y + 15)) T_ b, sm_i (c (y + 16)) T_ p, sm_i (c (y + 17)) T_ f)) := by rw [eT]; rfl
              rw [if_neg (by rw [← eI]; omega), if_neg (by omega), if_neg (by omega), ← eI] at ej
              have hz_e : c y 17 = c y 17 := rfl
              have hq_e : mo_q y c c := mo_q0
              refine am_E.imp (qx_comes_3 ⟨hm, hFo, hG5, hG6, hG7, hG8, hG9, hG10, hG11, hG12, hG13, hG14, hG15, hG16, hG17, hG18, hG19, hG20, hG21, hG22, hG23⟩ (B := c (y + 15)) (P := c (y + 16)) (Q := c (y + 17)) (by omega) (by omega) 42 (c y 17) c (aq_sm0 (c := c) (S := (fun a => a = y ∨ a = y + 15 ∨ a = y + 16 ∨ a = y + 17))) hz_e hq_e (by omega) (by omega) (fun j h5 h6 => ⟨fun q => absurd q (by omega), fun _ _ => ⟨rfl, rfl, rfl⟩⟩) (by omega)) ?_
              rintro r5 h5 ⟨d5, e5, s5, q5, i5, z5⟩
              exact ⟨d5, e5, s5, 1, q5, i5, Or.inr (Or.inr ⟨by omega, rfl, _, ej, z5⟩)⟩
            · refine am_E.go (t2 := (202, [vR y, vI b, vI p, vL f, vU, vI k2_32, vU], [vI 0], aq_h m s F c)) rfl rfl ?_
              refine am_E.ret rfl rfl ?_
              obtain ⟨T_, eT⟩ : ∃ T_, T_ = sm_p (c (y + 15)) (c (y + 16)) (c y 17) b p 41 0 := ⟨_, rfl⟩
              have eI : k2_32 = T_ := by rw [eT]; assumption
              have ej : sm_j (mr_v y c) b p f = (if T_ < c y 17 ∧ c (y + 15) T_ = b ∧ c (y + 16) T_ = p then (if sm_ok (c (y + 17) T_ + f) then (if c (y + 17) T_ + f = 0 then some (c y 17 - 1, sm_d (c (y + 15)) T_, sm_d (c (y + 16)) T_, sm_d (c (y + 17)) T_) else some (c y 17, c (y + 15), c (y + 16), sm_s (c (y + 17)) T_ (c (y + 17) T_ + f))) else none) else if f = 0 then some (mr_v y c) else if 40 ≤ c y 17 then none else some (c y 17 + 1, sm_i (c (y + 15)) T_ b, sm_i (c (y + 16)) T_ p, sm_i (c (y + 17)) T_ f)) := by rw [eT]; rfl
              rw [if_neg (by rw [← eI]; omega), if_neg (by omega), if_pos (by omega)] at ej
              exact ⟨_, rfl, (aq_sm0 (c := c) (S := (fun a => a = y ∨ a = y + 15 ∨ a = y + 16 ∨ a = y + 17))), 0, rfl, mo_q0, Or.inr (Or.inl ⟨by omega, rfl, ej⟩)⟩
          · refine am_E.go (t2 := (90, [vR y, vI b, vI p, vL f, vU, vI k2_32, vU], [vR y], aq_h m s F c)) rfl rfl ?_
            refine aq_gf (v := vR (y + 15)) rfl (by omega) hFo (by decide) rfl ?_
            show am_E _ (93, [vR y, vI b, vI p, vL f, vU, vI k2_32, vU], [vR (y + 15)], aq_h m s F c) _
            refine am_E.go (t2 := (95, [vR y, vI b, vI p, vL f, vU, vI k2_32, vU], [vI k2_32, vR (y + 15)], aq_h m s F c)) rfl rfl ?_
            refine aq_al (ok := fun k => k == 0) (v := vI (c (y + 15) k2_32)) rfl rfl (by omega) hG15 rfl (by omega) (by omega) rfl ?_
            show am_E _ (96, [vR y, vI b, vI p, vL f, vU, vI k2_32, vU], [vI (c (y + 15) k2_32)], aq_h m s F c) _
            refine am_E.go (t2 := (97, [vR y, vI b, vI p, vL f, vU, vI k2_32, vU], [vI b, vI (c (y + 15) k2_32)], aq_h m s F c)) rfl rfl ?_
            refine ae_icmp rfl (fun (q_12 : (c (y + 15) k2_32) ≠ b) => ?_) (fun (q_12 : (c (y + 15) k2_32) = b) => ?_)
            · refine am_E.go (t2 := (193, [vR y, vI b, vI p, vL f, vU, vI k2_32, vU], [vR y], aq_h m s F c)) rfl rfl ?_
              refine aq_gf (v := vI (c y 17)) rfl (by omega) hFo (by decide) rfl ?_
              show am_E _ (196, [vR y, vI b, vI p, vL f, vU, vI k2_32, vU], [vI (c y 17)], aq_h m s F c) _
              skip
              refine am_E.go (t2 := (198, [vR y, vI b, vI p, vL f, vU, vI k2_32, vU], [vI 40, vI (c y 17)], aq_h m s F c)) rfl rfl ?_
              refine ae_icmp rfl (fun (q_14 : (c y 17) ≠ 40) => ?_) (fun (q_14 : (c y 17) = 40) => ?_)
              · refine am_E.go (t2 := (204, [vR y, vI b, vI p, vL f, vU, vI k2_32, vU], [vR y], aq_h m s F c)) rfl rfl ?_
                refine aq_gf (v := vI (c y 17)) rfl (by omega) hFo (by decide) rfl ?_
                show am_E _ (207, [vR y, vI b, vI p, vL f, vU, vI k2_32, vU], [vI (c y 17)], aq_h m s F c) _
                skip
                refine am_E.go (t2 := (209, [vR y, vI b, vI p, vL f, vU, vI k2_32, vI (c y 17)], [], aq_h m s F c)) rfl rfl ?_
                obtain ⟨T_, eT⟩ : ∃ T_, T_ = sm_p (c (y + 15)) (c (y + 16)) (c y 17) b p 41 0 := ⟨_, rfl⟩
                have eI : k2_32 = T_ := by rw [eT]; assumption
                have ej : sm_j (mr_v y c) b p f = (if T_ < c y 17 ∧ c (y + 15) T_ = b ∧ c (y + 16) T_ = p then (if sm_ok (c (y + 17) T_ + f) then (if c (y + 17) T_ + f = 0 then some (c y 17 - 1, sm_d (c (y + 15)) T_, sm_d (c (y + 16)) T_, sm_d (c (y + 17)) T_) else some (c y 17, c (y + 15), c (y + 16), sm_s (c (y + 17)) T_ (c (y + 17) T_ + f))) else none) else if f = 0 then some (mr_v y c) else if 40 ≤ c y 17 then none else some (c y 17 + 1, sm_i (c (y + 15)) T_ b, sm_i (c (y + 16)) T_ p, sm_i (c (y + 17)) T_ f)) := by rw [eT]; rfl
                rw [if_neg (by rw [← eI]; omega), if_neg (by omega), if_neg (by omega), ← eI] at ej
                have hz_e : c y 17 = c y 17 := rfl
                have hq_e : mo_q y c c := mo_q0
                refine am_E.imp (qx_comes_3 ⟨hm, hFo, hG5, hG6, hG7, hG8, hG9, hG10, hG11, hG12, hG13, hG14, hG15, hG16, hG17, hG18, hG19, hG20, hG21, hG22, hG23⟩ (B := c (y + 15)) (P := c (y + 16)) (Q := c (y + 17)) (by omega) (by omega) 42 (c y 17) c (aq_sm0 (c := c) (S := (fun a => a = y ∨ a = y + 15 ∨ a = y + 16 ∨ a = y + 17))) hz_e hq_e (by omega) (by omega) (fun j h5 h6 => ⟨fun q => absurd q (by omega), fun _ _ => ⟨rfl, rfl, rfl⟩⟩) (by omega)) ?_
                rintro r5 h5 ⟨d5, e5, s5, q5, i5, z5⟩
                exact ⟨d5, e5, s5, 1, q5, i5, Or.inr (Or.inr ⟨by omega, rfl, _, ej, z5⟩)⟩
              · refine am_E.go (t2 := (202, [vR y, vI b, vI p, vL f, vU, vI k2_32, vU], [vI 0], aq_h m s F c)) rfl rfl ?_
                refine am_E.ret rfl rfl ?_
                obtain ⟨T_, eT⟩ : ∃ T_, T_ = sm_p (c (y + 15)) (c (y + 16)) (c y 17) b p 41 0 := ⟨_, rfl⟩
                have eI : k2_32 = T_ := by rw [eT]; assumption
                have ej : sm_j (mr_v y c) b p f = (if T_ < c y 17 ∧ c (y + 15) T_ = b ∧ c (y + 16) T_ = p then (if sm_ok (c (y + 17) T_ + f) then (if c (y + 17) T_ + f = 0 then some (c y 17 - 1, sm_d (c (y + 15)) T_, sm_d (c (y + 16)) T_, sm_d (c (y + 17)) T_) else some (c y 17, c (y + 15), c (y + 16), sm_s (c (y + 17)) T_ (c (y + 17) T_ + f))) else none) else if f = 0 then some (mr_v y c) else if 40 ≤ c y 17 then none else some (c y 17 + 1, sm_i (c (y + 15)) T_ b, sm_i (c (y + 16)) T_ p, sm_i (c (y + 17)) T_ f)) := by rw [eT]; rfl
                rw [if_neg (by rw [← eI]; omega), if_neg (by omega), if_pos (by omega)] at ej
                exact ⟨_, rfl, (aq_sm0 (c := c) (S := (fun a => a = y ∨ a = y + 15 ∨ a = y + 16 ∨ a = y + 17))), 0, rfl, mo_q0, Or.inr (Or.inl ⟨by omega, rfl, ej⟩)⟩
            · refine am_E.go (t2 := (101, [vR y, vI b, vI p, vL f, vU, vI k2_32, vU], [vR y], aq_h m s F c)) rfl rfl ?_
              refine aq_gf (v := vR (y + 16)) rfl (by omega) hFo (by decide) rfl ?_
              show am_E _ (104, [vR y, vI b, vI p, vL f, vU, vI k2_32, vU], [vR (y + 16)], aq_h m s F c) _
              refine am_E.go (t2 := (106, [vR y, vI b, vI p, vL f, vU, vI k2_32, vU], [vI k2_32, vR (y + 16)], aq_h m s F c)) rfl rfl ?_
              refine aq_al (ok := fun k => k == 0) (v := vI (c (y + 16) k2_32)) rfl rfl (by omega) hG16 rfl (by omega) (by omega) rfl ?_
              show am_E _ (107, [vR y, vI b, vI p, vL f, vU, vI k2_32, vU], [vI (c (y + 16) k2_32)], aq_h m s F c) _
              refine am_E.go (t2 := (108, [vR y, vI b, vI p, vL f, vU, vI k2_32, vU], [vI p, vI (c (y + 16) k2_32)], aq_h m s F c)) rfl rfl ?_
              refine ae_icmp rfl (fun (q_16 : (c (y + 16) k2_32) ≠ p) => ?_) (fun (q_16 : (c (y + 16) k2_32) = p) => ?_)
              · refine am_E.go (t2 := (193, [vR y, vI b, vI p, vL f, vU, vI k2_32, vU], [vR y], aq_h m s F c)) rfl rfl ?_
                refine aq_gf (v := vI (c y 17)) rfl (by omega) hFo (by decide) rfl ?_
                show am_E _ (196, [vR y, vI b, vI p, vL f, vU, vI k2_32, vU], [vI (c y 17)], aq_h m s F c) _
                skip
                refine am_E.go (t2 := (198, [vR y, vI b, vI p, vL f, vU, vI k2_32, vU], [vI 40, vI (c y 17)], aq_h m s F c)) rfl rfl ?_
                refine ae_icmp rfl (fun (q_18 : (c y 17) ≠ 40) => ?_) (fun (q_18 : (c y 17) = 40) => ?_)
                · refine am_E.go (t2 := (204, [vR y, vI b, vI p, vL f, vU, vI k2_32, vU], [vR y], aq_h m s F c)) rfl rfl ?_
                  refine aq_gf (v := vI (c y 17)) rfl (by omega) hFo (by decide) rfl ?_
                  show am_E _ (207, [vR y, vI b, vI p, vL f, vU, vI k2_32, vU], [vI (c y 17)], aq_h m s F c) _
                  skip
                  refine am_E.go (t2 := (209, [vR y, vI b, vI p, vL f, vU, vI k2_32, vI (c y 17)], [], aq_h m s F c)) rfl rfl ?_
                  obtain ⟨T_, eT⟩ : ∃ T_, T_ = sm_p (c (y + 15)) (c (y + 16)) (c y 17) b p 41 0 := ⟨_, rfl⟩
                  have eI : k2_32 = T_ := by rw [eT]; assumption
                  have ej : sm_j (mr_v y c) b p f = (if T_ < c y 17 ∧ c (y + 15) T_ = b ∧ c (y + 16) T_ = p then (if sm_ok (c (y + 17) T_ + f) then (if c (y + 17) T_ + f = 0 then some (c y 17 - 1, sm_d (c (y + 15)) T_, sm_d (c (y + 16)) T_, sm_d (c (y + 17)) T_) else some (c y 17, c (y + 15), c (y + 16), sm_s (c (y + 17)) T_ (c (y + 17) T_ + f))) else none) else if f = 0 then some (mr_v y c) else if 40 ≤ c y 17 then none else some (c y 17 + 1, sm_i (c (y + 15)) T_ b, sm_i (c (y + 16)) T_ p, sm_i (c (y + 17)) T_ f)) := by rw [eT]; rfl
                  rw [if_neg (by rw [← eI]; omega), if_neg (by omega), if_neg (by omega), ← eI] at ej
                  have hz_e : c y 17 = c y 17 := rfl
                  have hq_e : mo_q y c c := mo_q0
                  refine am_E.imp (qx_comes_3 ⟨hm, hFo, hG5, hG6, hG7, hG8, hG9, hG10, hG11, hG12, hG13, hG14, hG15, hG16, hG17, hG18, hG19, hG20, hG21, hG22, hG23⟩ (B := c (y + 15)) (P := c (y + 16)) (Q := c (y + 17)) (by omega) (by omega) 42 (c y 17) c (aq_sm0 (c := c) (S := (fun a => a = y ∨ a = y + 15 ∨ a = y + 16 ∨ a = y + 17))) hz_e hq_e (by omega) (by omega) (fun j h5 h6 => ⟨fun q => absurd q (by omega), fun _ _ => ⟨rfl, rfl, rfl⟩⟩) (by omega)) ?_
                  rintro r5 h5 ⟨d5, e5, s5, q5, i5, z5⟩
                  exact ⟨d5, e5, s5, 1, q5, i5, Or.inr (Or.inr ⟨by omega, rfl, _, ej, z5⟩)⟩
                · refine am_E.go (t2 := (202, [vR y, vI b, vI p, vL f, vU, vI k2_32, vU], [vI 0], aq_h m s F c)) rfl rfl ?_
                  refine am_E.ret rfl rfl ?_
                  obtain ⟨T_, eT⟩ : ∃ T_, T_ = sm_p (c (y + 15)) (c (y + 16)) (c y 17) b p 41 0 := ⟨_, rfl⟩
                  have eI : k2_32 = T_ := by rw [eT]; assumption
                  have ej : sm_j (mr_v y c) b p f = (if T_ < c y 17 ∧ c (y + 15) T_ = b ∧ c (y + 16) T_ = p then (if sm_ok (c (y + 17) T_ + f) then (if c (y + 17) T_ + f = 0 then some (c y 17 - 1, sm_d (c (y + 15)) T_, sm_d (c (y + 16)) T_, sm_d (c (y + 17)) T_) else some (c y 17, c (y + 15), c (y + 16), sm_s (c (y + 17)) T_ (c (y + 17) T_ + f))) else none) else if f = 0 then some (mr_v y c) else if 40 ≤ c y 17 then none else some (c y 17 + 1, sm_i (c (y + 15)) T_ b, sm_i (c (y + 16)) T_ p, sm_i (c (y + 17)) T_ f)) := by rw [eT]; rfl
                  rw [if_neg (by rw [← eI]; omega), if_neg (by omega), if_pos (by omega)] at ej
                  exact ⟨_, rfl, (aq_sm0 (c := c) (S := (fun a => a = y ∨ a = y + 15 ∨ a = y + 16 ∨ a = y + 17))), 0, rfl, mo_q0, Or.inr (Or.inl ⟨by omega, rfl, ej⟩)⟩
              · refine am_E.go (t2 := (112, [vR y, vI b, vI p, vL f, vU, vI k2_32, vU], [vR y], aq_h m s F c)) rfl rfl ?_
                refine aq_gf (v := vR (y + 17)) rfl (by omega) hFo (by decide) rfl ?_
                show am_E _ (115, [vR y, vI b, vI p, vL f, vU, vI k2_32, vU], [vR (y + 17)], aq_h m s F c) _
                refine am_E.go (t2 := (117, [vR y, vI b, vI p, vL f, vU, vI k2_32, vU], [vI k2_32, vR (y + 17)], aq_h m s F c)) rfl rfl ?_
                refine am_E.go (t2 := (118, [vR y, vI b, vI p, vL f, vU, vI k2_32, vU], [vI k2_32, vR (y + 17), vI k2_32, vR (y + 17)], aq_h m s F c)) rfl rfl ?_
                refine aq_al (ok := fun k => k == 2) (v := vL (c (y + 17) k2_32)) rfl rfl (by omega) hG17 rfl (by omega) (by omega) rfl ?_
                show am_E _ (119, [vR y, vI b, vI p, vL f, vU, vI k2_32, vU], [vL (c (y + 17) k2_32), vI k2_32, vR (y + 17)], aq_h m s F c) _
                have f_20 := hkf k2_32 (by omega) (by omega)
                have hf_ := hf
                unfold sm_ok at f_20 hf_
                refine am_E.go (t2 := (120, [vR y, vI b, vI p, vL f, vU, vI k2_32, vU], [vL f, vL (c (y + 17) k2_32), vI k2_32, vR (y + 17)], aq_h m s F c)) rfl rfl ?_
                refine ae_binl (z := (c (y + 17) k2_32) + f) rfl rfl (by rw [am_wl_id (am_rl (by omega) (by omega))]) ?_
                show am_E _ (121, [vR y, vI b, vI p, vL f, vU, vI k2_32, vU], [vL ((c (y + 17) k2_32) + f), vI k2_32, vR (y + 17)], aq_h m s F c) _
                refine aq_asl rfl rfl (by omega) hG17 (by omega) (by omega) rfl ?_
                show am_E _ (122, [vR y, vI b, vI p, vL f, vU, vI k2_32, vU], [], aq_h m s F (aq_u c (y + 17) k2_32 ((c (y + 17) k2_32) + f))) _
                generalize hdc_21 : aq_u c (y + 17) k2_32 ((c (y + 17) k2_32) + f) = c_21
                have sc_21 := aq_smu (aq_sm0 (c := c) (S := (fun a => a = y ∨ a = y + 15 ∨ a = y + 16 ∨ a = y + 17))) hdc_21 (Or.inr (Or.inr (Or.inr rfl)))
                refine am_E.go (t2 := (123, [vR y, vI b, vI p, vL f, vU, vI k2_32, vU], [vR y], aq_h m s F c_21)) rfl rfl ?_
                refine aq_gf (v := vR (y + 17)) rfl (by omega) hFo (by decide) rfl ?_
                show am_E _ (126, [vR y, vI b, vI p, vL f, vU, vI k2_32, vU], [vR (y + 17)], aq_h m s F c_21) _
                refine am_E.go (t2 := (128, [vR y, vI b, vI p, vL f, vU, vI k2_32, vU], [vI k2_32, vR (y + 17)], aq_h m s F c_21)) rfl rfl ?_
                refine aq_al (ok := fun k => k == 2) (v := vL (c_21 (y + 17) k2_32)) rfl rfl (by omega) hG17 rfl (by omega) (by omega) rfl ?_
                show am_E _ (129, [vR y, vI b, vI p, vL f, vU, vI k2_32, vU], [vL (c_21 (y + 17) k2_32)], aq_h m s F c_21) _
                have f_22 : c_21 (y + 17) k2_32 = c (y + 17) k2_32 + f := by rw [← hdc_21, aq_us]
                refine am_E.go (t2 := (130, [vR y, vI b, vI p, vL f, vU, vI k2_32, vU], [vL 0, vL (c_21 (y + 17) k2_32)], aq_h m s F c_21)) rfl rfl ?_
                have ez_23 := am_lcf (c_21 (y + 17) k2_32) 0
                refine am_E.go (t2 := (131, [vR y, vI b, vI p, vL f, vU, vI k2_32, vU], [vI (if (c_21 (y + 17) k2_32) < 0 then -1 else if (c_21 (y + 17) k2_32) = 0 then 0 else 1)], aq_h m s F c_21)) rfl rfl ?_
                generalize (if (c_21 (y + 17) k2_32) < 0 then -1 else if (c_21 (y + 17) k2_32) = 0 then 0 else 1) = z_23 at ez_23 ⊢
                refine ae_if0 rfl (fun (q_24 : z_23 ≠ 0) => ?_) (fun (q_24 : z_23 = 0) => ?_)
                · refine am_E.go (t2 := (176, [vR y, vI b, vI p, vL f, vU, vI k2_32, vU], [vR y], aq_h m s F c_21)) rfl rfl ?_
                  refine aq_gf (v := vR (y + 17)) rfl (by omega) hFo (by decide) rfl ?_
                  show am_E _ (179, [vR y, vI b, vI p, vL f, vU, vI k2_32, vU], [vR (y + 17)], aq_h m s F c_21) _
                  refine am_E.go (t2 := (181, [vR y, vI b, vI p, vL f, vU, vI k2_32, vU], [vI k2_32, vR (y + 17)], aq_h m s F c_21)) rfl rfl ?_
                  refine aq_al (ok := fun k => k == 2) (v := vL (c_21 (y + 17) k2_32)) rfl rfl (by omega) hG17 rfl (by omega) (by omega) rfl ?_
                  show am_E _ (182, [vR y, vI b, vI p, vL f, vU, vI k2_32, vU], [vL (c_21 (y + 17) k2_32)], aq_h m s F c_21) _
                  have f_25 : c_21 (y + 17) k2_32 = c (y + 17) k2_32 + f := by rw [← hdc_21, aq_us]
                  refine am_E.go (t2 := (185, [vR y, vI b, vI p, vL f, vU, vI k2_32, vU], [vL (-1000000000000), vL (c_21 (y + 17) k2_32)], aq_h m s F c_21)) rfl rfl ?_
                  refine am_E.go (t2 := (188, [vR y, vI b, vI p, vL f, vU, vI k2_32, vU], [vL 1000000000000, vL (-1000000000000), vL (c_21 (y + 17) k2_32)], aq_h m s F c_21)) rfl rfl ?_
                  refine am_E.call rfl rfl rfl (Nat.le_of_ble_eq_true rfl) (qm_in) ?_
                  rintro r5 h5 ⟨rfl, v_26, rfl, hv_26⟩
                  show am_E _ (191, [vR y, vI b, vI p, vL f, vU, vI k2_32, vU], [vI v_26], aq_h m s F c_21) _
                  refine ae_retb rfl (by omega) ?_
                  obtain ⟨T_, eT⟩ : ∃ T_, T_ = sm_p (c (y + 15)) (c (y + 16)) (c y 17) b p 41 0 := ⟨_, rfl⟩
                  have eI : k2_32 = T_ := by rw [eT]; assumption
                  have ej : sm_j (mr_v y c) b p f = (if T_ < c y 17 ∧ c (y + 15) T_ = b ∧ c (y + 16) T_ = p then (if sm_ok (c (y + 17) T_ + f) then (if c (y + 17) T_ + f = 0 then some (c y 17 - 1, sm_d (c (y + 15)) T_, sm_d (c (y + 16)) T_, sm_d (c (y + 17)) T_) else some (c y 17, c (y + 15), c (y + 16), sm_s (c (y + 17)) T_ (c (y + 17) T_ + f))) else none) else if f = 0 then some (mr_v y c) else if 40 ≤ c y 17 then none else some (c y 17 + 1, sm_i (c (y + 15)) T_ b, sm_i (c (y + 16)) T_ p, sm_i (c (y + 17)) T_ f)) := by rw [eT]; rfl
                  rw [if_pos (by rw [← eI]; omega), ← eI] at ej
                  have gq : mo_q y c c_21 := mo_qu mo_q0 hdc_21 (Or.inl (by omega))
                  have n17 : c_21 (y + 17) k2_32 = c (y + 17) k2_32 + f := by rw [← hdc_21, aq_us]
                  refine ⟨_, rfl, sc_21, _, rfl, gq, ?_⟩
                  by_cases c2 : sm_ok (c (y + 17) k2_32 + f)
                  · refine Or.inr (Or.inr ⟨by omega, by unfold sm_ok at c2; omega, _, by rw [ej, if_pos c2, if_neg (by omega)], ?_⟩)
                    refine ⟨by show c y 17 = c_21 y 17; rw [← hdc_21, aq_un (Or.inl (by omega))], fun j j0 j1 => ?_⟩
                    unfold mr_v sm_s
                    simp only
                    rw [← hdc_21, aq_un (Or.inl (by omega)), aq_un (Or.inl (by omega))]
                    refine ⟨rfl, rfl, ?_⟩
                    by_cases e5 : j = k2_32
                    · rw [if_pos e5, e5, aq_us]
                    · rw [if_neg e5, aq_un (Or.inr e5)]
                  · exact Or.inr (Or.inl ⟨by omega, by unfold sm_ok at c2; omega, by rw [ej, if_neg c2]⟩)
                · refine am_E.go (t2 := (135, [vR y, vI b, vI p, vL f, vU, vI k2_32, vU], [vR y], aq_h m s F c_21)) rfl rfl ?_
                  refine am_E.go (t2 := (136, [vR y, vI b, vI p, vL f, vU, vI k2_32, vU], [vR y, vR y], aq_h m s F c_21)) rfl rfl ?_
                  refine aq_gf (v := vI (c_21 y 17)) rfl (by omega) hFo (by decide) rfl ?_
                  show am_E _ (139, [vR y, vI b, vI p, vL f, vU, vI k2_32, vU], [vI (c_21 y 17), vR y], aq_h m s F c_21) _
                  have f_27 : c_21 y 17 = c y 17 := by rw [← hdc_21, aq_un (Or.inl (by omega))]
                  refine am_E.go (t2 := (140, [vR y, vI b, vI p, vL f, vU, vI k2_32, vU], [vI 1, vI (c_21 y 17), vR y], aq_h m s F c_21)) rfl rfl ?_
                  refine ae_sub rfl (am_ri (by omega) (by omega)) ?_
                  show am_E _ (141, [vR y, vI b, vI p, vL f, vU, vI k2_32, vU], [vI ((c_21 y 17) - 1), vR y], aq_h m s F c_21) _
                  refine aq_pf rfl (by omega) hFo (by decide) rfl rfl ?_
                  show am_E _ (144, [vR y, vI b, vI p, vL f, vU, vI k2_32, vU], [], aq_h m s F (aq_u c_21 y 17 ((c_21 y 17) - 1))) _
                  generalize hdc_28 : aq_u c_21 y 17 ((c_21 y 17) - 1) = c_28
                  have sc_28 := aq_smu sc_21 hdc_28 (Or.inl rfl)
                  refine am_E.go (t2 := (146, [vR y, vI b, vI p, vL f, vU, vI k2_32, vU], [vI k2_32], aq_h m s F c_28)) rfl rfl ?_
                  refine am_E.go (t2 := (148, [vR y, vI b, vI p, vL f, vU, vI k2_32, vI k2_32], [], aq_h m s F c_28)) rfl rfl ?_
                  obtain ⟨T_, eT⟩ : ∃ T_, T_ = sm_p (c (y + 15)) (c (y + 16)) (c y 17) b p 41 0 := ⟨_, rfl⟩
                  have eI : k2_32 = T_ := by rw [eT]; assumption
                  have ej : sm_j (mr_v y c) b p f = (if T_ < c y 17 ∧ c (y + 15) T_ = b ∧ c (y + 16) T_ = p then (if sm_ok (c (y + 17) T_ + f) then (if c (y + 17) T_ + f = 0 then some (c y 17 - 1, sm_d (c (y + 15)) T_, sm_d (c (y + 16)) T_, sm_d (c (y + 17)) T_) else some (c y 17, c (y + 15), c (y + 16), sm_s (c (y + 17)) T_ (c (y + 17) T_ + f))) else none) else if f = 0 then some (mr_v y c) else if 40 ≤ c y 17 then none else some (c y 17 + 1, sm_i (c (y + 15)) T_ b, sm_i (c (y + 16)) T_ p, sm_i (c (y + 17)) T_ f)) := by rw [eT]; rfl
                  rw [if_pos (by rw [← eI]; omega), ← eI, if_pos (by unfold sm_ok; omega), if_pos (by omega)] at ej
                  have g1 : c_21 y 17 = c y 17 := by rw [← hdc_21, aq_un (Or.inl (by omega))]
                  have hz_e : c_28 y 17 = c y 17 - 1 := by rw [← hdc_28, aq_us, g1]
                  have hq_e : mo_q y c c_28 := mo_qu (mo_qu mo_q0 hdc_21 (Or.inl (by omega))) hdc_28 (Or.inr (by decide))
                  have w15 : ∀ j, c_28 (y + 15) j = c (y + 15) j := fun j => by rw [← hdc_28, aq_un (Or.inl (by omega)), ← hdc_21, aq_un (Or.inl (by omega))]
                  have w16 : ∀ j, c_28 (y + 16) j = c (y + 16) j := fun j => by rw [← hdc_28, aq_un (Or.inl (by omega)), ← hdc_21, aq_un (Or.inl (by omega))]
                  have w17 : ∀ j, j ≠ k2_32 → c_28 (y + 17) j = c (y + 17) j := fun j hj => by rw [← hdc_28, aq_un (Or.inl (by omega)), ← hdc_21, aq_un (Or.inr hj)]
                  refine am_E.imp (qx_comes_2 ⟨hm, hFo, hG5, hG6, hG7, hG8, hG9, hG10, hG11, hG12, hG13, hG14, hG15, hG16, hG17, hG18, hG19, hG20, hG21, hG22, hG23⟩ (sz := c y 17 - 1) (B := c_28 (y + 15)) (P := c_28 (y + 16)) (Q := c_28 (y + 17)) (by omega) (by omega) 41 k2_32 c_28 sc_28 hz_e hq_e (by omega) (by omega) (fun j h5 h6 => by by_cases e : j < k2_32; (rw [if_pos e, if_pos e, if_pos e]; unfold sm_d; rw [if_pos e, if_pos e, if_pos e]; exact ⟨rfl, rfl, rfl⟩); (rw [if_neg e, if_neg e, if_neg e]; exact ⟨rfl, rfl, rfl⟩)) (by omega)) ?_
                  rintro r5 h5 ⟨d5, e5, s5, q5, i5, z5, v5⟩
                  refine ⟨d5, e5, s5, 1, q5, i5, Or.inr (Or.inr ⟨by omega, rfl, _, ej, z5, fun j j0 j1 => ?_⟩)⟩
                  have a5 := v5 j j0 j1
                  simp only at a5 j1 ⊢
                  rw [← a5.1, ← a5.2.1, ← a5.2.2]
                  unfold sm_d
                  by_cases e6 : j < k2_32
                  · rw [if_pos e6, if_pos e6, if_pos e6, if_pos e6, if_pos e6, if_pos e6, w15, w16, w17 j (by omega)]
                    exact ⟨rfl, rfl, rfl⟩
                  · rw [if_neg e6, if_neg e6, if_neg e6, if_neg e6, if_neg e6, if_neg e6, w15, w16, w17 (j + 1) (by omega)]
                    exact ⟨rfl, rfl, rfl⟩
      · refine am_E.go (t2 := (28, [vR y, vI b, vI p, vL f, vU, vU, vU], [vI 0], aq_h m s F c)) rfl rfl ?_
        refine am_E.ret rfl rfl ?_
        exfalso
        unfold sm_ok at hf
        omega
  · refine am_E.go (t2 := (7, [vR y, vI b, vI p, vL f, vU, vU, vU], [vI 1], aq_h m s F c)) rfl rfl ?_
    refine am_E.ret rfl rfl ?_
    exact ⟨_, rfl, (aq_sm0 (c := c) (S := (fun a => a = y ∨ a = y + 15 ∨ a = y + 16 ∨ a = y + 17))), 1, rfl, mo_q0, Or.inl ⟨by omega, rfl, ⟨rfl, fun _ _ _ => ⟨rfl, rfl, rfl⟩⟩⟩⟩
/-! The reference: load, store, exactly. Printed by wip/p20/sx/gSZ.py. -/

/-- the sum t, as the reference keeps it -/
def rf_v (y : Nat) (t : Int) (c : aq_C) : sm_ := (c (y + 6) t, fun i => c (y + 7) (40 * t + i), fun i => c (y + 8) (40 * t + i), fun i => c (y + 9) (40 * t + i))

theorem qx_load_l {m s : Nat} {F : aq_F} {c0 : aq_C} {y : Nat} (hO : mo_0 m F y) {t : Int} (ht0 : 0 ≤ t) (ht1 : t < 8) (hu3 : 0 ≤ c0 (y + 6) t) (hu4 : c0 (y + 6) t ≤ 40) : ∀ (d : Nat) (k : Int) (c : aq_C) (hs : aq_sm (fun a => a = y ∨ a = y + 15 ∨ a = y + 16 ∨ a = y + 17) c0 c) (hz : c y 17 = c0 (y + 6) t) (hq : mo_q y c0 c) (h0 : 0 ≤ k) (h1 : k ≤ c0 (y + 6) t) (hv : ∀ j, 0 ≤ j → j < k → c (y + 15) j = c0 (y + 7) (40 * t + j) ∧ c (y + 16) j = c0 (y + 8) (40 * t + j) ∧ c (y + 17) j = c0 (y + 9) (40 * t + j)) (hd : c0 (y + 6) t - k < (d : Int)), am_E ac_X5_load (12, [vR y, vI t, vI k], [], aq_h m s F c) (aq_Z m s F (fun a => a = y ∨ a = y + 15 ∨ a = y + 16 ∨ a = y + 17) c0 (fun r d => r = none ∧ mo_q y c0 d ∧ sm_e (rf_v y t c0) (mr_v y d)))
  | 0, k, c, hs, hz, hq, h0, h1, hv, hd => by exfalso; omega
  | d + 1, k, c, hs, hz, hq, h0, h1, hv, hd => by
    obtain ⟨hm, hFo, hG5, hG6, hG7, hG8, hG9, hG10, hG11, hG12, hG13, hG14, hG15, hG16, hG17, hG18, hG19, hG20, hG21, hG22, hG23⟩ := hO
    refine am_E.go (t2 := (13, [vR y, vI t, vI k], [vI k], aq_h m s F c)) rfl rfl ?_
    refine am_E.go (t2 := (14, [vR y, vI t, vI k], [vR y, vI k], aq_h m s F c)) rfl rfl ?_
    refine aq_gf (v := vI (c y 17)) rfl (by omega) hFo (by decide) rfl ?_
    show am_E _ (17, [vR y, vI t, vI k], [vI (c y 17), vI k], aq_h m s F c) _
    have f_1 := hz
    refine ae_icmp rfl (fun (q_2 : (c y 17) ≤ k) => ?_) (fun (q_2 : k < (c y 17)) => ?_)
    · refine am_E.ret rfl rfl ?_
      refine ⟨_, rfl, hs, rfl, hq, hz.symm, fun j h5 h6 => ?_⟩
      have h7 : j < c0 (y + 6) t := h6
      have a1 := hv j h5 (by omega)
      exact ⟨a1.1.symm, a1.2.1.symm, a1.2.2.symm⟩
    · refine am_E.go (t2 := (21, [vR y, vI t, vI k], [vR y], aq_h m s F c)) rfl rfl ?_
      refine aq_gf (v := vR (y + 15)) rfl (by omega) hFo (by decide) rfl ?_
      show am_E _ (24, [vR y, vI t, vI k], [vR (y + 15)], aq_h m s F c) _
      refine am_E.go (t2 := (25, [vR y, vI t, vI k], [vI k, vR (y + 15)], aq_h m s F c)) rfl rfl ?_
      refine am_E.go (t2 := (26, [vR y, vI t, vI k], [vR y, vI k, vR (y + 15)], aq_h m s F c)) rfl rfl ?_
      refine aq_gf (v := vR (y + 7)) rfl (by omega) hFo (by decide) rfl ?_
      show am_E _ (29, [vR y, vI t, vI k], [vR (y + 7), vI k, vR (y + 15)], aq_h m s F c) _
      refine am_E.go (t2 := (31, [vR y, vI t, vI k], [vI 40, vR (y + 7), vI k, vR (y + 15)], aq_h m s F c)) rfl rfl ?_
      refine am_E.go (t2 := (32, [vR y, vI t, vI k], [vI t, vI 40, vR (y + 7), vI k, vR (y + 15)], aq_h m s F c)) rfl rfl ?_
      refine ae_mul rfl (am_ri (by omega) (by omega)) ?_
      show am_E _ (33, [vR y, vI t, vI k], [vI (40 * t), vR (y + 7), vI k, vR (y + 15)], aq_h m s F c) _
      refine am_E.go (t2 := (34, [vR y, vI t, vI k], [vI k, vI (40 * t), vR (y + 7), vI k, vR (y + 15)], aq_h m s F c)) rfl rfl ?_
      refine ae_add rfl (am_ri (by omega) (by omega)) ?_
      show am_E _ (35, [vR y, vI t, vI k], [vI ((40 * t) + k), vR (y + 7), vI k, vR (y + 15)], aq_h m s F c) _
      refine aq_al (ok := fun k => k == 0) (v := vI (c (y + 7) ((40 * t) + k))) rfl rfl (by omega) hG7 rfl (by omega) (by omega) rfl ?_
      show am_E _ (36, [vR y, vI t, vI k], [vI (c (y + 7) ((40 * t) + k)), vI k, vR (y + 15)], aq_h m s F c) _
      refine aq_as (kd := 0) rfl rfl (by omega) hG15 (by omega) (by omega) rfl rfl ?_
      show am_E _ (37, [vR y, vI t, vI k], [], aq_h m s F (aq_u c (y + 15) k (c (y + 7) ((40 * t) + k)))) _
      generalize hdc_3 : aq_u c (y + 15) k (c (y + 7) ((40 * t) + k)) = c_3
      have sc_3 := aq_smu hs hdc_3 (Or.inr (Or.inl rfl))
      refine am_E.go (t2 := (38, [vR y, vI t, vI k], [vR y], aq_h m s F c_3)) rfl rfl ?_
      refine aq_gf (v := vR (y + 16)) rfl (by omega) hFo (by decide) rfl ?_
      show am_E _ (41, [vR y, vI t, vI k], [vR (y + 16)], aq_h m s F c_3) _
      refine am_E.go (t2 := (42, [vR y, vI t, vI k], [vI k, vR (y + 16)], aq_h m s F c_3)) rfl rfl ?_
      refine am_E.go (t2 := (43, [vR y, vI t, vI k], [vR y, vI k, vR (y + 16)], aq_h m s F c_3)) rfl rfl ?_
      refine aq_gf (v := vR (y + 8)) rfl (by omega) hFo (by decide) rfl ?_
      show am_E _ (46, [vR y, vI t, vI k], [vR (y + 8), vI k, vR (y + 16)], aq_h m s F c_3) _
      refine am_E.go (t2 := (48, [vR y, vI t, vI k], [vI 40, vR (y + 8), vI k, vR (y + 16)], aq_h m s F c_3)) rfl rfl ?_
      refine am_E.go (t2 := (49, [vR y, vI t, vI k], [vI t, vI 40, vR (y + 8), vI k, vR (y + 16)], aq_h m s F c_3)) rfl rfl ?_
      refine ae_mul rfl (am_ri (by omega) (by omega)) ?_
      show am_E _ (50, [vR y, vI t, vI k], [vI (40 * t), vR (y + 8), vI k, vR (y + 16)], aq_h m s F c_3) _
      refine am_E.go (t2 := (51, [vR y, vI t, vI k], [vI k, vI (40 * t), vR (y + 8), vI k, vR (y + 16)], aq_h m s F c_3)) rfl rfl ?_
      refine ae_add rfl (am_ri (by omega) (by omega)) ?_
      show am_E _ (52, [vR y, vI t, vI k], [vI ((40 * t) + k), vR (y + 8), vI k, vR (y + 16)], aq_h m s F c_3) _
      refine aq_al (ok := fun k => k == 0) (v := vI (c_3 (y + 8) ((40 * t) + k))) rfl rfl (by omega) hG8 rfl (by omega) (by omega) rfl ?_
      show am_E _ (53, [vR y, vI t, vI k], [vI (c_3 (y + 8) ((40 * t) + k)), vI k, vR (y + 16)], aq_h m s F c_3) _
      refine aq_as (kd := 0) rfl rfl (by omega) hG16 (by omega) (by omega) rfl rfl ?_
      show am_E _ (54, [vR y, vI t, vI k], [], aq_h m s F (aq_u c_3 (y + 16) k (c_3 (y + 8) ((40 * t) + k)))) _
      generalize hdc_4 : aq_u c_3 (y + 16) k (c_3 (y + 8) ((40 * t) + k)) = c_4
      have sc_4 := aq_smu sc_3 hdc_4 (Or.inr (Or.inr (Or.inl rfl)))
      refine am_E.go (t2 := (55, [vR y, vI t, vI k], [vR y], aq_h m s F c_4)) rfl rfl ?_
      refine aq_gf (v := vR (y + 17)) rfl (by omega) hFo (by decide) rfl ?_
      show am_E _ (58, [vR y, vI t, vI k], [vR (y + 17)], aq_h m s F c_4) _
      refine am_E.go (t2 := (59, [vR y, vI t, vI k], [vI k, vR (y + 17)], aq_h m s F c_4)) rfl rfl ?_
      refine am_E.go (t2 := (60, [vR y, vI t, vI k], [vR y, vI k, vR (y + 17)], aq_h m s F c_4)) rfl rfl ?_
      refine aq_gf (v := vR (y + 9)) rfl (by omega) hFo (by decide) rfl ?_
      show am_E _ (63, [vR y, vI t, vI k], [vR (y + 9), vI k, vR (y + 17)], aq_h m s F c_4) _
      refine am_E.go (t2 := (65, [vR y, vI t, vI k], [vI 40, vR (y + 9), vI k, vR (y + 17)], aq_h m s F c_4)) rfl rfl ?_
      refine am_E.go (t2 := (66, [vR y, vI t, vI k], [vI t, vI 40, vR (y + 9), vI k, vR (y + 17)], aq_h m s F c_4)) rfl rfl ?_
      refine ae_mul rfl (am_ri (by omega) (by omega)) ?_
      show am_E _ (67, [vR y, vI t, vI k], [vI (40 * t), vR (y + 9), vI k, vR (y + 17)], aq_h m s F c_4) _
      refine am_E.go (t2 := (68, [vR y, vI t, vI k], [vI k, vI (40 * t), vR (y + 9), vI k, vR (y + 17)], aq_h m s F c_4)) rfl rfl ?_
      refine ae_add rfl (am_ri (by omega) (by omega)) ?_
      show am_E _ (69, [vR y, vI t, vI k], [vI ((40 * t) + k), vR (y + 9), vI k, vR (y + 17)], aq_h m s F c_4) _
      refine aq_al (ok := fun k => k == 2) (v := vL (c_4 (y + 9) ((40 * t) + k))) rfl rfl (by omega) hG9 rfl (by omega) (by omega) rfl ?_
      show am_E _ (70, [vR y, vI t, vI k], [vL (c_4 (y + 9) ((40 * t) + k)), vI k, vR (y + 17)], aq_h m s F c_4) _
      refine aq_asl rfl rfl (by omega) hG17 (by omega) (by omega) rfl ?_
      show am_E _ (71, [vR y, vI t, vI k], [], aq_h m s F (aq_u c_4 (y + 17) k (c_4 (y + 9) ((40 * t) + k)))) _
      generalize hdc_5 : aq_u c_4 (y + 17) k (c_4 (y + 9) ((40 * t) + k)) = c_5
      have sc_5 := aq_smu sc_4 hdc_5 (Or.inr (Or.inr (Or.inr rfl)))
      refine ae_iinc rfl rfl (am_ri (by omega) (by omega)) ?_
      show am_E _ (74, [vR y, vI t, vI (k + 1)], [], aq_h m s F c_5) _
      refine am_E.go (t2 := (12, [vR y, vI t, vI (k + 1)], [], aq_h m s F c_5)) rfl rfl ?_
      exact qx_load_l ⟨hm, hFo, hG5, hG6, hG7, hG8, hG9, hG10, hG11, hG12, hG13, hG14, hG15, hG16, hG17, hG18, hG19, hG20, hG21, hG22, hG23⟩ ht0 ht1 hu3 hu4 d (k + 1) c_5 sc_5 (by rw [← hdc_5, aq_un (Or.inl (by omega)), ← hdc_4, aq_un (Or.inl (by omega)), ← hdc_3, aq_un (Or.inl (by omega))]; exact hz) (mo_qu (mo_qu (mo_qu hq hdc_3 (Or.inl (by omega))) hdc_4 (Or.inl (by omega))) hdc_5 (Or.inl (by omega))) (by omega) (by omega) (fun j h5 h6 => by
      by_cases e : j = k
      · rw [e]
        refine ⟨?_, ?_, ?_⟩
        · rw [← hdc_5, aq_un (Or.inl (by omega)), ← hdc_4, aq_un (Or.inl (by omega)), ← hdc_3, aq_us, hs _ (by omega)]
        · rw [← hdc_5, aq_un (Or.inl (by omega)), ← hdc_4, aq_us, ← hdc_3, aq_un (Or.inl (by omega)), hs _ (by omega)]
        · rw [← hdc_5, aq_us, ← hdc_4, aq_un (Or.inl (by omega)), ← hdc_3, aq_un (Or.inl (by omega)), hs _ (by omega)]
      · have a1 := hv j h5 (by omega)
        refine ⟨?_, ?_, ?_⟩
        · rw [← hdc_5, aq_un (Or.inl (by omega)), ← hdc_4, aq_un (Or.inl (by omega)), ← hdc_3, aq_un (Or.inr e)]
          exact a1.1
        · rw [← hdc_5, aq_un (Or.inl (by omega)), ← hdc_4, aq_un (Or.inr e), ← hdc_3, aq_un (Or.inl (by omega))]
          exact a1.2.1
        · rw [← hdc_5, aq_un (Or.inr e), ← hdc_4, aq_un (Or.inl (by omega)), ← hdc_3, aq_un (Or.inl (by omega))]
          exact a1.2.2) (by omega)

theorem qx_load {m s : Nat} {F : aq_F} {c : aq_C} {y : Nat} (hO : mo_0 m F y) {t : Int} (ht0 : 0 ≤ t) (ht1 : t < 8) (hu3 : 0 ≤ c (y + 6) t) (hu4 : c (y + 6) t ≤ 40) : am_E ac_X5_load (0, [vR y, vI t, vU], [], aq_h m s F c) (aq_Z m s F (fun a => a = y ∨ a = y + 15 ∨ a = y + 16 ∨ a = y + 17) c (fun r d => r = none ∧ mo_q y c d ∧ sm_e (rf_v y t c) (mr_v y d))) := by
  obtain ⟨hm, hFo, hG5, hG6, hG7, hG8, hG9, hG10, hG11, hG12, hG13, hG14, hG15, hG16, hG17, hG18, hG19, hG20, hG21, hG22, hG23⟩ := hO
  refine am_E.go (t2 := (1, [vR y, vI t, vU], [vR y], aq_h m s F c)) rfl rfl ?_
  refine am_E.go (t2 := (2, [vR y, vI t, vU], [vR y, vR y], aq_h m s F c)) rfl rfl ?_
  refine aq_gf (v := vR (y + 6)) rfl (by omega) hFo (by decide) rfl ?_
  show am_E _ (5, [vR y, vI t, vU], [vR (y + 6), vR y], aq_h m s F c) _
  refine am_E.go (t2 := (6, [vR y, vI t, vU], [vI t, vR (y + 6), vR y], aq_h m s F c)) rfl rfl ?_
  refine aq_al (ok := fun k => k == 0) (v := vI (c (y + 6) t)) rfl rfl (by omega) hG6 rfl (by omega) (by omega) rfl ?_
  show am_E _ (7, [vR y, vI t, vU], [vI (c (y + 6) t), vR y], aq_h m s F c) _
  refine aq_pf rfl (by omega) hFo (by decide) rfl rfl ?_
  show am_E _ (10, [vR y, vI t, vU], [], aq_h m s F (aq_u c y 17 (c (y + 6) t))) _
  generalize hdc_1 : aq_u c y 17 (c (y + 6) t) = c_1
  have sc_1 := aq_smu (aq_sm0 (c := c) (S := (fun a => a = y ∨ a = y + 15 ∨ a = y + 16 ∨ a = y + 17))) hdc_1 (Or.inl rfl)
  refine am_E.go (t2 := (11, [vR y, vI t, vU], [vI 0], aq_h m s F c_1)) rfl rfl ?_
  refine am_E.go (t2 := (12, [vR y, vI t, vI 0], [], aq_h m s F c_1)) rfl rfl ?_
  exact qx_load_l ⟨hm, hFo, hG5, hG6, hG7, hG8, hG9, hG10, hG11, hG12, hG13, hG14, hG15, hG16, hG17, hG18, hG19, hG20, hG21, hG22, hG23⟩ ht0 ht1 hu3 hu4 41 0 c_1 sc_1 (by rw [← hdc_1, aq_us]) (mo_qu mo_q0 hdc_1 (Or.inr (by decide))) (by omega) (by omega) (fun j h5 h6 => absurd h6 (by omega)) (by omega)

theorem qx_store_l {m s : Nat} {F : aq_F} {c0 : aq_C} {y : Nat} (hO : mo_0 m F y) {t n : Int} (ht0 : 0 ≤ t) (ht1 : t < 8) (hn1 : 1 ≤ n) (hn4 : n ≤ 4) (hI : mo_I y c0) (hR : mo_R y (bx_K n) c0) : ∀ (d : Nat) (k : Int) (c : aq_C) (hs : aq_sm (fun a => y + 5 ≤ a ∧ a ≤ y + 9) c0 c) (h0 : 0 ≤ k) (h1 : k ≤ c0 y 17) (h5 : ∀ i, c (y + 5) i = if i = t then n else c0 (y + 5) i) (h6 : ∀ i, c (y + 6) i = if i = t then c0 y 17 else c0 (y + 6) i) (h7 : ∀ i, (∀ j, 0 ≤ j → j < 40 → i ≠ 40 * t + j) → c (y + 7) i = c0 (y + 7) i) (h8 : ∀ i, (∀ j, 0 ≤ j → j < 40 → i ≠ 40 * t + j) → c (y + 8) i = c0 (y + 8) i) (h9 : ∀ i, (∀ j, 0 ≤ j → j < 40 → i ≠ 40 * t + j) → c (y + 9) i = c0 (y + 9) i) (h7k : ∀ j, 0 ≤ j → j < k → c (y + 7) (40 * t + j) = c0 (y + 15) j) (h8k : ∀ j, 0 ≤ j → j < k → c (y + 8) (40 * t + j) = c0 (y + 16) j) (h9k : ∀ j, 0 ≤ j → j < k → c (y + 9) (40 * t + j) = c0 (y + 17) j) (hd : c0 y 17 - k < (d : Int)), am_E ac_X5_store (19, [vR y, vI t, vI n, vI k], [], aq_h m s F c) (aq_Z m s F (fun a => y + 5 ≤ a ∧ a ≤ y + 9) c0 (fun r d => r = some (vI (c0 y 17)) ∧ mo_I y d ∧ (∀ i, d (y + 5) i = if i = t then n else c0 (y + 5) i) ∧ (∀ i, i ≠ t → d (y + 6) i = c0 (y + 6) i) ∧ sm_e (mr_v y c0) (rf_v y t d) ∧ ∀ i, (∀ j, 0 ≤ j → j < 40 → i ≠ 40 * t + j) → d (y + 7) i = c0 (y + 7) i ∧ d (y + 8) i = c0 (y + 8) i ∧ d (y + 9) i = c0 (y + 9) i))
  | 0, k, c, hs, h0, h1, h5, h6, h7, h8, h9, h7k, h8k, h9k, hd => by exfalso; omega
  | d + 1, k, c, hs, h0, h1, h5, h6, h7, h8, h9, h7k, h8k, h9k, hd => by
    obtain ⟨hm, hFo, hG5, hG6, hG7, hG8, hG9, hG10, hG11, hG12, hG13, hG14, hG15, hG16, hG17, hG18, hG19, hG20, hG21, hG22, hG23⟩ := hO
    have hR1 := hR.1
    have hR2 := hR.2.1
    refine am_E.go (t2 := (20, [vR y, vI t, vI n, vI k], [vI k], aq_h m s F c)) rfl rfl ?_
    refine am_E.go (t2 := (21, [vR y, vI t, vI n, vI k], [vR y, vI k], aq_h m s F c)) rfl rfl ?_
    refine aq_gf (v := vI (c y 17)) rfl (by omega) hFo (by decide) rfl ?_
    show am_E _ (24, [vR y, vI t, vI n, vI k], [vI (c y 17), vI k], aq_h m s F c) _
    have f_1 := hs y (by omega) 17
    refine ae_icmp rfl (fun (q_2 : (c y 17) ≤ k) => ?_) (fun (q_2 : k < (c y 17)) => ?_)
    · refine am_E.go (t2 := (85, [vR y, vI t, vI n, vI k], [vR y], aq_h m s F c)) rfl rfl ?_
      refine aq_gf (v := vI (c y 17)) rfl (by omega) hFo (by decide) rfl ?_
      show am_E _ (88, [vR y, vI t, vI n, vI k], [vI (c y 17)], aq_h m s F c) _
      have f_3 := hs y (by omega) 17
      refine am_E.ret rfl rfl ?_
      refine ⟨_, rfl, hs, by rw [hs y (by omega) 17], mo_Ist hI hR hn1 hn4 hs h5 h6 h7 h9 (fun j h8 h10 => h7k j h8 (by omega)) (fun j h8 h10 => h9k j h8 (by omega)), h5, fun i hi => by rw [h6 i, if_neg hi], ⟨by show c0 y 17 = c (y + 6) t; rw [h6 t, if_pos rfl], fun j j0 j1 => ?_⟩, fun i hi => ⟨h7 i hi, h8 i hi, h9 i hi⟩⟩
      have j2 : j < c0 y 17 := j1
      exact ⟨(h7k j j0 (by omega)).symm, (h8k j j0 (by omega)).symm, (h9k j j0 (by omega)).symm⟩
    · refine am_E.go (t2 := (28, [vR y, vI t, vI n, vI k], [vR y], aq_h m s F c)) rfl rfl ?_
      refine aq_gf (v := vR (y + 7)) rfl (by omega) hFo (by decide) rfl ?_
      show am_E _ (31, [vR y, vI t, vI n, vI k], [vR (y + 7)], aq_h m s F c) _
      refine am_E.go (t2 := (33, [vR y, vI t, vI n, vI k], [vI 40, vR (y + 7)], aq_h m s F c)) rfl rfl ?_
      refine am_E.go (t2 := (34, [vR y, vI t, vI n, vI k], [vI t, vI 40, vR (y + 7)], aq_h m s F c)) rfl rfl ?_
      refine ae_mul rfl (am_ri (by omega) (by omega)) ?_
      show am_E _ (35, [vR y, vI t, vI n, vI k], [vI (40 * t), vR (y + 7)], aq_h m s F c) _
      refine am_E.go (t2 := (36, [vR y, vI t, vI n, vI k], [vI k, vI (40 * t), vR (y + 7)], aq_h m s F c)) rfl rfl ?_
      refine ae_add rfl (am_ri (by omega) (by omega)) ?_
      show am_E _ (37, [vR y, vI t, vI n, vI k], [vI ((40 * t) + k), vR (y + 7)], aq_h m s F c) _
      refine am_E.go (t2 := (38, [vR y, vI t, vI n, vI k], [vR y, vI ((40 * t) + k), vR (y + 7)], aq_h m s F c)) rfl rfl ?_
      refine aq_gf (v := vR (y + 15)) rfl (by omega) hFo (by decide) rfl ?_
      show am_E _ (41, [vR y, vI t, vI n, vI k], [vR (y + 15), vI ((40 * t) + k), vR (y + 7)], aq_h m s F c) _
      refine am_E.go (t2 := (42, [vR y, vI t, vI n, vI k], [vI k, vR (y + 15), vI ((40 * t) + k), vR (y + 7)], aq_h m s F c)) rfl rfl ?_
      refine aq_al (ok := fun k => k == 0) (v := vI (c (y + 15) k)) rfl rfl (by omega) hG15 rfl (by omega) (by omega) rfl ?_
      show am_E _ (43, [vR y, vI t, vI n, vI k], [vI (c (y + 15) k), vI ((40 * t) + k), vR (y + 7)], aq_h m s F c) _
      refine aq_as (kd := 0) rfl rfl (by omega) hG7 (by omega) (by omega) rfl rfl ?_
      show am_E _ (44, [vR y, vI t, vI n, vI k], [], aq_h m s F (aq_u c (y + 7) ((40 * t) + k) (c (y + 15) k))) _
      generalize hdc_4 : aq_u c (y + 7) ((40 * t) + k) (c (y + 15) k) = c_4
      have sc_4 := aq_smu hs hdc_4 (by omega)
      refine am_E.go (t2 := (45, [vR y, vI t, vI n, vI k], [vR y], aq_h m s F c_4)) rfl rfl ?_
      refine aq_gf (v := vR (y + 8)) rfl (by omega) hFo (by decide) rfl ?_
      show am_E _ (48, [vR y, vI t, vI n, vI k], [vR (y + 8)], aq_h m s F c_4) _
      refine am_E.go (t2 := (50, [vR y, vI t, vI n, vI k], [vI 40, vR (y + 8)], aq_h m s F c_4)) rfl rfl ?_
      refine am_E.go (t2 := (51, [vR y, vI t, vI n, vI k], [vI t, vI 40, vR (y + 8)], aq_h m s F c_4)) rfl rfl ?_
      refine ae_mul rfl (am_ri (by omega) (by omega)) ?_
      show am_E _ (52, [vR y, vI t, vI n, vI k], [vI (40 * t), vR (y + 8)], aq_h m s F c_4) _
      refine am_E.go (t2 := (53, [vR y, vI t, vI n, vI k], [vI k, vI (40 * t), vR (y + 8)], aq_h m s F c_4)) rfl rfl ?_
      refine ae_add rfl (am_ri (by omega) (by omega)) ?_
      show am_E _ (54, [vR y, vI t, vI n, vI k], [vI ((40 * t) + k), vR (y + 8)], aq_h m s F c_4) _
      refine am_E.go (t2 := (55, [vR y, vI t, vI n, vI k], [vR y, vI ((40 * t) + k), vR (y + 8)], aq_h m s F c_4)) rfl rfl ?_
      refine aq_gf (v := vR (y + 16)) rfl (by omega) hFo (by decide) rfl ?_
      show am_E _ (58, [vR y, vI t, vI n, vI k], [vR (y + 16), vI ((40 * t) + k), vR (y + 8)], aq_h m s F c_4) _
      refine am_E.go (t2 := (59, [vR y, vI t, vI n, vI k], [vI k, vR (y + 16), vI ((40 * t) + k), vR (y + 8)], aq_h m s F c_4)) rfl rfl ?_
      refine aq_al (ok := fun k => k == 0) (v := vI (c_4 (y + 16) k)) rfl rfl (by omega) hG16 rfl (by omega) (by omega) rfl ?_
      show am_E _ (60, [vR y, vI t, vI n, vI k], [vI (c_4 (y + 16) k), vI ((40 * t) + k), vR (y + 8)], aq_h m s F c_4) _
      refine aq_as (kd := 0) rfl rfl (by omega) hG8 (by omega) (by omega) rfl rfl ?_
      show am_E _ (61, [vR y, vI t, vI n, vI k], [], aq_h m s F (aq_u c_4 (y + 8) ((40 * t) + k) (c_4 (y + 16) k))) _
      generalize hdc_5 : aq_u c_4 (y + 8) ((40 * t) + k) (c_4 (y + 16) k) = c_5
      have sc_5 := aq_smu sc_4 hdc_5 (by omega)
      refine am_E.go (t2 := (62, [vR y, vI t, vI n, vI k], [vR y], aq_h m s F c_5)) rfl rfl ?_
      refine aq_gf (v := vR (y + 9)) rfl (by omega) hFo (by decide) rfl ?_
      show am_E _ (65, [vR y, vI t, vI n, vI k], [vR (y + 9)], aq_h m s F c_5) _
      refine am_E.go (t2 := (67, [vR y, vI t, vI n, vI k], [vI 40, vR (y + 9)], aq_h m s F c_5)) rfl rfl ?_
      refine am_E.go (t2 := (68, [vR y, vI t, vI n, vI k], [vI t, vI 40, vR (y + 9)], aq_h m s F c_5)) rfl rfl ?_
      refine ae_mul rfl (am_ri (by omega) (by omega)) ?_
      show am_E _ (69, [vR y, vI t, vI n, vI k], [vI (40 * t), vR (y + 9)], aq_h m s F c_5) _
      refine am_E.go (t2 := (70, [vR y, vI t, vI n, vI k], [vI k, vI (40 * t), vR (y + 9)], aq_h m s F c_5)) rfl rfl ?_
      refine ae_add rfl (am_ri (by omega) (by omega)) ?_
      show am_E _ (71, [vR y, vI t, vI n, vI k], [vI ((40 * t) + k), vR (y + 9)], aq_h m s F c_5) _
      refine am_E.go (t2 := (72, [vR y, vI t, vI n, vI k], [vR y, vI ((40 * t) + k), vR (y + 9)], aq_h m s F c_5)) rfl rfl ?_
      refine aq_gf (v := vR (y + 17)) rfl (by omega) hFo (by decide) rfl ?_
      show am_E _ (75, [vR y, vI t, vI n, vI k], [vR (y + 17), vI ((40 * t) + k), vR (y + 9)], aq_h m s F c_5) _
      refine am_E.go (t2 := (76, [vR y, vI t, vI n, vI k], [vI k, vR (y + 17), vI ((40 * t) + k), vR (y + 9)], aq_h m s F c_5)) rfl rfl ?_
      refine aq_al (ok := fun k => k == 2) (v := vL (c_5 (y + 17) k)) rfl rfl (by omega) hG17 rfl (by omega) (by omega) rfl ?_
      show am_E _ (77, [vR y, vI t, vI n, vI k], [vL (c_5 (y + 17) k), vI ((40 * t) + k), vR (y + 9)], aq_h m s F c_5) _
      refine aq_asl rfl rfl (by omega) hG9 (by omega) (by omega) rfl ?_
      show am_E _ (78, [vR y, vI t, vI n, vI k], [], aq_h m s F (aq_u c_5 (y + 9) ((40 * t) + k) (c_5 (y + 17) k))) _
      generalize hdc_6 : aq_u c_5 (y + 9) ((40 * t) + k) (c_5 (y + 17) k) = c_6
      have sc_6 := aq_smu sc_5 hdc_6 (by omega)
      refine ae_iinc rfl rfl (am_ri (by omega) (by omega)) ?_
      show am_E _ (81, [vR y, vI t, vI n, vI (k + 1)], [], aq_h m s F c_6) _
      refine am_E.go (t2 := (19, [vR y, vI t, vI n, vI (k + 1)], [], aq_h m s F c_6)) rfl rfl ?_
      exact qx_store_l ⟨hm, hFo, hG5, hG6, hG7, hG8, hG9, hG10, hG11, hG12, hG13, hG14, hG15, hG16, hG17, hG18, hG19, hG20, hG21, hG22, hG23⟩ ht0 ht1 hn1 hn4 hI hR d (k + 1) c_6 sc_6 (by omega) (by omega) (fun i => by rw [← hdc_6, aq_un (Or.inl (by omega)), ← hdc_5, aq_un (Or.inl (by omega)), ← hdc_4, aq_un (Or.inl (by omega))]; exact h5 i) (fun i => by rw [← hdc_6, aq_un (Or.inl (by omega)), ← hdc_5, aq_un (Or.inl (by omega)), ← hdc_4, aq_un (Or.inl (by omega))]; exact h6 i) (fun i hi => by rw [← hdc_6, aq_un (Or.inl (by omega)), ← hdc_5, aq_un (Or.inl (by omega)), ← hdc_4, aq_un (Or.inr (by have := hi k (by omega) (by omega); omega))]; exact h7 i hi) (fun i hi => by rw [← hdc_6, aq_un (Or.inl (by omega)), ← hdc_5, aq_un (Or.inr (by have := hi k (by omega) (by omega); omega)), ← hdc_4, aq_un (Or.inl (by omega))]; exact h8 i hi) (fun i hi => by rw [← hdc_6, aq_un (Or.inr (by have := hi k (by omega) (by omega); omega)), ← hdc_5, aq_un (Or.inl (by omega)), ← hdc_4, aq_un (Or.inl (by omega))]; exact h9 i hi) (fun j h5 h6 => by by_cases e : j = k; (rw [e, ← hdc_6, aq_un (Or.inl (by omega)), ← hdc_5, aq_un (Or.inl (by omega)), ← hdc_4, aq_us, hs _ (by omega)]); rw [← hdc_6, aq_un (Or.inl (by omega)), ← hdc_5, aq_un (Or.inl (by omega)), ← hdc_4, aq_un (Or.inr (by omega))]; exact h7k j h5 (by omega)) (fun j h5 h6 => by by_cases e : j = k; (rw [e, ← hdc_6, aq_un (Or.inl (by omega)), ← hdc_5, aq_us, ← hdc_4, aq_un (Or.inl (by omega)), hs _ (by omega)]); rw [← hdc_6, aq_un (Or.inl (by omega)), ← hdc_5, aq_un (Or.inr (by omega)), ← hdc_4, aq_un (Or.inl (by omega))]; exact h8k j h5 (by omega)) (fun j h5 h6 => by by_cases e : j = k; (rw [e, ← hdc_6, aq_us, ← hdc_5, aq_un (Or.inl (by omega)), ← hdc_4, aq_un (Or.inl (by omega)), hs _ (by omega)]); rw [← hdc_6, aq_un (Or.inr (by omega)), ← hdc_5, aq_un (Or.inl (by omega)), ← hdc_4, aq_un (Or.inl (by omega))]; exact h9k j h5 (by omega)) (by omega)

theorem qx_store {m s : Nat} {F : aq_F} {c : aq_C} {y : Nat} (hO : mo_0 m F y) {t n : Int} (ht0 : 0 ≤ t) (ht1 : t < 8) (hn1 : 1 ≤ n) (hn4 : n ≤ 4) (hI : mo_I y c) (hR : mo_R y (bx_K n) c) : am_E ac_X5_store (0, [vR y, vI t, vI n, vU], [], aq_h m s F c) (aq_Z m s F (fun a => y + 5 ≤ a ∧ a ≤ y + 9) c (fun r d => r = some (vI (c y 17)) ∧ mo_I y d ∧ (∀ i, d (y + 5) i = if i = t then n else c (y + 5) i) ∧ (∀ i, i ≠ t → d (y + 6) i = c (y + 6) i) ∧ sm_e (mr_v y c) (rf_v y t d) ∧ ∀ i, (∀ j, 0 ≤ j → j < 40 → i ≠ 40 * t + j) → d (y + 7) i = c (y + 7) i ∧ d (y + 8) i = c (y + 8) i ∧ d (y + 9) i = c (y + 9) i)) := by
  obtain ⟨hm, hFo, hG5, hG6, hG7, hG8, hG9, hG10, hG11, hG12, hG13, hG14, hG15, hG16, hG17, hG18, hG19, hG20, hG21, hG22, hG23⟩ := hO
  have hR1 := hR.1
  have hR2 := hR.2.1
  refine am_E.go (t2 := (1, [vR y, vI t, vI n, vU], [vR y], aq_h m s F c)) rfl rfl ?_
  refine aq_gf (v := vR (y + 5)) rfl (by omega) hFo (by decide) rfl ?_
  show am_E _ (4, [vR y, vI t, vI n, vU], [vR (y + 5)], aq_h m s F c) _
  refine am_E.go (t2 := (5, [vR y, vI t, vI n, vU], [vI t, vR (y + 5)], aq_h m s F c)) rfl rfl ?_
  refine am_E.go (t2 := (6, [vR y, vI t, vI n, vU], [vI n, vI t, vR (y + 5)], aq_h m s F c)) rfl rfl ?_
  refine aq_as (kd := 0) rfl rfl (by omega) hG5 (by omega) (by omega) rfl rfl ?_
  show am_E _ (7, [vR y, vI t, vI n, vU], [], aq_h m s F (aq_u c (y + 5) t n)) _
  generalize hdc_1 : aq_u c (y + 5) t n = c_1
  have sc_1 := aq_smu (aq_sm0 (c := c) (S := (fun a => y + 5 ≤ a ∧ a ≤ y + 9))) hdc_1 (by omega)
  refine am_E.go (t2 := (8, [vR y, vI t, vI n, vU], [vR y], aq_h m s F c_1)) rfl rfl ?_
  refine aq_gf (v := vR (y + 6)) rfl (by omega) hFo (by decide) rfl ?_
  show am_E _ (11, [vR y, vI t, vI n, vU], [vR (y + 6)], aq_h m s F c_1) _
  refine am_E.go (t2 := (12, [vR y, vI t, vI n, vU], [vI t, vR (y + 6)], aq_h m s F c_1)) rfl rfl ?_
  refine am_E.go (t2 := (13, [vR y, vI t, vI n, vU], [vR y, vI t, vR (y + 6)], aq_h m s F c_1)) rfl rfl ?_
  refine aq_gf (v := vI (c_1 y 17)) rfl (by omega) hFo (by decide) rfl ?_
  show am_E _ (16, [vR y, vI t, vI n, vU], [vI (c_1 y 17), vI t, vR (y + 6)], aq_h m s F c_1) _
  have f_2 := sc_1 y (by omega) 17
  refine aq_as (kd := 0) rfl rfl (by omega) hG6 (by omega) (by omega) rfl rfl ?_
  show am_E _ (17, [vR y, vI t, vI n, vU], [], aq_h m s F (aq_u c_1 (y + 6) t (c_1 y 17))) _
  generalize hdc_3 : aq_u c_1 (y + 6) t (c_1 y 17) = c_3
  have sc_3 := aq_smu sc_1 hdc_3 (by omega)
  refine am_E.go (t2 := (18, [vR y, vI t, vI n, vU], [vI 0], aq_h m s F c_3)) rfl rfl ?_
  refine am_E.go (t2 := (19, [vR y, vI t, vI n, vI 0], [], aq_h m s F c_3)) rfl rfl ?_
  exact qx_store_l ⟨hm, hFo, hG5, hG6, hG7, hG8, hG9, hG10, hG11, hG12, hG13, hG14, hG15, hG16, hG17, hG18, hG19, hG20, hG21, hG22, hG23⟩ ht0 ht1 hn1 hn4 hI hR 41 0 c_3 sc_3 (by omega) (by omega) (fun i => by rw [← hdc_3, aq_un (Or.inl (by omega)), ← hdc_1]; unfold aq_u; by_cases e : i = t; (rw [if_pos ⟨rfl, e⟩, if_pos e]); rw [if_neg (fun h => e h.2), if_neg e]) (fun i => by rw [← hdc_3]; unfold aq_u; by_cases e : i = t; (rw [if_pos ⟨rfl, e⟩, if_pos e, ← hdc_1, aq_un (Or.inl (by omega))]); rw [if_neg (fun h => e h.2), if_neg e, ← hdc_1, aq_un (Or.inl (by omega))]) (fun i _ => by rw [← hdc_3, aq_un (Or.inl (by omega)), ← hdc_1, aq_un (Or.inl (by omega))]) (fun i _ => by rw [← hdc_3, aq_un (Or.inl (by omega)), ← hdc_1, aq_un (Or.inl (by omega))]) (fun i _ => by rw [← hdc_3, aq_un (Or.inl (by omega)), ← hdc_1, aq_un (Or.inl (by omega))]) (fun j _ h6 => absurd h6 (by omega)) (fun j _ h6 => absurd h6 (by omega)) (fun j _ h6 => absurd h6 (by omega)) (by omega)
/-! The class: clear and add, exactly. Printed by wip/p20/sx/gSA.py. -/

/-- clear's answer -/
def ca_a (z s n : Int) : Int := if (0 ≤ s ∧ s < 8) ∧ 1 ≤ n ∧ n ≤ 4 then z else -1
/-- add's answer, and the sum behind it -/
def ad_a (n : Int) (t : sm_) (s b p f : Int) : Int × sm_ := if ((0 ≤ s ∧ s < 8) ∧ (1 ≤ n ∧ n ≤ 4 ∧ 0 ≤ b ∧ b < bx_K n)) ∧ (0 ≤ p ∧ p ≤ 20) ∧ -1000000 ≤ f ∧ f ≤ 1000000 then (match sm_j t b p f with | none => (-5, t) | some t2 => (t2.1, t2)) else (-1, t)
theorem sm_k {K : Int} {t : sm_} {a : Nat} {d : aq_C} (hw : sm_w K t) (he : sm_e t (su_v a d)) : su_k a K d := by
  obtain ⟨z, B, P, Q⟩ := t
  obtain ⟨e1, e2⟩ := he
  obtain ⟨w1, w2, w3, -⟩ := hw
  simp only at e1 e2 w1 w2 w3
  have e3 : z = d a 1 := e1
  refine ⟨by omega, by omega, fun i i0 i1 => ?_⟩
  have k := w3 i i0 (by omega)
  have q := e2 i i0 (by omega)
  have q1 : B i = d (a + 1) i := q.1
  have q3 : Q i = d (a + 3) i := q.2.2
  unfold sm_ok at k
  omega

theorem qx_X4_add {m s : Nat} {F : aq_F} {c : aq_C} (hC : sb_C m F) (hI : cl_I c) {sa b p f : Int} {aa : Nat} (haa : aa = 495 + 4 * sa.toNat) (hW : 0 ≤ sa → sa < 8 → sm_w (bx_K (c aa 0)) (su_v aa c)) : am_E ac_X4_add (0, [vR 0, vI sa, vI b, vI p, vL f, vU], [], aq_h m s F c) (aq_Z m s F (fun a => a < 527) c (fun r d => r = some (vI (ad_a (c aa 0) (su_v aa c) sa b p f).1) ∧ cl_I d ∧ aq_sm (fun x => x = aa ∨ x = aa + 1 ∨ x = aa + 2 ∨ x = aa + 3) c d ∧ d aa 0 = c aa 0 ∧ sm_e (ad_a (c aa 0) (su_v aa c) sa b p f).2 (su_v aa d))) := by
  obtain ⟨hCm, hC0, hC1, hC2, hC3, ⟨hma4, hFa4, hFn4, hFp4, hFf4⟩, ⟨hmx, hFx, hFl, hFw⟩, hCs, hCb, hCh⟩ := id hC
  refine am_E.go (t2 := (1, [vR 0, vI sa, vI b, vI p, vL f, vU], [vI sa], aq_h m s F c)) rfl rfl ?_
  refine am_E.call rfl rfl rfl (Nat.le_of_ble_eq_true rfl) (qn_X4_isSum) ?_
  rintro r5 h5 ⟨rfl, v_1, rfl, hv_1⟩
  show am_E _ (4, [vR 0, vI sa, vI b, vI p, vL f, vU], [vI v_1], aq_h m s F c) _
  refine ae_if0 rfl (fun (q_2 : v_1 = 0) => ?_) (fun (q_2 : v_1 ≠ 0) => ?_)
  · refine am_E.go (t2 := (35, [vR 0, vI sa, vI b, vI p, vL f, vU], [vI (-1)], aq_h m s F c)) rfl rfl ?_
    refine am_E.ret rfl rfl ?_
    have ead : ad_a (c aa 0) (su_v aa c) sa b p f = (-1, su_v aa c) := by
      unfold ad_a
      rw [if_neg (by omega)]
    refine ⟨_, rfl, (aq_sm0 (S := fun a => a < 527)), by rw [ead], hI, fun _ _ _ => rfl, rfl, ?_⟩
    rw [ead]
    exact ⟨rfl, fun _ _ _ => ⟨rfl, rfl, rfl⟩⟩
  · refine am_E.go (t2 := (8, [vR 0, vI sa, vI b, vI p, vL f, vU], [vR 0], aq_h m s F c)) rfl rfl ?_
    refine am_E.go (t2 := (9, [vR 0, vI sa, vI b, vI p, vL f, vU], [vR 0, vR 0], aq_h m s F c)) rfl rfl ?_
    refine aq_gf (v := vR 3) rfl (by omega) hC0 (by decide) rfl ?_
    show am_E _ (12, [vR 0, vI sa, vI b, vI p, vL f, vU], [vR 3, vR 0], aq_h m s F c) _
    refine am_E.go (t2 := (13, [vR 0, vI sa, vI b, vI p, vL f, vU], [vI sa, vR 3, vR 0], aq_h m s F c)) rfl rfl ?_
    obtain ⟨a, e_a⟩ : ∃ x, x = 495 + 4 * (sa).toNat := ⟨_, rfl⟩
    obtain ⟨hmaa, hFaa, hFna, hFpa, hFfa⟩ : su_0 m F a := by rw [e_a]; exact hCs _ (by omega)
    obtain ⟨hu0a, hu4a, hka⟩ : sb_u a c := by rw [e_a]; exact hI.2.2 _ (by omega)
    have hk1a := hka.1
    have hk2a := hka.2.1
    have hWa : sm_w (bx_K (c a 0)) (su_v a c) := by have h9 := hW (by omega) (by omega); rw [show aa = a by rw [haa, e_a]] at h9; exact h9
    refine aq_al (ok := fun k => decide (3 ≤ k) && decide (k < 7)) (v := vR a) rfl rfl (by omega) hC3 rfl (by omega) (by omega) (aq_gi2 (by omega) e_a.symm) ?_
    show am_E _ (14, [vR 0, vI sa, vI b, vI p, vL f, vU], [vR a, vR 0], aq_h m s F c) _
    refine aq_gf (v := vI (c a 0)) rfl (by omega) hFaa (by decide) rfl ?_
    show am_E _ (17, [vR 0, vI sa, vI b, vI p, vL f, vU], [vI (c a 0), vR 0], aq_h m s F c) _
    refine am_E.go (t2 := (18, [vR 0, vI sa, vI b, vI p, vL f, vU], [vI b, vI (c a 0), vR 0], aq_h m s F c)) rfl rfl ?_
    refine aq_callv (y := 3) (as2 := [vI (c a 0), vI b]) (rest := []) rfl rfl (by decide) (Nat.le_of_ble_eq_true rfl) rfl rfl (Nat.le_of_ble_eq_true rfl) (by omega) hC0 rfl (Nat.le_of_ble_eq_true rfl) (qn_X4_isBox hC) ?_
    rintro r5 h5 ⟨rfl, v_3, rfl, hv_3⟩
    show am_E _ (21, [vR 0, vI sa, vI b, vI p, vL f, vU], [vI v_3], aq_h m s F c) _
    refine ae_if0 rfl (fun (q_4 : v_3 = 0) => ?_) (fun (q_4 : v_3 ≠ 0) => ?_)
    · refine am_E.go (t2 := (35, [vR 0, vI sa, vI b, vI p, vL f, vU], [vI (-1)], aq_h m s F c)) rfl rfl ?_
      refine am_E.ret rfl rfl ?_
      have ead : ad_a (c aa 0) (su_v aa c) sa b p f = (-1, su_v aa c) := by
        have e9 : aa = a := by rw [haa, e_a]
        rw [e9]
        unfold ad_a
        rw [if_neg (by omega)]
      refine ⟨_, rfl, (aq_sm0 (S := fun a => a < 527)), by rw [ead], hI, fun _ _ _ => rfl, rfl, ?_⟩
      rw [ead]
      exact ⟨rfl, fun _ _ _ => ⟨rfl, rfl, rfl⟩⟩
    · refine am_E.go (t2 := (25, [vR 0, vI sa, vI b, vI p, vL f, vU], [vI p], aq_h m s F c)) rfl rfl ?_
      refine ae_if0 rfl (fun (q_5 : p < 0) => ?_) (fun (q_5 : 0 ≤ p) => ?_)
      · refine am_E.go (t2 := (35, [vR 0, vI sa, vI b, vI p, vL f, vU], [vI (-1)], aq_h m s F c)) rfl rfl ?_
        refine am_E.ret rfl rfl ?_
        have ead : ad_a (c aa 0) (su_v aa c) sa b p f = (-1, su_v aa c) := by
          have e9 : aa = a := by rw [haa, e_a]
          rw [e9]
          unfold ad_a
          rw [if_neg (by omega)]
        refine ⟨_, rfl, (aq_sm0 (S := fun a => a < 527)), by rw [ead], hI, fun _ _ _ => rfl, rfl, ?_⟩
        rw [ead]
        exact ⟨rfl, fun _ _ _ => ⟨rfl, rfl, rfl⟩⟩
      · refine am_E.go (t2 := (29, [vR 0, vI sa, vI b, vI p, vL f, vU], [vI p], aq_h m s F c)) rfl rfl ?_
        refine am_E.go (t2 := (31, [vR 0, vI sa, vI b, vI p, vL f, vU], [vI 20, vI p], aq_h m s F c)) rfl rfl ?_
        refine ae_icmp rfl (fun (q_6 : p ≤ 20) => ?_) (fun (q_6 : 20 < p) => ?_)
        · refine am_E.go (t2 := (38, [vR 0, vI sa, vI b, vI p, vL f, vU], [vL f], aq_h m s F c)) rfl rfl ?_
          refine am_E.go (t2 := (41, [vR 0, vI sa, vI b, vI p, vL f, vU], [vL (-1000000), vL f], aq_h m s F c)) rfl rfl ?_
          have ez_7 := am_lcf f (-1000000)
          refine am_E.go (t2 := (42, [vR 0, vI sa, vI b, vI p, vL f, vU], [vI (if f < (-1000000) then -1 else if f = (-1000000) then 0 else 1)], aq_h m s F c)) rfl rfl ?_
          generalize (if f < (-1000000) then -1 else if f = (-1000000) then 0 else 1) = z_7 at ez_7 ⊢
          refine ae_if0 rfl (fun (q_8 : z_7 < 0) => ?_) (fun (q_8 : 0 ≤ z_7) => ?_)
          · refine am_E.go (t2 := (55, [vR 0, vI sa, vI b, vI p, vL f, vU], [vI (-1)], aq_h m s F c)) rfl rfl ?_
            refine am_E.ret rfl rfl ?_
            have ead : ad_a (c aa 0) (su_v aa c) sa b p f = (-1, su_v aa c) := by
              have e9 : aa = a := by rw [haa, e_a]
              rw [e9]
              unfold ad_a
              rw [if_neg (by omega)]
            refine ⟨_, rfl, (aq_sm0 (S := fun a => a < 527)), by rw [ead], hI, fun _ _ _ => rfl, rfl, ?_⟩
            rw [ead]
            exact ⟨rfl, fun _ _ _ => ⟨rfl, rfl, rfl⟩⟩
          · refine am_E.go (t2 := (47, [vR 0, vI sa, vI b, vI p, vL f, vU], [vL f], aq_h m s F c)) rfl rfl ?_
            refine am_E.go (t2 := (50, [vR 0, vI sa, vI b, vI p, vL f, vU], [vL 1000000, vL f], aq_h m s F c)) rfl rfl ?_
            have ez_9 := am_lcf f 1000000
            refine am_E.go (t2 := (51, [vR 0, vI sa, vI b, vI p, vL f, vU], [vI (if f < 1000000 then -1 else if f = 1000000 then 0 else 1)], aq_h m s F c)) rfl rfl ?_
            generalize (if f < 1000000 then -1 else if f = 1000000 then 0 else 1) = z_9 at ez_9 ⊢
            refine ae_if0 rfl (fun (q_10 : z_9 ≤ 0) => ?_) (fun (q_10 : 0 < z_9) => ?_)
            · refine am_E.go (t2 := (57, [vR 0, vI sa, vI b, vI p, vL f, vU], [vR 0], aq_h m s F c)) rfl rfl ?_
              refine aq_gf (v := vR 3) rfl (by omega) hC0 (by decide) rfl ?_
              show am_E _ (60, [vR 0, vI sa, vI b, vI p, vL f, vU], [vR 3], aq_h m s F c) _
              refine am_E.go (t2 := (61, [vR 0, vI sa, vI b, vI p, vL f, vU], [vI sa, vR 3], aq_h m s F c)) rfl rfl ?_
              refine aq_al (ok := fun k => decide (3 ≤ k) && decide (k < 7)) (v := vR a) rfl rfl (by omega) hC3 rfl (by omega) (by omega) (aq_gi2 (by omega) e_a.symm) ?_
              show am_E _ (62, [vR 0, vI sa, vI b, vI p, vL f, vU], [vR a], aq_h m s F c) _
              refine am_E.go (t2 := (63, [vR 0, vI sa, vI b, vI p, vL f, vU], [vI b, vR a], aq_h m s F c)) rfl rfl ?_
              refine am_E.go (t2 := (64, [vR 0, vI sa, vI b, vI p, vL f, vU], [vI p, vI b, vR a], aq_h m s F c)) rfl rfl ?_
              refine am_E.go (t2 := (66, [vR 0, vI sa, vI b, vI p, vL f, vU], [vL f, vI p, vI b, vR a], aq_h m s F c)) rfl rfl ?_
              refine aq_callv (y := 4) (as2 := [vI b, vI p, vL f]) (rest := []) rfl rfl (by decide) (Nat.le_of_ble_eq_true rfl) rfl rfl (Nat.le_of_ble_eq_true rfl) (by omega) hFaa rfl (Nat.le_of_ble_eq_true rfl) (qx_join (a := a) ⟨hmaa, hFaa, hFna, hFpa, hFfa⟩ (by omega) (by omega) (fun i i0 i1 => (hWa.2.2.1 i i0 i1).2.2.1) (by unfold sm_ok; omega) (by omega)) ?_
              rintro r5 h5 ⟨c_b, rfl, s_b, v_b, rfl, e_b, q_b⟩
              show am_E _ (69, [vR 0, vI sa, vI b, vI p, vL f, vU], [vI v_b], aq_h m s F c_b) _
              refine ae_if0 rfl (fun (q_11 : v_b = 0) => ?_) (fun (q_11 : v_b ≠ 0) => ?_)
              · refine am_E.go (t2 := (86, [vR 0, vI sa, vI b, vI p, vL f, vU], [vI (-5)], aq_h m s F c_b)) rfl rfl ?_
                refine am_E.ret rfl rfl ?_
                have e9 : aa = a := by rw [haa, e_a]
                rw [e9]
                have ead : ad_a (c a 0) (su_v a c) sa b p f = (match sm_j (su_v a c) b p f with | none => (-5, su_v a c) | some t2 => (t2.1, t2)) := by
                  unfold ad_a
                  rw [if_pos (by omega)]
                obtain ⟨k1, k2, k3⟩ | ⟨k1, k2⟩ := q_b
                · rw [k2] at ead
                  have hcl : cl_I c_b := cl_u hI (j := sa.toNat) (by omega) (by rw [← e_a]; exact s_b) (by rw [← e_a]; exact ⟨by omega, by omega, by rw [e_b]; exact sm_k hWa k3⟩)
                  refine ⟨_, rfl, (aq_smt (aq_sm0 (S := fun a => a < 527)) (aq_smi s_b (fun b h => by omega))), by rw [ead], hcl, s_b, e_b, ?_⟩
                  rw [ead]
                  exact k3
                · exfalso
                  omega
              · refine am_E.go (t2 := (73, [vR 0, vI sa, vI b, vI p, vL f, vU], [vR 0], aq_h m s F c_b)) rfl rfl ?_
                refine aq_gf (v := vR 3) rfl (by omega) hC0 (by decide) rfl ?_
                show am_E _ (76, [vR 0, vI sa, vI b, vI p, vL f, vU], [vR 3], aq_h m s F c_b) _
                refine am_E.go (t2 := (77, [vR 0, vI sa, vI b, vI p, vL f, vU], [vI sa, vR 3], aq_h m s F c_b)) rfl rfl ?_
                refine aq_al (ok := fun k => decide (3 ≤ k) && decide (k < 7)) (v := vR a) rfl rfl (by omega) hC3 rfl (by omega) (by omega) (aq_gi2 (by omega) e_a.symm) ?_
                show am_E _ (78, [vR 0, vI sa, vI b, vI p, vL f, vU], [vR a], aq_h m s F c_b) _
                refine aq_gf (v := vI (c_b a 1)) rfl (by omega) hFaa (by decide) rfl ?_
                show am_E _ (81, [vR 0, vI sa, vI b, vI p, vL f, vU], [vI (c_b a 1)], aq_h m s F c_b) _
                refine am_E.go (t2 := (86, [vR 0, vI sa, vI b, vI p, vL f, vU], [vI (c_b a 1)], aq_h m s F c_b)) rfl rfl ?_
                refine am_E.ret rfl rfl ?_
                have e9 : aa = a := by rw [haa, e_a]
                rw [e9]
                have ead : ad_a (c a 0) (su_v a c) sa b p f = (match sm_j (su_v a c) b p f with | none => (-5, su_v a c) | some t2 => (t2.1, t2)) := by
                  unfold ad_a
                  rw [if_pos (by omega)]
                obtain ⟨k1, k2, k3⟩ | ⟨k1, t2, k2, k3⟩ := q_b
                · exfalso
                  omega
                · rw [k2] at ead
                  have hw2 := sm_jw hWa (by omega) (by omega) (by omega) (by omega) (by unfold sm_ok; omega) k2
                  have hcl : cl_I c_b := cl_u hI (j := sa.toNat) (by omega) (by rw [← e_a]; exact s_b) (by rw [← e_a]; exact ⟨by omega, by omega, by rw [e_b]; exact sm_k hw2 k3⟩)
                  refine ⟨_, rfl, (aq_smt (aq_sm0 (S := fun a => a < 527)) (aq_smi s_b (fun b h => by omega))), ?_, hcl, s_b, e_b, ?_⟩
                  · rw [ead]
                    exact congrArg (fun z => some (vI z)) k3.1.symm
                  · rw [ead]
                    exact k3
            · refine am_E.go (t2 := (55, [vR 0, vI sa, vI b, vI p, vL f, vU], [vI (-1)], aq_h m s F c)) rfl rfl ?_
              refine am_E.ret rfl rfl ?_
              have ead : ad_a (c aa 0) (su_v aa c) sa b p f = (-1, su_v aa c) := by
                have e9 : aa = a := by rw [haa, e_a]
                rw [e9]
                unfold ad_a
                rw [if_neg (by omega)]
              refine ⟨_, rfl, (aq_sm0 (S := fun a => a < 527)), by rw [ead], hI, fun _ _ _ => rfl, rfl, ?_⟩
              rw [ead]
              exact ⟨rfl, fun _ _ _ => ⟨rfl, rfl, rfl⟩⟩
        · refine am_E.go (t2 := (35, [vR 0, vI sa, vI b, vI p, vL f, vU], [vI (-1)], aq_h m s F c)) rfl rfl ?_
          refine am_E.ret rfl rfl ?_
          have ead : ad_a (c aa 0) (su_v aa c) sa b p f = (-1, su_v aa c) := by
            have e9 : aa = a := by rw [haa, e_a]
            rw [e9]
            unfold ad_a
            rw [if_neg (by omega)]
          refine ⟨_, rfl, (aq_sm0 (S := fun a => a < 527)), by rw [ead], hI, fun _ _ _ => rfl, rfl, ?_⟩
          rw [ead]
          exact ⟨rfl, fun _ _ _ => ⟨rfl, rfl, rfl⟩⟩
/-! The reference: add, exactly. Printed by wip/p20/sx/gSB_m.py. -/

theorem sm_es {t u : sm_} (h : sm_e t u) : sm_e u t := ⟨h.1.symm, fun i i0 i1 => by have k := h.2 i i0 (by rw [h.1]; exact i1); exact ⟨k.1.symm, k.2.1.symm, k.2.2.symm⟩⟩
theorem sm_et {t u v : sm_} (h : sm_e t u) (h2 : sm_e u v) : sm_e t v := ⟨h.1.trans h2.1, fun i i0 i1 => by
  have k := h.2 i i0 i1
  have k2 := h2.2 i i0 (by rw [← h.1]; exact i1)
  exact ⟨k.1.trans k2.1, k.2.1.trans k2.2.1, k.2.2.trans k2.2.2⟩⟩
theorem sm_j0 {K b p : Int} {t : sm_} (hw : sm_w K t) : ∃ t2, sm_j t b p 0 = some t2 ∧ sm_e t t2 := by
  obtain ⟨z, B, P, Q⟩ := t
  have kb := sm_pb (B := B) (P := P) (z := z) (b := b) (p := p) 41 0 hw.1
  obtain ⟨w1, w2, w3, -⟩ := hw
  simp only at w1 w2 w3
  unfold sm_j
  simp only
  generalize sm_p B P z b p 41 0 = k at kb ⊢
  by_cases c1 : k < z ∧ B k = b ∧ P k = p
  · have q := w3 k kb.1 c1.1
    rw [if_pos c1, if_pos (by rw [Int.add_zero]; exact q.2.2.1), if_neg (by rw [Int.add_zero]; exact q.2.2.2)]
    refine ⟨_, rfl, rfl, fun i i0 i1 => ⟨rfl, rfl, ?_⟩⟩
    simp only
    unfold sm_s
    by_cases e : i = k
    · rw [if_pos e, e, Int.add_zero]
    · rw [if_neg e]
  · rw [if_neg c1, if_pos trivial]
    exact ⟨_, rfl, rfl, fun i i0 i1 => ⟨rfl, rfl, rfl⟩⟩
/-- what comes tells of the row, told of the sum that was loaded -/
theorem sm_cm {K b p f v : Int} {t u w : sm_} (hw : sm_w K t) (hL : sm_e t u) (q : (f = 0 ∧ v = 1 ∧ sm_e u w) ∨ (f ≠ 0 ∧ v = 0 ∧ sm_j u b p f = none) ∨ (f ≠ 0 ∧ v = 1 ∧ ∃ t2, sm_j u b p f = some t2 ∧ sm_e t2 w)) : (v = 0 ∧ sm_j t b p f = none) ∨ (v = 1 ∧ ∃ t2, sm_j t b p f = some t2 ∧ sm_e t2 w) := by
  have j := sm_jc (b := b) (p := p) (f := f) hL hw.1
  rcases q with ⟨k1, k2, k3⟩ | ⟨k1, k2, k3⟩ | ⟨k1, k2, t2, k3, k4⟩
  · obtain ⟨t3, e1, e2⟩ := sm_j0 (b := b) (p := p) hw
    rw [k1]
    exact Or.inr ⟨k2, t3, e1, sm_et (sm_es e2) (sm_et hL k3)⟩
  · exact Or.inl ⟨k2, j.1.mpr k3⟩
  · cases h : sm_j t b p f with
    | none =>
      have := j.1.mp h
      rw [k3] at this
      exact absurd this (by simp)
    | some t3 => exact Or.inr ⟨k2, t3, rfl, sm_et (j.2 t3 t2 h k3) k4⟩
theorem sm_mr {K : Int} {t : sm_} {y : Nat} {d : aq_C} (hw : sm_w K t) (he : sm_e t (mr_v y d)) : mo_R y K d := by
  obtain ⟨z, B, P, Q⟩ := t
  obtain ⟨e1, e2⟩ := he
  obtain ⟨w1, w2, w3, -⟩ := hw
  simp only at e1 e2 w1 w2 w3
  have e3 : z = d y 17 := e1
  refine ⟨by omega, by omega, fun i i0 i1 => ?_⟩
  have k := w3 i i0 (by omega)
  have q := e2 i i0 (by omega)
  have q1 : B i = d (y + 15) i := q.1
  have q3 : Q i = d (y + 17) i := q.2.2
  unfold sm_ok at k
  unfold mo_v
  omega

theorem qx_X5_add {m s : Nat} {F : aq_F} {c : aq_C} {y : Nat} (hC : mo_C m F y) (hI : mo_I y c) {t b p f : Int} (hW : 0 ≤ t → t < 8 → sm_w (bx_K (c (y + 5) t)) (rf_v y t c)) : am_E ac_X5_add (0, [vR y, vI t, vI b, vI p, vL f, vU], [], aq_h m s F c) (aq_Z m s F (fun a => y ≤ a ∧ a < y + 24) c (fun r d => r = some (vI (ad_a (c (y + 5) t) (rf_v y t c) t b p f).1) ∧ mo_I y d ∧ (∀ i, i ≠ t → d (y + 5) i = c (y + 5) i ∧ d (y + 6) i = c (y + 6) i) ∧ (∀ i, (∀ j, 0 ≤ j → j < 40 → i ≠ 40 * t + j) → d (y + 7) i = c (y + 7) i ∧ d (y + 8) i = c (y + 8) i ∧ d (y + 9) i = c (y + 9) i) ∧ d (y + 5) t = c (y + 5) t ∧ sm_e (ad_a (c (y + 5) t) (rf_v y t c) t b p f).2 (rf_v y t d))) := by
  obtain ⟨⟨hm, hFo, hG5, hG6, hG7, hG8, hG9, hG10, hG11, hG12, hG13, hG14, hG15, hG16, hG17, hG18, hG19, hG20, hG21, hG22, hG23⟩, ⟨tbl, hT1, hTt⟩, ⟨tA, tB, tD, hL1, hL2, hL3, hLt⟩⟩ := hC
  refine am_E.go (t2 := (1, [vR y, vI t, vI b, vI p, vL f, vU], [vI t], aq_h m s F c)) rfl rfl ?_
  refine am_E.call rfl rfl rfl (Nat.le_of_ble_eq_true rfl) (qm_isSum) ?_
  rintro r5 h5 ⟨rfl, v_1, rfl, hv_1⟩
  show am_E _ (4, [vR y, vI t, vI b, vI p, vL f, vU], [vI v_1], aq_h m s F c) _
  refine ae_if0 rfl (fun (q_2 : v_1 = 0) => ?_) (fun (q_2 : v_1 ≠ 0) => ?_)
  · refine am_E.go (t2 := (47, [vR y, vI t, vI b, vI p, vL f, vU], [vI (-1)], aq_h m s F c)) rfl rfl ?_
    refine am_E.ret rfl rfl ?_
    have ead : ad_a (c (y + 5) t) (rf_v y t c) t b p f = (-1, rf_v y t c) := by
      unfold ad_a
      rw [if_neg (by omega)]
    refine ⟨_, rfl, (aq_sm0 (c := c) (S := fun a => y ≤ a ∧ a < y + 24)), by rw [ead], hI, fun _ _ => ⟨rfl, rfl⟩, fun _ _ => ⟨rfl, rfl, rfl⟩, rfl, ?_⟩
    rw [ead]
    exact ⟨rfl, fun _ _ _ => ⟨rfl, rfl, rfl⟩⟩
  · refine am_E.go (t2 := (8, [vR y, vI t, vI b, vI p, vL f, vU], [vR y], aq_h m s F c)) rfl rfl ?_
    refine aq_gf (v := vR (y + 5)) rfl (by omega) hFo (by decide) rfl ?_
    show am_E _ (11, [vR y, vI t, vI b, vI p, vL f, vU], [vR (y + 5)], aq_h m s F c) _
    refine am_E.go (t2 := (12, [vR y, vI t, vI b, vI p, vL f, vU], [vI t, vR (y + 5)], aq_h m s F c)) rfl rfl ?_
    refine aq_al (ok := fun k => k == 0) (v := vI (c (y + 5) t)) rfl rfl (by omega) hG5 rfl (by omega) (by omega) rfl ?_
    show am_E _ (13, [vR y, vI t, vI b, vI p, vL f, vU], [vI (c (y + 5) t)], aq_h m s F c) _
    obtain ⟨hu1t, hu2t, hu3t, hu4t, hu5t⟩ := hI.2 t (by omega) (by omega)
    refine am_E.go (t2 := (14, [vR y, vI t, vI b, vI p, vL f, vU], [vI b, vI (c (y + 5) t)], aq_h m s F c)) rfl rfl ?_
    refine am_E.call rfl rfl rfl (Nat.le_of_ble_eq_true rfl) (qm_isBox) ?_
    rintro r5 h5 ⟨rfl, v_4, rfl, hv_4⟩
    show am_E _ (17, [vR y, vI t, vI b, vI p, vL f, vU], [vI v_4], aq_h m s F c) _
    refine ae_if0 rfl (fun (q_5 : v_4 = 0) => ?_) (fun (q_5 : v_4 ≠ 0) => ?_)
    · refine am_E.go (t2 := (47, [vR y, vI t, vI b, vI p, vL f, vU], [vI (-1)], aq_h m s F c)) rfl rfl ?_
      refine am_E.ret rfl rfl ?_
      have ead : ad_a (c (y + 5) t) (rf_v y t c) t b p f = (-1, rf_v y t c) := by
        unfold ad_a
        rw [if_neg (by omega)]
      refine ⟨_, rfl, (aq_sm0 (c := c) (S := fun a => y ≤ a ∧ a < y + 24)), by rw [ead], hI, fun _ _ => ⟨rfl, rfl⟩, fun _ _ => ⟨rfl, rfl, rfl⟩, rfl, ?_⟩
      rw [ead]
      exact ⟨rfl, fun _ _ _ => ⟨rfl, rfl, rfl⟩⟩
    · refine am_E.go (t2 := (21, [vR y, vI t, vI b, vI p, vL f, vU], [vI p], aq_h m s F c)) rfl rfl ?_
      refine am_E.go (t2 := (22, [vR y, vI t, vI b, vI p, vL f, vU], [vL p], aq_h m s F c)) rfl rfl ?_
      refine am_E.go (t2 := (23, [vR y, vI t, vI b, vI p, vL f, vU], [vL 0, vL p], aq_h m s F c)) rfl rfl ?_
      refine am_E.go (t2 := (26, [vR y, vI t, vI b, vI p, vL f, vU], [vL 20, vL 0, vL p], aq_h m s F c)) rfl rfl ?_
      refine am_E.call rfl rfl rfl (Nat.le_of_ble_eq_true rfl) (qm_in) ?_
      rintro r5 h5 ⟨rfl, v_6, rfl, hv_6⟩
      show am_E _ (29, [vR y, vI t, vI b, vI p, vL f, vU], [vI v_6], aq_h m s F c) _
      refine ae_if0 rfl (fun (q_7 : v_6 = 0) => ?_) (fun (q_7 : v_6 ≠ 0) => ?_)
      · refine am_E.go (t2 := (47, [vR y, vI t, vI b, vI p, vL f, vU], [vI (-1)], aq_h m s F c)) rfl rfl ?_
        refine am_E.ret rfl rfl ?_
        have ead : ad_a (c (y + 5) t) (rf_v y t c) t b p f = (-1, rf_v y t c) := by
          unfold ad_a
          rw [if_neg (by omega)]
        refine ⟨_, rfl, (aq_sm0 (c := c) (S := fun a => y ≤ a ∧ a < y + 24)), by rw [ead], hI, fun _ _ => ⟨rfl, rfl⟩, fun _ _ => ⟨rfl, rfl, rfl⟩, rfl, ?_⟩
        rw [ead]
        exact ⟨rfl, fun _ _ _ => ⟨rfl, rfl, rfl⟩⟩
      · refine am_E.go (t2 := (34, [vR y, vI t, vI b, vI p, vL f, vU], [vL f], aq_h m s F c)) rfl rfl ?_
        refine am_E.go (t2 := (37, [vR y, vI t, vI b, vI p, vL f, vU], [vL (-1000000), vL f], aq_h m s F c)) rfl rfl ?_
        refine am_E.go (t2 := (40, [vR y, vI t, vI b, vI p, vL f, vU], [vL 1000000, vL (-1000000), vL f], aq_h m s F c)) rfl rfl ?_
        refine am_E.call rfl rfl rfl (Nat.le_of_ble_eq_true rfl) (qm_in) ?_
        rintro r5 h5 ⟨rfl, v_8, rfl, hv_8⟩
        show am_E _ (43, [vR y, vI t, vI b, vI p, vL f, vU], [vI v_8], aq_h m s F c) _
        refine ae_if0 rfl (fun (q_9 : v_8 ≠ 0) => ?_) (fun (q_9 : v_8 = 0) => ?_)
        · refine am_E.go (t2 := (49, [vR y, vI t, vI b, vI p, vL f, vU], [vR y], aq_h m s F c)) rfl rfl ?_
          refine am_E.go (t2 := (50, [vR y, vI t, vI b, vI p, vL f, vU], [vI t, vR y], aq_h m s F c)) rfl rfl ?_
          refine aq_callv (y := 2) (as2 := [vI t]) (rest := []) rfl rfl (by decide) (Nat.le_of_ble_eq_true rfl) rfl rfl (Nat.le_of_ble_eq_true rfl) (by omega) hFo rfl (Nat.le_of_ble_eq_true rfl) (qx_load ⟨hm, hFo, hG5, hG6, hG7, hG8, hG9, hG10, hG11, hG12, hG13, hG14, hG15, hG16, hG17, hG18, hG19, hG20, hG21, hG22, hG23⟩ (by omega) (by omega) (by omega) (by omega)) ?_
          rintro r5 h5 ⟨c_l, rfl, s_l, rfl, q_l, L_l⟩
          show am_E _ (53, [vR y, vI t, vI b, vI p, vL f, vU], [], aq_h m s F c_l) _
          have z_l : c (y + 6) t = c_l y 17 := L_l.1
          have hWt := hW (by omega) (by omega)
          refine am_E.go (t2 := (54, [vR y, vI t, vI b, vI p, vL f, vU], [vR y], aq_h m s F c_l)) rfl rfl ?_
          refine am_E.go (t2 := (55, [vR y, vI t, vI b, vI p, vL f, vU], [vI b, vR y], aq_h m s F c_l)) rfl rfl ?_
          refine am_E.go (t2 := (56, [vR y, vI t, vI b, vI p, vL f, vU], [vI p, vI b, vR y], aq_h m s F c_l)) rfl rfl ?_
          refine am_E.go (t2 := (58, [vR y, vI t, vI b, vI p, vL f, vU], [vL f, vI p, vI b, vR y], aq_h m s F c_l)) rfl rfl ?_
          refine aq_callv (y := 4) (as2 := [vI b, vI p, vL f]) (rest := []) rfl rfl (by decide) (Nat.le_of_ble_eq_true rfl) rfl rfl (Nat.le_of_ble_eq_true rfl) (by omega) hFo rfl (Nat.le_of_ble_eq_true rfl) (qx_comes ⟨hm, hFo, hG5, hG6, hG7, hG8, hG9, hG10, hG11, hG12, hG13, hG14, hG15, hG16, hG17, hG18, hG19, hG20, hG21, hG22, hG23⟩ (by omega) (by omega) (fun i i0 i1 => by have k9 := (hWt.2.2.1 i i0 (by show i < c (y + 6) t; omega)).2.2.1; have k8 := (L_l.2 i i0 (by show i < c (y + 6) t; omega)).2.2; rw [k8] at k9; exact k9) (by unfold sm_ok; omega) (by omega)) ?_
          rintro r5 h5 ⟨c_k, rfl, s_k, v_k, rfl, q_k, R_k⟩
          show am_E _ (61, [vR y, vI t, vI b, vI p, vL f, vU], [vI v_k], aq_h m s F c_k) _
          have hI_k := mo_Iw hI (aq_smt (aq_smi s_l (fun a h => mo_S3 h)) (aq_smi s_k (fun a h => mo_S3 h))) (mo_qt q_l q_k)
          have cm := sm_cm hWt L_l R_k
          refine ae_if0 rfl (fun (q_10 : v_k = 0) => ?_) (fun (q_10 : v_k ≠ 0) => ?_)
          · refine am_E.go (t2 := (80, [vR y, vI t, vI b, vI p, vL f, vU], [vI (-5)], aq_h m s F c_k)) rfl rfl ?_
            refine am_E.ret rfl rfl ?_
            have ead : ad_a (c (y + 5) t) (rf_v y t c) t b p f = (match sm_j (rf_v y t c) b p f with | none => (-5, rf_v y t c) | some t2 => (t2.1, t2)) := by
              unfold ad_a
              rw [if_pos (by omega)]
              try (cases sm_j (rf_v y t c) b p f <;> rfl)
            have k2 : sm_j (rf_v y t c) b p f = none := by
              rcases cm with ⟨k1, k2⟩ | ⟨k1, k2⟩
              · exact k2
              · exfalso; omega
            rw [k2] at ead
            refine ⟨_, rfl, (aq_smt (aq_smt (aq_sm0 (c := c) (S := fun a => y ≤ a ∧ a < y + 24)) (aq_smi s_l (fun a h => by omega))) (aq_smi s_k (fun a h => by omega))), by rw [ead], hI_k, fun i _ => ⟨by rw [s_k _ (by omega), s_l _ (by omega)], by rw [s_k _ (by omega), s_l _ (by omega)]⟩, fun i _ => ⟨by rw [s_k _ (by omega), s_l _ (by omega)], by rw [s_k _ (by omega), s_l _ (by omega)], by rw [s_k _ (by omega), s_l _ (by omega)]⟩, by rw [s_k _ (by omega), s_l _ (by omega)], ?_⟩
            rw [ead]
            refine ⟨?_, fun i i0 i1 => ⟨?_, ?_, ?_⟩⟩
            · show c (y + 6) t = c_k (y + 6) t
              rw [s_k _ (by omega), s_l _ (by omega)]
            · show c (y + 7) _ = c_k (y + 7) _
              rw [s_k _ (by omega), s_l _ (by omega)]
            · show c (y + 8) _ = c_k (y + 8) _
              rw [s_k _ (by omega), s_l _ (by omega)]
            · show c (y + 9) _ = c_k (y + 9) _
              rw [s_k _ (by omega), s_l _ (by omega)]
          · refine am_E.go (t2 := (65, [vR y, vI t, vI b, vI p, vL f, vU], [vR y], aq_h m s F c_k)) rfl rfl ?_
            refine am_E.go (t2 := (66, [vR y, vI t, vI b, vI p, vL f, vU], [vI t, vR y], aq_h m s F c_k)) rfl rfl ?_
            refine am_E.go (t2 := (67, [vR y, vI t, vI b, vI p, vL f, vU], [vR y, vI t, vR y], aq_h m s F c_k)) rfl rfl ?_
            refine aq_gf (v := vR (y + 5)) rfl (by omega) hFo (by decide) rfl ?_
            show am_E _ (70, [vR y, vI t, vI b, vI p, vL f, vU], [vR (y + 5), vI t, vR y], aq_h m s F c_k) _
            refine am_E.go (t2 := (71, [vR y, vI t, vI b, vI p, vL f, vU], [vI t, vR (y + 5), vI t, vR y], aq_h m s F c_k)) rfl rfl ?_
            refine aq_al (ok := fun k => k == 0) (v := vI (c_k (y + 5) t)) rfl rfl (by omega) hG5 rfl (by omega) (by omega) rfl ?_
            show am_E _ (72, [vR y, vI t, vI b, vI p, vL f, vU], [vI (c_k (y + 5) t), vI t, vR y], aq_h m s F c_k) _
            have e_5 : c_k (y + 5) t = c (y + 5) t := by rw [s_k _ (by omega), s_l _ (by omega)]
            obtain ⟨t2, e_j, e_w⟩ : ∃ t2, sm_j (rf_v y t c) b p f = some t2 ∧ sm_e t2 (mr_v y c_k) := by
              rcases cm with ⟨k1, k2⟩ | ⟨k1, k2⟩
              · exfalso; omega
              · exact k2
            have hw2 := sm_jw hWt (by omega) (by omega) (by omega) (by omega) (by unfold sm_ok; omega) e_j
            refine aq_callv (y := 3) (as2 := [vI t, vI (c_k (y + 5) t)]) (rest := []) rfl rfl (by decide) (Nat.le_of_ble_eq_true rfl) rfl rfl (Nat.le_of_ble_eq_true rfl) (by omega) hFo rfl (Nat.le_of_ble_eq_true rfl) (qx_store ⟨hm, hFo, hG5, hG6, hG7, hG8, hG9, hG10, hG11, hG12, hG13, hG14, hG15, hG16, hG17, hG18, hG19, hG20, hG21, hG22, hG23⟩ (by omega) (by omega) (by omega) (by omega) hI_k (by rw [e_5]; exact sm_mr hw2 e_w)) ?_
            rintro r5 h5 ⟨c_b, rfl, s_b, rfl, hI_b, b5, b6, b7, b8⟩
            show am_E _ (75, [vR y, vI t, vI b, vI p, vL f, vU], [vI (c_k y 17)], aq_h m s F c_b) _
            refine am_E.go (t2 := (80, [vR y, vI t, vI b, vI p, vL f, vU], [vI (c_k y 17)], aq_h m s F c_b)) rfl rfl ?_
            refine am_E.ret rfl rfl ?_
            have ead : ad_a (c (y + 5) t) (rf_v y t c) t b p f = (match sm_j (rf_v y t c) b p f with | none => (-5, rf_v y t c) | some t2 => (t2.1, t2)) := by
              unfold ad_a
              rw [if_pos (by omega)]
              try (cases sm_j (rf_v y t c) b p f <;> rfl)
            rw [e_j] at ead
            refine ⟨_, rfl, (aq_smt (aq_smt (aq_smt (aq_sm0 (c := c) (S := fun a => y ≤ a ∧ a < y + 24)) (aq_smi s_l (fun a h => by omega))) (aq_smi s_k (fun a h => by omega))) (aq_smi s_b (fun a h => by omega))), ?_, hI_b, fun i hi => ⟨by rw [b5 i, if_neg hi, s_k _ (by omega), s_l _ (by omega)], by rw [b6 i hi, s_k _ (by omega), s_l _ (by omega)]⟩, fun i hi => ⟨by rw [(b8 i hi).1, s_k _ (by omega), s_l _ (by omega)], by rw [(b8 i hi).2.1, s_k _ (by omega), s_l _ (by omega)], by rw [(b8 i hi).2.2, s_k _ (by omega), s_l _ (by omega)]⟩, by rw [b5 t, if_pos rfl, e_5], ?_⟩
            · rw [ead]
              exact congrArg (fun z => some (vI z)) e_w.1.symm
            · rw [ead]
              exact sm_et e_w b7
        · refine am_E.go (t2 := (47, [vR y, vI t, vI b, vI p, vL f, vU], [vI (-1)], aq_h m s F c)) rfl rfl ?_
          refine am_E.ret rfl rfl ?_
          have ead : ad_a (c (y + 5) t) (rf_v y t c) t b p f = (-1, rf_v y t c) := by
            unfold ad_a
            rw [if_neg (by omega)]
          refine ⟨_, rfl, (aq_sm0 (c := c) (S := fun a => y ≤ a ∧ a < y + 24)), by rw [ead], hI, fun _ _ => ⟨rfl, rfl⟩, fun _ _ => ⟨rfl, rfl, rfl⟩, rfl, ?_⟩
          rw [ead]
          exact ⟨rfl, fun _ _ _ => ⟨rfl, rfl, rfl⟩⟩
/-! The class: clear, exactly. Printed by wip/p20/sx/gSC.py. -/

theorem qx_X4_clear {m s : Nat} {F : aq_F} {c : aq_C} (hC : sb_C m F) (hI : cl_I c) {sa nn : Int} {aa : Nat} (haa : aa = 495 + 4 * sa.toNat) : am_E ac_X4_clear (0, [vR 0, vI sa, vI nn, vU], [], aq_h m s F c) (aq_Z m s F (fun a => a < 527) c (fun r d => r = some (vI (ca_a (c aa 1) sa nn)) ∧ cl_I d ∧ aq_sm (fun x => x = aa ∨ x = aa + 1 ∨ x = aa + 2 ∨ x = aa + 3) c d ∧ (((0 ≤ sa ∧ sa < 8) ∧ 1 ≤ nn ∧ nn ≤ 4) → d aa 0 = nn ∧ d aa 1 = 0) ∧ (¬ ((0 ≤ sa ∧ sa < 8) ∧ 1 ≤ nn ∧ nn ≤ 4) → ∀ x i, d x i = c x i))) := by
  obtain ⟨hCm, hC0, hC1, hC2, hC3, ⟨hma4, hFa4, hFn4, hFp4, hFf4⟩, ⟨hmx, hFx, hFl, hFw⟩, hCs, hCb, hCh⟩ := id hC
  refine am_E.go (t2 := (1, [vR 0, vI sa, vI nn, vU], [vI sa], aq_h m s F c)) rfl rfl ?_
  refine am_E.call rfl rfl rfl (Nat.le_of_ble_eq_true rfl) (qn_X4_isSum) ?_
  rintro r5 h5 ⟨rfl, v_1, rfl, hv_1⟩
  show am_E _ (4, [vR 0, vI sa, vI nn, vU], [vI v_1], aq_h m s F c) _
  refine ae_if0 rfl (fun (q_2 : v_1 = 0) => ?_) (fun (q_2 : v_1 ≠ 0) => ?_)
  · refine am_E.go (t2 := (15, [vR 0, vI sa, vI nn, vU], [vI (-1)], aq_h m s F c)) rfl rfl ?_
    refine am_E.ret rfl rfl ?_
    exact ⟨_, rfl, (aq_sm0 (S := fun a => a < 527)), by unfold ca_a; rw [if_neg (by omega)], hI, fun _ _ _ => rfl, fun q => absurd q (by omega), fun _ _ _ => rfl⟩
  · refine am_E.go (t2 := (8, [vR 0, vI sa, vI nn, vU], [vI nn], aq_h m s F c)) rfl rfl ?_
    refine am_E.call rfl rfl rfl (Nat.le_of_ble_eq_true rfl) (qn_X4_isStrands) ?_
    rintro r5 h5 ⟨rfl, v_3, rfl, hv_3⟩
    show am_E _ (11, [vR 0, vI sa, vI nn, vU], [vI v_3], aq_h m s F c) _
    refine ae_if0 rfl (fun (q_4 : v_3 ≠ 0) => ?_) (fun (q_4 : v_3 = 0) => ?_)
    · refine am_E.go (t2 := (17, [vR 0, vI sa, vI nn, vU], [vR 0], aq_h m s F c)) rfl rfl ?_
      refine aq_gf (v := vR 3) rfl (by omega) hC0 (by decide) rfl ?_
      show am_E _ (20, [vR 0, vI sa, vI nn, vU], [vR 3], aq_h m s F c) _
      refine am_E.go (t2 := (21, [vR 0, vI sa, vI nn, vU], [vI sa, vR 3], aq_h m s F c)) rfl rfl ?_
      obtain ⟨a, e_a⟩ : ∃ x, x = 495 + 4 * (sa).toNat := ⟨_, rfl⟩
      obtain ⟨hmaa, hFaa, hFna, hFpa, hFfa⟩ : su_0 m F a := by rw [e_a]; exact hCs _ (by omega)
      obtain ⟨hu0a, hu4a, hka⟩ : sb_u a c := by rw [e_a]; exact hI.2.2 _ (by omega)
      have hk1a := hka.1
      have hk2a := hka.2.1
      refine aq_al (ok := fun k => decide (3 ≤ k) && decide (k < 7)) (v := vR a) rfl rfl (by omega) hC3 rfl (by omega) (by omega) (aq_gi2 (by omega) e_a.symm) ?_
      show am_E _ (22, [vR 0, vI sa, vI nn, vU], [vR a], aq_h m s F c) _
      refine aq_gf (v := vI (c a 1)) rfl (by omega) hFaa (by decide) rfl ?_
      show am_E _ (25, [vR 0, vI sa, vI nn, vU], [vI (c a 1)], aq_h m s F c) _
      refine am_E.go (t2 := (26, [vR 0, vI sa, vI nn, vI (c a 1)], [], aq_h m s F c)) rfl rfl ?_
      refine am_E.go (t2 := (27, [vR 0, vI sa, vI nn, vI (c a 1)], [vR 0], aq_h m s F c)) rfl rfl ?_
      refine aq_gf (v := vR 3) rfl (by omega) hC0 (by decide) rfl ?_
      show am_E _ (30, [vR 0, vI sa, vI nn, vI (c a 1)], [vR 3], aq_h m s F c) _
      refine am_E.go (t2 := (31, [vR 0, vI sa, vI nn, vI (c a 1)], [vI sa, vR 3], aq_h m s F c)) rfl rfl ?_
      refine aq_al (ok := fun k => decide (3 ≤ k) && decide (k < 7)) (v := vR a) rfl rfl (by omega) hC3 rfl (by omega) (by omega) (aq_gi2 (by omega) e_a.symm) ?_
      show am_E _ (32, [vR 0, vI sa, vI nn, vI (c a 1)], [vR a], aq_h m s F c) _
      refine am_E.go (t2 := (33, [vR 0, vI sa, vI nn, vI (c a 1)], [vI nn, vR a], aq_h m s F c)) rfl rfl ?_
      refine aq_callv (y := 2) (as2 := [vI nn]) (rest := []) rfl rfl (by decide) (Nat.le_of_ble_eq_true rfl) rfl rfl (Nat.le_of_ble_eq_true rfl) (by omega) hFaa rfl (Nat.le_of_ble_eq_true rfl) (qn_X3_begin (a := a) ⟨hmaa, hFaa, hFna, hFpa, hFfa⟩) ?_
      rintro r5 h5 ⟨c_b, rfl, s_b, rfl, hb0, hb1⟩
      show am_E _ (36, [vR 0, vI sa, vI nn, vI (c a 1)], [], aq_h m s F c_b) _
      refine am_E.go (t2 := (37, [vR 0, vI sa, vI nn, vI (c a 1)], [vI (c a 1)], aq_h m s F c_b)) rfl rfl ?_
      refine am_E.ret rfl rfl ?_
      have e9 : aa = a := by rw [haa, e_a]
      rw [e9]
      refine ⟨_, rfl, (aq_smt (aq_sm0 (S := fun a => a < 527)) (aq_smi s_b (fun b h => by omega))), by unfold ca_a; rw [if_pos (by omega)], cl_u hI (j := sa.toNat) (by omega) (by rw [← e_a]; exact s_b) (by rw [← e_a]; exact ⟨by omega, by omega, ⟨by omega, by omega, fun i h1 h2 => absurd h2 (by omega)⟩⟩), s_b, fun _ => ⟨hb0, hb1⟩, fun q => absurd (show ((0 ≤ sa ∧ sa < 8) ∧ 1 ≤ nn ∧ nn ≤ 4) by omega) q⟩
    · refine am_E.go (t2 := (15, [vR 0, vI sa, vI nn, vU], [vI (-1)], aq_h m s F c)) rfl rfl ?_
      refine am_E.ret rfl rfl ?_
      exact ⟨_, rfl, (aq_sm0 (S := fun a => a < 527)), by unfold ca_a; rw [if_neg (by omega)], hI, fun _ _ _ => rfl, fun q => absurd q (by omega), fun _ _ _ => rfl⟩
/-! The reference: clear, exactly. Printed by wip/p20/sx/gSC_m.py. -/

theorem qx_X5_clear {m s : Nat} {F : aq_F} {c : aq_C} {y : Nat} (hC : mo_C m F y) (hI : mo_I y c) {t n : Int} : am_E ac_X5_clear (0, [vR y, vI t, vI n, vU, vU], [], aq_h m s F c) (aq_Z m s F (fun a => y ≤ a ∧ a < y + 24) c (fun r d => r = some (vI (ca_a (c (y + 6) t) t n)) ∧ mo_I y d ∧ (∀ i, i ≠ t → d (y + 5) i = c (y + 5) i ∧ d (y + 6) i = c (y + 6) i) ∧ (∀ i, (∀ j, 0 ≤ j → j < 40 → i ≠ 40 * t + j) → d (y + 7) i = c (y + 7) i ∧ d (y + 8) i = c (y + 8) i ∧ d (y + 9) i = c (y + 9) i) ∧ (((0 ≤ t ∧ t < 8) ∧ 1 ≤ n ∧ n ≤ 4) → d (y + 5) t = n ∧ d (y + 6) t = 0) ∧ (¬ ((0 ≤ t ∧ t < 8) ∧ 1 ≤ n ∧ n ≤ 4) → ∀ x i, d x i = c x i))) := by
  obtain ⟨⟨hm, hFo, hG5, hG6, hG7, hG8, hG9, hG10, hG11, hG12, hG13, hG14, hG15, hG16, hG17, hG18, hG19, hG20, hG21, hG22, hG23⟩, ⟨tbl, hT1, hTt⟩, ⟨tA, tB, tD, hL1, hL2, hL3, hLt⟩⟩ := hC
  refine am_E.go (t2 := (1, [vR y, vI t, vI n, vU, vU], [vI t], aq_h m s F c)) rfl rfl ?_
  refine am_E.call rfl rfl rfl (Nat.le_of_ble_eq_true rfl) (qm_isSum) ?_
  rintro r5 h5 ⟨rfl, v_1, rfl, hv_1⟩
  show am_E _ (4, [vR y, vI t, vI n, vU, vU], [vI v_1], aq_h m s F c) _
  refine ae_if0 rfl (fun (q_2 : v_1 = 0) => ?_) (fun (q_2 : v_1 ≠ 0) => ?_)
  · refine am_E.go (t2 := (15, [vR y, vI t, vI n, vU, vU], [vI (-1)], aq_h m s F c)) rfl rfl ?_
    refine am_E.ret rfl rfl ?_
    exact ⟨_, rfl, (aq_sm0 (c := c) (S := fun a => y ≤ a ∧ a < y + 24)), by unfold ca_a; rw [if_neg (by omega)], hI, fun _ _ => ⟨rfl, rfl⟩, fun _ _ => ⟨rfl, rfl, rfl⟩, fun q => absurd q (by omega), fun _ _ _ => rfl⟩
  · refine am_E.go (t2 := (8, [vR y, vI t, vI n, vU, vU], [vI n], aq_h m s F c)) rfl rfl ?_
    refine am_E.call rfl rfl rfl (Nat.le_of_ble_eq_true rfl) (qm_isWide) ?_
    rintro r5 h5 ⟨rfl, v_3, rfl, hv_3⟩
    show am_E _ (11, [vR y, vI t, vI n, vU, vU], [vI v_3], aq_h m s F c) _
    refine ae_if0 rfl (fun (q_4 : v_3 ≠ 0) => ?_) (fun (q_4 : v_3 = 0) => ?_)
    · refine am_E.go (t2 := (17, [vR y, vI t, vI n, vU, vU], [vR y], aq_h m s F c)) rfl rfl ?_
      refine aq_gf (v := vR (y + 6)) rfl (by omega) hFo (by decide) rfl ?_
      show am_E _ (20, [vR y, vI t, vI n, vU, vU], [vR (y + 6)], aq_h m s F c) _
      refine am_E.go (t2 := (21, [vR y, vI t, vI n, vU, vU], [vI t, vR (y + 6)], aq_h m s F c)) rfl rfl ?_
      refine aq_al (ok := fun k => k == 0) (v := vI (c (y + 6) t)) rfl rfl (by omega) hG6 rfl (by omega) (by omega) rfl ?_
      show am_E _ (22, [vR y, vI t, vI n, vU, vU], [vI (c (y + 6) t)], aq_h m s F c) _
      refine am_E.go (t2 := (23, [vR y, vI t, vI n, vI (c (y + 6) t), vU], [], aq_h m s F c)) rfl rfl ?_
      refine am_E.go (t2 := (24, [vR y, vI t, vI n, vI (c (y + 6) t), vU], [vR y], aq_h m s F c)) rfl rfl ?_
      refine am_E.go (t2 := (25, [vR y, vI t, vI n, vI (c (y + 6) t), vU], [vI 0, vR y], aq_h m s F c)) rfl rfl ?_
      refine aq_pf rfl (by omega) hFo (by decide) rfl rfl ?_
      show am_E _ (28, [vR y, vI t, vI n, vI (c (y + 6) t), vU], [], aq_h m s F (aq_u c y 17 0)) _
      generalize hdc_5 : aq_u c y 17 0 = c_5
      have sc_5 := aq_smu (aq_sm0 (c := c) (S := fun a => y ≤ a ∧ a < y + 24)) hdc_5 (by omega)
      have hI_z : mo_I y c_5 := mo_Iq (S := fun a => a = y) hI (aq_smu aq_sm0 hdc_5 rfl) (mo_qu mo_q0 hdc_5 (Or.inr (by decide))) (by omega) (by omega) (by omega) (by omega) (by omega)
      have e_z : c_5 y 17 = 0 := by rw [← hdc_5, aq_us]
      have hR_z : mo_R y (bx_K n) c_5 := ⟨by omega, by omega, fun j h5 h6 => absurd h6 (by omega)⟩
      refine am_E.go (t2 := (29, [vR y, vI t, vI n, vI (c (y + 6) t), vU], [vR y], aq_h m s F c_5)) rfl rfl ?_
      refine am_E.go (t2 := (30, [vR y, vI t, vI n, vI (c (y + 6) t), vU], [vI t, vR y], aq_h m s F c_5)) rfl rfl ?_
      refine am_E.go (t2 := (31, [vR y, vI t, vI n, vI (c (y + 6) t), vU], [vI n, vI t, vR y], aq_h m s F c_5)) rfl rfl ?_
      refine aq_callv (y := 3) (as2 := [vI t, vI n]) (rest := []) rfl rfl (by decide) (Nat.le_of_ble_eq_true rfl) rfl rfl (Nat.le_of_ble_eq_true rfl) (by omega) hFo rfl (Nat.le_of_ble_eq_true rfl) (qx_store ⟨hm, hFo, hG5, hG6, hG7, hG8, hG9, hG10, hG11, hG12, hG13, hG14, hG15, hG16, hG17, hG18, hG19, hG20, hG21, hG22, hG23⟩ (by omega) (by omega) (by omega) (by omega) hI_z hR_z) ?_
      rintro r5 h5 ⟨c_b, rfl, s_b, rfl, hI_b, b5, b6, b7, b8⟩
      show am_E _ (34, [vR y, vI t, vI n, vI (c (y + 6) t), vU], [vI (c_5 y 17)], aq_h m s F c_b) _
      refine am_E.go (t2 := (36, [vR y, vI t, vI n, vI (c (y + 6) t), vI (c_5 y 17)], [], aq_h m s F c_b)) rfl rfl ?_
      refine am_E.go (t2 := (37, [vR y, vI t, vI n, vI (c (y + 6) t), vI (c_5 y 17)], [vI (c (y + 6) t)], aq_h m s F c_b)) rfl rfl ?_
      refine am_E.ret rfl rfl ?_
      refine ⟨_, rfl, (aq_smt sc_5 (aq_smi s_b (fun a h => by omega))), by unfold ca_a; rw [if_pos (by omega)], hI_b, fun i hi => ⟨by rw [b5 i, if_neg hi, ← hdc_5, aq_un (Or.inl (by omega))], by rw [b6 i hi, ← hdc_5, aq_un (Or.inl (by omega))]⟩, fun i hi => ⟨by rw [(b8 i hi).1, ← hdc_5, aq_un (Or.inl (by omega))], by rw [(b8 i hi).2.1, ← hdc_5, aq_un (Or.inl (by omega))], by rw [(b8 i hi).2.2, ← hdc_5, aq_un (Or.inl (by omega))]⟩, fun _ => ⟨by rw [b5 t, if_pos rfl], ?_⟩, fun q => absurd (show ((0 ≤ t ∧ t < 8) ∧ 1 ≤ n ∧ n ≤ 4) by omega) q⟩
      have e7 : c_5 y 17 = c_b (y + 6) t := b7.1
      rw [← e7]
      exact e_z
    · refine am_E.go (t2 := (15, [vR y, vI t, vI n, vU, vU], [vI (-1)], aq_h m s F c)) rfl rfl ?_
      refine am_E.ret rfl rfl ?_
      exact ⟨_, rfl, (aq_sm0 (c := c) (S := fun a => y ≤ a ∧ a < y + 24)), by unfold ca_a; rw [if_neg (by omega)], hI, fun _ _ => ⟨rfl, rfl⟩, fun _ _ => ⟨rfl, rfl, rfl⟩, fun q => absurd q (by omega), fun _ _ _ => rfl⟩
/-! The class: sum, term, exactly. Printed by wip/p20/sx/gSD.py. -/

def sq_a (n z s w : Int) : Int := if (0 ≤ s ∧ s < 8) ∧ 0 ≤ w ∧ w ≤ 1 then (if w = 0 then n else z) else -1
def tq_a (t : sm_) (s i w : Int) : Int := if (0 ≤ s ∧ s < 8) ∧ 0 ≤ i ∧ 0 ≤ w ∧ w ≤ 2 then (if t.1 ≤ i then -1000000000000004 else if w = 2 then t.2.2.2 i else if w = 0 then t.2.1 i else t.2.2.1 i) else -1000000000000001
theorem tq_c {t u : sm_} {s i w : Int} (h : sm_e t u) : tq_a t s i w = tq_a u s i w := by
  unfold tq_a
  rw [← h.1]
  split
  · rename_i q
    split
    · rfl
    · have k := h.2 i q.2.1 (by omega)
      rw [k.1, k.2.1, k.2.2]
  · rfl

theorem qx_X4_sum {m s : Nat} {F : aq_F} {c : aq_C} (hC : sb_C m F) (hI : cl_I c) {sa w : Int} {aa : Nat} (haa : aa = 495 + 4 * sa.toNat) : am_E ac_X4_sum (0, [vR 0, vI sa, vI w], [], aq_h m s F c) (aq_Z m s F (fun a => a < 527) c (fun r d => r = some (vI (sq_a (c aa 0) (c aa 1) sa w)) ∧ cl_I d ∧ ∀ x i, d x i = c x i)) := by
  obtain ⟨hCm, hC0, hC1, hC2, hC3, ⟨hma4, hFa4, hFn4, hFp4, hFf4⟩, ⟨hmx, hFx, hFl, hFw⟩, hCs, hCb, hCh⟩ := id hC
  refine am_E.go (t2 := (1, [vR 0, vI sa, vI w], [vI sa], aq_h m s F c)) rfl rfl ?_
  refine am_E.call rfl rfl rfl (Nat.le_of_ble_eq_true rfl) (qn_X4_isSum) ?_
  rintro r5 h5 ⟨rfl, v_1, rfl, hv_1⟩
  show am_E _ (4, [vR 0, vI sa, vI w], [vI v_1], aq_h m s F c) _
  refine ae_if0 rfl (fun (q_2 : v_1 = 0) => ?_) (fun (q_2 : v_1 ≠ 0) => ?_)
  · refine am_E.go (t2 := (17, [vR 0, vI sa, vI w], [vI (-1)], aq_h m s F c)) rfl rfl ?_
    refine am_E.ret rfl rfl ?_
    refine ⟨_, rfl, (aq_sm0 (S := fun a => a < 527)), ?_, hI, fun _ _ => rfl⟩
    unfold sq_a
    (repeat' split) <;> first | rfl | (exfalso; omega)
  · refine am_E.go (t2 := (8, [vR 0, vI sa, vI w], [vI w], aq_h m s F c)) rfl rfl ?_
    refine ae_if0 rfl (fun (q_3 : w < 0) => ?_) (fun (q_3 : 0 ≤ w) => ?_)
    · refine am_E.go (t2 := (17, [vR 0, vI sa, vI w], [vI (-1)], aq_h m s F c)) rfl rfl ?_
      refine am_E.ret rfl rfl ?_
      refine ⟨_, rfl, (aq_sm0 (S := fun a => a < 527)), ?_, hI, fun _ _ => rfl⟩
      unfold sq_a
      (repeat' split) <;> first | rfl | (exfalso; omega)
    · refine am_E.go (t2 := (12, [vR 0, vI sa, vI w], [vI w], aq_h m s F c)) rfl rfl ?_
      refine am_E.go (t2 := (13, [vR 0, vI sa, vI w], [vI 1, vI w], aq_h m s F c)) rfl rfl ?_
      refine ae_icmp rfl (fun (q_4 : w ≤ 1) => ?_) (fun (q_4 : 1 < w) => ?_)
      · refine am_E.go (t2 := (19, [vR 0, vI sa, vI w], [vI w], aq_h m s F c)) rfl rfl ?_
        refine ae_if0 rfl (fun (q_5 : w ≠ 0) => ?_) (fun (q_5 : w = 0) => ?_)
        · refine am_E.go (t2 := (35, [vR 0, vI sa, vI w], [vR 0], aq_h m s F c)) rfl rfl ?_
          refine aq_gf (v := vR 3) rfl (by omega) hC0 (by decide) rfl ?_
          show am_E _ (38, [vR 0, vI sa, vI w], [vR 3], aq_h m s F c) _
          refine am_E.go (t2 := (39, [vR 0, vI sa, vI w], [vI sa, vR 3], aq_h m s F c)) rfl rfl ?_
          obtain ⟨a, e_a⟩ : ∃ x, x = 495 + 4 * (sa).toNat := ⟨_, rfl⟩
          obtain ⟨hmaa, hFaa, hFna, hFpa, hFfa⟩ : su_0 m F a := by rw [e_a]; exact hCs _ (by omega)
          obtain ⟨hu0a, hu4a, hka⟩ : sb_u a c := by rw [e_a]; exact hI.2.2 _ (by omega)
          have hk1a := hka.1
          have hk2a := hka.2.1
          refine aq_al (ok := fun k => decide (3 ≤ k) && decide (k < 7)) (v := vR a) rfl rfl (by omega) hC3 rfl (by omega) (by omega) (aq_gi2 (by omega) e_a.symm) ?_
          show am_E _ (40, [vR 0, vI sa, vI w], [vR a], aq_h m s F c) _
          refine aq_gf (v := vI (c a 1)) rfl (by omega) hFaa (by decide) rfl ?_
          show am_E _ (43, [vR 0, vI sa, vI w], [vI (c a 1)], aq_h m s F c) _
          refine am_E.ret rfl rfl ?_
          have e9 : aa = a := by rw [haa, e_a]
          rw [e9]
          refine ⟨_, rfl, (aq_sm0 (S := fun a => a < 527)), ?_, hI, fun _ _ => rfl⟩
          unfold sq_a
          (repeat' split) <;> first | rfl | (exfalso; omega)
        · refine am_E.go (t2 := (23, [vR 0, vI sa, vI w], [vR 0], aq_h m s F c)) rfl rfl ?_
          refine aq_gf (v := vR 3) rfl (by omega) hC0 (by decide) rfl ?_
          show am_E _ (26, [vR 0, vI sa, vI w], [vR 3], aq_h m s F c) _
          refine am_E.go (t2 := (27, [vR 0, vI sa, vI w], [vI sa, vR 3], aq_h m s F c)) rfl rfl ?_
          obtain ⟨a, e_a⟩ : ∃ x, x = 495 + 4 * (sa).toNat := ⟨_, rfl⟩
          obtain ⟨hmaa, hFaa, hFna, hFpa, hFfa⟩ : su_0 m F a := by rw [e_a]; exact hCs _ (by omega)
          obtain ⟨hu0a, hu4a, hka⟩ : sb_u a c := by rw [e_a]; exact hI.2.2 _ (by omega)
          have hk1a := hka.1
          have hk2a := hka.2.1
          refine aq_al (ok := fun k => decide (3 ≤ k) && decide (k < 7)) (v := vR a) rfl rfl (by omega) hC3 rfl (by omega) (by omega) (aq_gi2 (by omega) e_a.symm) ?_
          show am_E _ (28, [vR 0, vI sa, vI w], [vR a], aq_h m s F c) _
          refine aq_gf (v := vI (c a 0)) rfl (by omega) hFaa (by decide) rfl ?_
          show am_E _ (31, [vR 0, vI sa, vI w], [vI (c a 0)], aq_h m s F c) _
          refine am_E.go (t2 := (43, [vR 0, vI sa, vI w], [vI (c a 0)], aq_h m s F c)) rfl rfl ?_
          refine am_E.ret rfl rfl ?_
          have e9 : aa = a := by rw [haa, e_a]
          rw [e9]
          refine ⟨_, rfl, (aq_sm0 (S := fun a => a < 527)), ?_, hI, fun _ _ => rfl⟩
          unfold sq_a
          (repeat' split) <;> first | rfl | (exfalso; omega)
      · refine am_E.go (t2 := (17, [vR 0, vI sa, vI w], [vI (-1)], aq_h m s F c)) rfl rfl ?_
        refine am_E.ret rfl rfl ?_
        refine ⟨_, rfl, (aq_sm0 (S := fun a => a < 527)), ?_, hI, fun _ _ => rfl⟩
        unfold sq_a
        (repeat' split) <;> first | rfl | (exfalso; omega)

theorem qx_X4_term {m s : Nat} {F : aq_F} {c : aq_C} (hC : sb_C m F) (hI : cl_I c) {sa i w : Int} {aa : Nat} (haa : aa = 495 + 4 * sa.toNat) : am_E ac_X4_term (0, [vR 0, vI sa, vI i, vI w, vU], [], aq_h m s F c) (aq_Z m s F (fun a => a < 527) c (fun r d => r = some (vL (tq_a (su_v aa c) sa i w)) ∧ cl_I d ∧ ∀ x j, d x j = c x j)) := by
  obtain ⟨hCm, hC0, hC1, hC2, hC3, ⟨hma4, hFa4, hFn4, hFp4, hFf4⟩, ⟨hmx, hFx, hFl, hFw⟩, hCs, hCb, hCh⟩ := id hC
  refine am_E.go (t2 := (1, [vR 0, vI sa, vI i, vI w, vU], [vI sa], aq_h m s F c)) rfl rfl ?_
  refine am_E.call rfl rfl rfl (Nat.le_of_ble_eq_true rfl) (qn_X4_isSum) ?_
  rintro r5 h5 ⟨rfl, v_1, rfl, hv_1⟩
  show am_E _ (4, [vR 0, vI sa, vI i, vI w, vU], [vI v_1], aq_h m s F c) _
  refine ae_if0 rfl (fun (q_2 : v_1 = 0) => ?_) (fun (q_2 : v_1 ≠ 0) => ?_)
  · refine am_E.go (t2 := (23, [vR 0, vI sa, vI i, vI w, vU], [vL (-1000000000000001)], aq_h m s F c)) rfl rfl ?_
    refine am_E.ret rfl rfl ?_
    refine ⟨_, rfl, (aq_sm0 (S := fun a => a < 527)), ?_, hI, fun _ _ => rfl⟩
    unfold tq_a su_v
    simp only
    (repeat' split) <;> first | rfl | (exfalso; omega)
  · refine am_E.go (t2 := (8, [vR 0, vI sa, vI i, vI w, vU], [vI i], aq_h m s F c)) rfl rfl ?_
    refine ae_if0 rfl (fun (q_3 : i < 0) => ?_) (fun (q_3 : 0 ≤ i) => ?_)
    · refine am_E.go (t2 := (23, [vR 0, vI sa, vI i, vI w, vU], [vL (-1000000000000001)], aq_h m s F c)) rfl rfl ?_
      refine am_E.ret rfl rfl ?_
      refine ⟨_, rfl, (aq_sm0 (S := fun a => a < 527)), ?_, hI, fun _ _ => rfl⟩
      unfold tq_a su_v
      simp only
      (repeat' split) <;> first | rfl | (exfalso; omega)
    · refine am_E.go (t2 := (12, [vR 0, vI sa, vI i, vI w, vU], [vI w], aq_h m s F c)) rfl rfl ?_
      refine ae_if0 rfl (fun (q_4 : w < 0) => ?_) (fun (q_4 : 0 ≤ w) => ?_)
      · refine am_E.go (t2 := (23, [vR 0, vI sa, vI i, vI w, vU], [vL (-1000000000000001)], aq_h m s F c)) rfl rfl ?_
        refine am_E.ret rfl rfl ?_
        refine ⟨_, rfl, (aq_sm0 (S := fun a => a < 527)), ?_, hI, fun _ _ => rfl⟩
        unfold tq_a su_v
        simp only
        (repeat' split) <;> first | rfl | (exfalso; omega)
      · refine am_E.go (t2 := (16, [vR 0, vI sa, vI i, vI w, vU], [vI w], aq_h m s F c)) rfl rfl ?_
        refine am_E.go (t2 := (17, [vR 0, vI sa, vI i, vI w, vU], [vI 2, vI w], aq_h m s F c)) rfl rfl ?_
        refine ae_icmp rfl (fun (q_5 : w ≤ 2) => ?_) (fun (q_5 : 2 < w) => ?_)
        · refine am_E.go (t2 := (25, [vR 0, vI sa, vI i, vI w, vU], [vR 0], aq_h m s F c)) rfl rfl ?_
          refine aq_gf (v := vR 3) rfl (by omega) hC0 (by decide) rfl ?_
          show am_E _ (28, [vR 0, vI sa, vI i, vI w, vU], [vR 3], aq_h m s F c) _
          refine am_E.go (t2 := (29, [vR 0, vI sa, vI i, vI w, vU], [vI sa, vR 3], aq_h m s F c)) rfl rfl ?_
          obtain ⟨a, e_a⟩ : ∃ x, x = 495 + 4 * (sa).toNat := ⟨_, rfl⟩
          obtain ⟨hmaa, hFaa, hFna, hFpa, hFfa⟩ : su_0 m F a := by rw [e_a]; exact hCs _ (by omega)
          obtain ⟨hu0a, hu4a, hka⟩ : sb_u a c := by rw [e_a]; exact hI.2.2 _ (by omega)
          have hk1a := hka.1
          have hk2a := hka.2.1
          refine aq_al (ok := fun k => decide (3 ≤ k) && decide (k < 7)) (v := vR a) rfl rfl (by omega) hC3 rfl (by omega) (by omega) (aq_gi2 (by omega) e_a.symm) ?_
          show am_E _ (30, [vR 0, vI sa, vI i, vI w, vU], [vR a], aq_h m s F c) _
          refine am_E.go (t2 := (32, [vR 0, vI sa, vI i, vI w, vR a], [], aq_h m s F c)) rfl rfl ?_
          refine am_E.go (t2 := (33, [vR 0, vI sa, vI i, vI w, vR a], [vI i], aq_h m s F c)) rfl rfl ?_
          refine am_E.go (t2 := (35, [vR 0, vI sa, vI i, vI w, vR a], [vR a, vI i], aq_h m s F c)) rfl rfl ?_
          refine aq_gf (v := vI (c a 1)) rfl (by omega) hFaa (by decide) rfl ?_
          show am_E _ (38, [vR 0, vI sa, vI i, vI w, vR a], [vI (c a 1), vI i], aq_h m s F c) _
          refine ae_icmp rfl (fun (q_6 : i < (c a 1)) => ?_) (fun (q_6 : (c a 1) ≤ i) => ?_)
          · refine am_E.go (t2 := (46, [vR 0, vI sa, vI i, vI w, vR a], [vI w], aq_h m s F c)) rfl rfl ?_
            refine am_E.go (t2 := (47, [vR 0, vI sa, vI i, vI w, vR a], [vI 2, vI w], aq_h m s F c)) rfl rfl ?_
            refine ae_icmp rfl (fun (q_7 : w ≠ 2) => ?_) (fun (q_7 : w = 2) => ?_)
            · refine am_E.go (t2 := (59, [vR 0, vI sa, vI i, vI w, vR a], [vI w], aq_h m s F c)) rfl rfl ?_
              refine ae_if0 rfl (fun (q_8 : w ≠ 0) => ?_) (fun (q_8 : w = 0) => ?_)
              · refine am_E.go (t2 := (75, [vR 0, vI sa, vI i, vI w, vR a], [vR a], aq_h m s F c)) rfl rfl ?_
                refine aq_gf (v := vR (a + 2)) rfl (by omega) hFaa (by decide) rfl ?_
                show am_E _ (78, [vR 0, vI sa, vI i, vI w, vR a], [vR (a + 2)], aq_h m s F c) _
                refine am_E.go (t2 := (79, [vR 0, vI sa, vI i, vI w, vR a], [vI i, vR (a + 2)], aq_h m s F c)) rfl rfl ?_
                refine aq_al (ok := fun k => k == 0) (v := vI (c (a + 2) i)) rfl rfl (by omega) hFpa rfl (by omega) (by omega) rfl ?_
                show am_E _ (80, [vR 0, vI sa, vI i, vI w, vR a], [vI (c (a + 2) i)], aq_h m s F c) _
                refine am_E.go (t2 := (81, [vR 0, vI sa, vI i, vI w, vR a], [vL (c (a + 2) i)], aq_h m s F c)) rfl rfl ?_
                refine am_E.ret rfl rfl ?_
                have e9 : aa = a := by rw [haa, e_a]
                rw [e9]
                refine ⟨_, rfl, (aq_sm0 (S := fun a => a < 527)), ?_, hI, fun _ _ => rfl⟩
                unfold tq_a su_v
                simp only
                (repeat' split) <;> first | rfl | (exfalso; omega)
              · refine am_E.go (t2 := (64, [vR 0, vI sa, vI i, vI w, vR a], [vR a], aq_h m s F c)) rfl rfl ?_
                refine aq_gf (v := vR (a + 1)) rfl (by omega) hFaa (by decide) rfl ?_
                show am_E _ (67, [vR 0, vI sa, vI i, vI w, vR a], [vR (a + 1)], aq_h m s F c) _
                refine am_E.go (t2 := (68, [vR 0, vI sa, vI i, vI w, vR a], [vI i, vR (a + 1)], aq_h m s F c)) rfl rfl ?_
                refine aq_al (ok := fun k => k == 0) (v := vI (c (a + 1) i)) rfl rfl (by omega) hFna rfl (by omega) (by omega) rfl ?_
                show am_E _ (69, [vR 0, vI sa, vI i, vI w, vR a], [vI (c (a + 1) i)], aq_h m s F c) _
                have f_9 := hka.2.2 i (by omega) (by omega)
                refine am_E.go (t2 := (70, [vR 0, vI sa, vI i, vI w, vR a], [vL (c (a + 1) i)], aq_h m s F c)) rfl rfl ?_
                refine am_E.go (t2 := (81, [vR 0, vI sa, vI i, vI w, vR a], [vL (c (a + 1) i)], aq_h m s F c)) rfl rfl ?_
                refine am_E.ret rfl rfl ?_
                have e9 : aa = a := by rw [haa, e_a]
                rw [e9]
                refine ⟨_, rfl, (aq_sm0 (S := fun a => a < 527)), ?_, hI, fun _ _ => rfl⟩
                unfold tq_a su_v
                simp only
                (repeat' split) <;> first | rfl | (exfalso; omega)
            · refine am_E.go (t2 := (52, [vR 0, vI sa, vI i, vI w, vR a], [vR a], aq_h m s F c)) rfl rfl ?_
              refine aq_gf (v := vR (a + 3)) rfl (by omega) hFaa (by decide) rfl ?_
              show am_E _ (55, [vR 0, vI sa, vI i, vI w, vR a], [vR (a + 3)], aq_h m s F c) _
              refine am_E.go (t2 := (56, [vR 0, vI sa, vI i, vI w, vR a], [vI i, vR (a + 3)], aq_h m s F c)) rfl rfl ?_
              refine aq_al (ok := fun k => k == 2) (v := vL (c (a + 3) i)) rfl rfl (by omega) hFfa rfl (by omega) (by omega) rfl ?_
              show am_E _ (57, [vR 0, vI sa, vI i, vI w, vR a], [vL (c (a + 3) i)], aq_h m s F c) _
              refine am_E.ret rfl rfl ?_
              have e9 : aa = a := by rw [haa, e_a]
              rw [e9]
              refine ⟨_, rfl, (aq_sm0 (S := fun a => a < 527)), ?_, hI, fun _ _ => rfl⟩
              unfold tq_a su_v
              simp only
              (repeat' split) <;> first | rfl | (exfalso; omega)
          · refine am_E.go (t2 := (44, [vR 0, vI sa, vI i, vI w, vR a], [vL (-1000000000000004)], aq_h m s F c)) rfl rfl ?_
            refine am_E.ret rfl rfl ?_
            have e9 : aa = a := by rw [haa, e_a]
            rw [e9]
            refine ⟨_, rfl, (aq_sm0 (S := fun a => a < 527)), ?_, hI, fun _ _ => rfl⟩
            unfold tq_a su_v
            simp only
            (repeat' split) <;> first | rfl | (exfalso; omega)
        · refine am_E.go (t2 := (23, [vR 0, vI sa, vI i, vI w, vU], [vL (-1000000000000001)], aq_h m s F c)) rfl rfl ?_
          refine am_E.ret rfl rfl ?_
          refine ⟨_, rfl, (aq_sm0 (S := fun a => a < 527)), ?_, hI, fun _ _ => rfl⟩
          unfold tq_a su_v
          simp only
          (repeat' split) <;> first | rfl | (exfalso; omega)
/-! The reference: sum, term, exactly. Printed by wip/p20/sx/gSD_m.py. -/

theorem qx_X5_sum {m s : Nat} {F : aq_F} {c : aq_C} {y : Nat} (hC : mo_C m F y) (hI : mo_I y c) {t w : Int} : am_E ac_X5_sum (0, [vR y, vI t, vI w], [], aq_h m s F c) (aq_Z m s F (fun a => y ≤ a ∧ a < y + 24) c (fun r d => r = some (vI (sq_a (c (y + 5) t) (c (y + 6) t) t w)) ∧ mo_I y d ∧ ∀ x j, d x j = c x j)) := by
  obtain ⟨⟨hm, hFo, hG5, hG6, hG7, hG8, hG9, hG10, hG11, hG12, hG13, hG14, hG15, hG16, hG17, hG18, hG19, hG20, hG21, hG22, hG23⟩, ⟨tbl, hT1, hTt⟩, ⟨tA, tB, tD, hL1, hL2, hL3, hLt⟩⟩ := hC
  refine am_E.go (t2 := (1, [vR y, vI t, vI w], [vI t], aq_h m s F c)) rfl rfl ?_
  refine am_E.call rfl rfl rfl (Nat.le_of_ble_eq_true rfl) (qm_isSum) ?_
  rintro r5 h5 ⟨rfl, v_1, rfl, hv_1⟩
  show am_E _ (4, [vR y, vI t, vI w], [vI v_1], aq_h m s F c) _
  refine ae_if0 rfl (fun (q_2 : v_1 = 0) => ?_) (fun (q_2 : v_1 ≠ 0) => ?_)
  · refine am_E.go (t2 := (18, [vR y, vI t, vI w], [vI (-1)], aq_h m s F c)) rfl rfl ?_
    refine am_E.go (t2 := (40, [vR y, vI t, vI w], [vI (-1)], aq_h m s F c)) rfl rfl ?_
    refine am_E.ret rfl rfl ?_
    refine ⟨_, rfl, (aq_sm0 (c := c) (S := fun a => y ≤ a ∧ a < y + 24)), ?_, hI, fun _ _ => rfl⟩
    unfold sq_a
    (repeat' split) <;> first | rfl | (exfalso; omega)
  · refine am_E.go (t2 := (8, [vR y, vI t, vI w], [vI w], aq_h m s F c)) rfl rfl ?_
    refine am_E.go (t2 := (9, [vR y, vI t, vI w], [vL w], aq_h m s F c)) rfl rfl ?_
    refine am_E.go (t2 := (10, [vR y, vI t, vI w], [vL 0, vL w], aq_h m s F c)) rfl rfl ?_
    refine am_E.go (t2 := (11, [vR y, vI t, vI w], [vL 1, vL 0, vL w], aq_h m s F c)) rfl rfl ?_
    refine am_E.call rfl rfl rfl (Nat.le_of_ble_eq_true rfl) (qm_in) ?_
    rintro r5 h5 ⟨rfl, v_3, rfl, hv_3⟩
    show am_E _ (14, [vR y, vI t, vI w], [vI v_3], aq_h m s F c) _
    refine ae_if0 rfl (fun (q_4 : v_3 ≠ 0) => ?_) (fun (q_4 : v_3 = 0) => ?_)
    · refine am_E.go (t2 := (22, [vR y, vI t, vI w], [vI w], aq_h m s F c)) rfl rfl ?_
      refine ae_if0 rfl (fun (q_5 : w ≠ 0) => ?_) (fun (q_5 : w = 0) => ?_)
      · refine am_E.go (t2 := (35, [vR y, vI t, vI w], [vR y], aq_h m s F c)) rfl rfl ?_
        refine aq_gf (v := vR (y + 6)) rfl (by omega) hFo (by decide) rfl ?_
        show am_E _ (38, [vR y, vI t, vI w], [vR (y + 6)], aq_h m s F c) _
        refine am_E.go (t2 := (39, [vR y, vI t, vI w], [vI t, vR (y + 6)], aq_h m s F c)) rfl rfl ?_
        refine aq_al (ok := fun k => k == 0) (v := vI (c (y + 6) t)) rfl rfl (by omega) hG6 rfl (by omega) (by omega) rfl ?_
        show am_E _ (40, [vR y, vI t, vI w], [vI (c (y + 6) t)], aq_h m s F c) _
        obtain ⟨hu1t, hu2t, hu3t, hu4t, hu5t⟩ := hI.2 t (by omega) (by omega)
        refine am_E.ret rfl rfl ?_
        refine ⟨_, rfl, (aq_sm0 (c := c) (S := fun a => y ≤ a ∧ a < y + 24)), ?_, hI, fun _ _ => rfl⟩
        unfold sq_a
        (repeat' split) <;> first | rfl | (exfalso; omega)
      · refine am_E.go (t2 := (26, [vR y, vI t, vI w], [vR y], aq_h m s F c)) rfl rfl ?_
        refine aq_gf (v := vR (y + 5)) rfl (by omega) hFo (by decide) rfl ?_
        show am_E _ (29, [vR y, vI t, vI w], [vR (y + 5)], aq_h m s F c) _
        refine am_E.go (t2 := (30, [vR y, vI t, vI w], [vI t, vR (y + 5)], aq_h m s F c)) rfl rfl ?_
        refine aq_al (ok := fun k => k == 0) (v := vI (c (y + 5) t)) rfl rfl (by omega) hG5 rfl (by omega) (by omega) rfl ?_
        show am_E _ (31, [vR y, vI t, vI w], [vI (c (y + 5) t)], aq_h m s F c) _
        refine am_E.go (t2 := (40, [vR y, vI t, vI w], [vI (c (y + 5) t)], aq_h m s F c)) rfl rfl ?_
        refine am_E.ret rfl rfl ?_
        refine ⟨_, rfl, (aq_sm0 (c := c) (S := fun a => y ≤ a ∧ a < y + 24)), ?_, hI, fun _ _ => rfl⟩
        unfold sq_a
        (repeat' split) <;> first | rfl | (exfalso; omega)
    · refine am_E.go (t2 := (18, [vR y, vI t, vI w], [vI (-1)], aq_h m s F c)) rfl rfl ?_
      refine am_E.go (t2 := (40, [vR y, vI t, vI w], [vI (-1)], aq_h m s F c)) rfl rfl ?_
      refine am_E.ret rfl rfl ?_
      refine ⟨_, rfl, (aq_sm0 (c := c) (S := fun a => y ≤ a ∧ a < y + 24)), ?_, hI, fun _ _ => rfl⟩
      unfold sq_a
      (repeat' split) <;> first | rfl | (exfalso; omega)

theorem qx_X5_term {m s : Nat} {F : aq_F} {c : aq_C} {y : Nat} (hC : mo_C m F y) (hI : mo_I y c) {t i w : Int} : am_E ac_X5_term (0, [vR y, vI t, vI i, vI w, vU], [], aq_h m s F c) (aq_Z m s F (fun a => y ≤ a ∧ a < y + 24) c (fun r d => r = some (vL (tq_a (rf_v y t c) t i w)) ∧ mo_I y d ∧ ∀ x j, d x j = c x j)) := by
  obtain ⟨⟨hm, hFo, hG5, hG6, hG7, hG8, hG9, hG10, hG11, hG12, hG13, hG14, hG15, hG16, hG17, hG18, hG19, hG20, hG21, hG22, hG23⟩, ⟨tbl, hT1, hTt⟩, ⟨tA, tB, tD, hL1, hL2, hL3, hLt⟩⟩ := hC
  refine am_E.go (t2 := (1, [vR y, vI t, vI i, vI w, vU], [vI t], aq_h m s F c)) rfl rfl ?_
  refine am_E.call rfl rfl rfl (Nat.le_of_ble_eq_true rfl) (qm_isSum) ?_
  rintro r5 h5 ⟨rfl, v_1, rfl, hv_1⟩
  show am_E _ (4, [vR y, vI t, vI i, vI w, vU], [vI v_1], aq_h m s F c) _
  refine ae_if0 rfl (fun (q_2 : v_1 = 0) => ?_) (fun (q_2 : v_1 ≠ 0) => ?_)
  · refine am_E.go (t2 := (26, [vR y, vI t, vI i, vI w, vU], [vL (-1000000000000001)], aq_h m s F c)) rfl rfl ?_
    refine am_E.ret rfl rfl ?_
    refine ⟨_, rfl, (aq_sm0 (c := c) (S := fun a => y ≤ a ∧ a < y + 24)), ?_, hI, fun _ _ => rfl⟩
    unfold tq_a rf_v
    simp only
    first | rw [e_w] | skip
    (repeat' split) <;> first | rfl | (exfalso; omega)
  · refine am_E.go (t2 := (8, [vR y, vI t, vI i, vI w, vU], [vI i], aq_h m s F c)) rfl rfl ?_
    refine ae_if0 rfl (fun (q_3 : i < 0) => ?_) (fun (q_3 : 0 ≤ i) => ?_)
    · refine am_E.go (t2 := (26, [vR y, vI t, vI i, vI w, vU], [vL (-1000000000000001)], aq_h m s F c)) rfl rfl ?_
      refine am_E.ret rfl rfl ?_
      refine ⟨_, rfl, (aq_sm0 (c := c) (S := fun a => y ≤ a ∧ a < y + 24)), ?_, hI, fun _ _ => rfl⟩
      unfold tq_a rf_v
      simp only
      first | rw [e_w] | skip
      (repeat' split) <;> first | rfl | (exfalso; omega)
    · refine am_E.go (t2 := (12, [vR y, vI t, vI i, vI w, vU], [vI w], aq_h m s F c)) rfl rfl ?_
      refine am_E.go (t2 := (13, [vR y, vI t, vI i, vI w, vU], [vL w], aq_h m s F c)) rfl rfl ?_
      refine am_E.go (t2 := (14, [vR y, vI t, vI i, vI w, vU], [vL 0, vL w], aq_h m s F c)) rfl rfl ?_
      refine am_E.go (t2 := (17, [vR y, vI t, vI i, vI w, vU], [vL 2, vL 0, vL w], aq_h m s F c)) rfl rfl ?_
      refine am_E.call rfl rfl rfl (Nat.le_of_ble_eq_true rfl) (qm_in) ?_
      rintro r5 h5 ⟨rfl, v_4, rfl, hv_4⟩
      show am_E _ (20, [vR y, vI t, vI i, vI w, vU], [vI v_4], aq_h m s F c) _
      refine ae_if0 rfl (fun (q_5 : v_4 ≠ 0) => ?_) (fun (q_5 : v_4 = 0) => ?_)
      · refine am_E.go (t2 := (29, [vR y, vI t, vI i, vI w, vU], [vI 40], aq_h m s F c)) rfl rfl ?_
        refine am_E.go (t2 := (30, [vR y, vI t, vI i, vI w, vU], [vI t, vI 40], aq_h m s F c)) rfl rfl ?_
        refine ae_mul rfl (am_ri (by omega) (by omega)) ?_
        show am_E _ (31, [vR y, vI t, vI i, vI w, vU], [vI (40 * t)], aq_h m s F c) _
        refine am_E.go (t2 := (32, [vR y, vI t, vI i, vI w, vU], [vI i, vI (40 * t)], aq_h m s F c)) rfl rfl ?_
        refine am_E.go (t2 := (33, [vR y, vI t, vI i, vI w, vU], [vI (am_w ((40 * t) + i))], aq_h m s F c)) rfl rfl ?_
        refine am_E.go (t2 := (35, [vR y, vI t, vI i, vI w, vI (am_w ((40 * t) + i))], [], aq_h m s F c)) rfl rfl ?_
        refine am_E.go (t2 := (36, [vR y, vI t, vI i, vI w, vI (am_w ((40 * t) + i))], [vI i], aq_h m s F c)) rfl rfl ?_
        refine am_E.go (t2 := (37, [vR y, vI t, vI i, vI w, vI (am_w ((40 * t) + i))], [vR y, vI i], aq_h m s F c)) rfl rfl ?_
        refine aq_gf (v := vR (y + 6)) rfl (by omega) hFo (by decide) rfl ?_
        show am_E _ (40, [vR y, vI t, vI i, vI w, vI (am_w ((40 * t) + i))], [vR (y + 6), vI i], aq_h m s F c) _
        refine am_E.go (t2 := (41, [vR y, vI t, vI i, vI w, vI (am_w ((40 * t) + i))], [vI t, vR (y + 6), vI i], aq_h m s F c)) rfl rfl ?_
        refine aq_al (ok := fun k => k == 0) (v := vI (c (y + 6) t)) rfl rfl (by omega) hG6 rfl (by omega) (by omega) rfl ?_
        show am_E _ (42, [vR y, vI t, vI i, vI w, vI (am_w ((40 * t) + i))], [vI (c (y + 6) t), vI i], aq_h m s F c) _
        obtain ⟨hu1t, hu2t, hu3t, hu4t, hu5t⟩ := hI.2 t (by omega) (by omega)
        refine ae_icmp rfl (fun (q_7 : i < (c (y + 6) t)) => ?_) (fun (q_7 : (c (y + 6) t) ≤ i) => ?_)
        · have e_w : am_w (40 * t + i) = 40 * t + i := am_w_id (am_ri (by omega) (by omega))
          refine am_E.go (t2 := (52, [vR y, vI t, vI i, vI w, vI (am_w ((40 * t) + i))], [vI w], aq_h m s F c)) rfl rfl ?_
          refine ae_if0 rfl (fun (q_8 : w ≠ 0) => ?_) (fun (q_8 : w = 0) => ?_)
          · refine am_E.go (t2 := (67, [vR y, vI t, vI i, vI w, vI (am_w ((40 * t) + i))], [vI w], aq_h m s F c)) rfl rfl ?_
            refine am_E.go (t2 := (68, [vR y, vI t, vI i, vI w, vI (am_w ((40 * t) + i))], [vI 1, vI w], aq_h m s F c)) rfl rfl ?_
            refine ae_icmp rfl (fun (q_9 : w ≠ 1) => ?_) (fun (q_9 : w = 1) => ?_)
            · refine am_E.go (t2 := (83, [vR y, vI t, vI i, vI w, vI (am_w ((40 * t) + i))], [vR y], aq_h m s F c)) rfl rfl ?_
              refine aq_gf (v := vR (y + 9)) rfl (by omega) hFo (by decide) rfl ?_
              show am_E _ (86, [vR y, vI t, vI i, vI w, vI (am_w ((40 * t) + i))], [vR (y + 9)], aq_h m s F c) _
              refine am_E.go (t2 := (88, [vR y, vI t, vI i, vI w, vI (am_w ((40 * t) + i))], [vI (am_w ((40 * t) + i)), vR (y + 9)], aq_h m s F c)) rfl rfl ?_
              refine aq_al (ok := fun k => k == 2) (v := vL (c (y + 9) (am_w ((40 * t) + i)))) rfl rfl (by omega) hG9 rfl (by omega) (by omega) rfl ?_
              show am_E _ (89, [vR y, vI t, vI i, vI w, vI (am_w ((40 * t) + i))], [vL (c (y + 9) (am_w ((40 * t) + i)))], aq_h m s F c) _
              refine am_E.ret rfl rfl ?_
              refine ⟨_, rfl, (aq_sm0 (c := c) (S := fun a => y ≤ a ∧ a < y + 24)), ?_, hI, fun _ _ => rfl⟩
              unfold tq_a rf_v
              simp only
              first | rw [e_w] | skip
              (repeat' split) <;> first | rfl | (exfalso; omega)
            · refine am_E.go (t2 := (72, [vR y, vI t, vI i, vI w, vI (am_w ((40 * t) + i))], [vR y], aq_h m s F c)) rfl rfl ?_
              refine aq_gf (v := vR (y + 8)) rfl (by omega) hFo (by decide) rfl ?_
              show am_E _ (75, [vR y, vI t, vI i, vI w, vI (am_w ((40 * t) + i))], [vR (y + 8)], aq_h m s F c) _
              refine am_E.go (t2 := (77, [vR y, vI t, vI i, vI w, vI (am_w ((40 * t) + i))], [vI (am_w ((40 * t) + i)), vR (y + 8)], aq_h m s F c)) rfl rfl ?_
              refine aq_al (ok := fun k => k == 0) (v := vI (c (y + 8) (am_w ((40 * t) + i)))) rfl rfl (by omega) hG8 rfl (by omega) (by omega) rfl ?_
              show am_E _ (78, [vR y, vI t, vI i, vI w, vI (am_w ((40 * t) + i))], [vI (c (y + 8) (am_w ((40 * t) + i)))], aq_h m s F c) _
              refine am_E.go (t2 := (79, [vR y, vI t, vI i, vI w, vI (am_w ((40 * t) + i))], [vL (c (y + 8) (am_w ((40 * t) + i)))], aq_h m s F c)) rfl rfl ?_
              refine am_E.go (t2 := (89, [vR y, vI t, vI i, vI w, vI (am_w ((40 * t) + i))], [vL (c (y + 8) (am_w ((40 * t) + i)))], aq_h m s F c)) rfl rfl ?_
              refine am_E.ret rfl rfl ?_
              refine ⟨_, rfl, (aq_sm0 (c := c) (S := fun a => y ≤ a ∧ a < y + 24)), ?_, hI, fun _ _ => rfl⟩
              unfold tq_a rf_v
              simp only
              first | rw [e_w] | skip
              (repeat' split) <;> first | rfl | (exfalso; omega)
          · refine am_E.go (t2 := (56, [vR y, vI t, vI i, vI w, vI (am_w ((40 * t) + i))], [vR y], aq_h m s F c)) rfl rfl ?_
            refine aq_gf (v := vR (y + 7)) rfl (by omega) hFo (by decide) rfl ?_
            show am_E _ (59, [vR y, vI t, vI i, vI w, vI (am_w ((40 * t) + i))], [vR (y + 7)], aq_h m s F c) _
            refine am_E.go (t2 := (61, [vR y, vI t, vI i, vI w, vI (am_w ((40 * t) + i))], [vI (am_w ((40 * t) + i)), vR (y + 7)], aq_h m s F c)) rfl rfl ?_
            refine aq_al (ok := fun k => k == 0) (v := vI (c (y + 7) (am_w ((40 * t) + i)))) rfl rfl (by omega) hG7 rfl (by omega) (by omega) rfl ?_
            show am_E _ (62, [vR y, vI t, vI i, vI w, vI (am_w ((40 * t) + i))], [vI (c (y + 7) (am_w ((40 * t) + i)))], aq_h m s F c) _
            refine am_E.go (t2 := (63, [vR y, vI t, vI i, vI w, vI (am_w ((40 * t) + i))], [vL (c (y + 7) (am_w ((40 * t) + i)))], aq_h m s F c)) rfl rfl ?_
            refine am_E.go (t2 := (89, [vR y, vI t, vI i, vI w, vI (am_w ((40 * t) + i))], [vL (c (y + 7) (am_w ((40 * t) + i)))], aq_h m s F c)) rfl rfl ?_
            refine am_E.ret rfl rfl ?_
            refine ⟨_, rfl, (aq_sm0 (c := c) (S := fun a => y ≤ a ∧ a < y + 24)), ?_, hI, fun _ _ => rfl⟩
            unfold tq_a rf_v
            simp only
            first | rw [e_w] | skip
            (repeat' split) <;> first | rfl | (exfalso; omega)
        · refine am_E.go (t2 := (48, [vR y, vI t, vI i, vI w, vI (am_w ((40 * t) + i))], [vL (-1000000000000004)], aq_h m s F c)) rfl rfl ?_
          refine am_E.go (t2 := (89, [vR y, vI t, vI i, vI w, vI (am_w ((40 * t) + i))], [vL (-1000000000000004)], aq_h m s F c)) rfl rfl ?_
          refine am_E.ret rfl rfl ?_
          refine ⟨_, rfl, (aq_sm0 (c := c) (S := fun a => y ≤ a ∧ a < y + 24)), ?_, hI, fun _ _ => rfl⟩
          unfold tq_a rf_v
          simp only
          first | rw [e_w] | skip
          (repeat' split) <;> first | rfl | (exfalso; omega)
      · refine am_E.go (t2 := (26, [vR y, vI t, vI i, vI w, vU], [vL (-1000000000000001)], aq_h m s F c)) rfl rfl ?_
        refine am_E.ret rfl rfl ?_
        refine ⟨_, rfl, (aq_sm0 (c := c) (S := fun a => y ≤ a ∧ a < y + 24)), ?_, hI, fun _ _ => rfl⟩
        unfold tq_a rf_v
        simp only
        first | rw [e_w] | skip
        (repeat' split) <;> first | rfl | (exfalso; omega)
