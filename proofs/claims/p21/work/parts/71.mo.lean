/-! The reference: free. Printed by wip/p20/sx/gMO14.py. -/

def fr_ (y : Nat) (p mn : Int) (c : aq_C) : Prop := ∀ i j, 0 ≤ i → i < mn → 0 ≤ j → j < mn → 0 ≤ c (y + 20) (6 * i + j) ∧ c (y + 20) (6 * i + j) < p
theorem fr_u {y : Nat} {p mn ix x : Int} {c d : aq_C} (h : fr_ y p mn c) (he : aq_u c (y + 20) ix x = d) (h0 : 0 ≤ x) (h1 : x < p) : fr_ y p mn d := fun i j a1 a2 a3 a4 => by
  rw [← he]
  unfold aq_u
  split
  · exact ⟨h0, h1⟩
  · exact h i j a1 a2 a3 a4
theorem fr_s {S : Nat → Prop} {y : Nat} {p mn : Int} {c d : aq_C} (h : fr_ y p mn c) (hs : aq_sm S c d) (hS : ¬ S (y + 20)) : fr_ y p mn d := fun i j a1 a2 a3 a4 => by
  rw [hs _ hS]
  exact h i j a1 a2 a3 a4
theorem nz_swap {A : Nat} {q cc rk rw_ : Int} {c c1 c2 : aq_C} (h : (q ≤ cc → c A (6 * rw_ + cc) ≠ 0) ∧ (cc < q → c A (6 * rk + cc) ≠ 0)) (hd1 : aq_u c A (6 * rk + q) (c A (6 * rw_ + q)) = c1) (hd2 : aq_u c1 A (6 * rw_ + q) (c A (6 * rk + q)) = c2) (h0 : 0 ≤ q) (h1 : q < 6) (h2 : 0 ≤ cc) (h3 : cc < 6) : (q + 1 ≤ cc → c2 A (6 * rw_ + cc) ≠ 0) ∧ (cc < q + 1 → c2 A (6 * rk + cc) ≠ 0) := by
  subst hd1
  subst hd2
  refine ⟨fun k => ?_, fun k => ?_⟩
  · rw [aq_un (Or.inr (by omega)), aq_un (Or.inr (by omega))]
    exact h.1 (by omega)
  · by_cases e : cc = q
    · subst e
      have h5 := h.1 (by omega)
      by_cases e2 : rk = rw_
      · subst e2
        rw [aq_us]
        exact h5
      · rw [aq_un (Or.inr (by omega)), aq_us]
        exact h5
    · have h5 := h.2 (by omega)
      rw [aq_un (Or.inr (by omega)), aq_un (Or.inr (by omega))]
      exact h5
theorem nm_tm {v p : Int} (hp : 0 < p) : -p < v.tmod p ∧ v.tmod p < p := by
  refine ⟨?_, Int.tmod_lt_of_pos v hp⟩
  have h := Int.tmod_lt_of_pos (-v) hp
  rw [Int.neg_tmod] at h
  omega
theorem nm_em {a p : Int} (hp : 0 < p) : 0 ≤ a % p ∧ a % p < p := ⟨Int.emod_nonneg a (by omega), Int.emod_lt_of_pos a hp⟩

theorem qm_reduce_i {m s : Nat} {F : aq_F} {c0 : aq_C} {y : Nat} (hO : mo_0 m F y) {mn rk rw_ cc p : Int} (hp0 : 2 ≤ p) (hp1 : p ≤ 997) (hmn : mn ≤ 6) (hk0 : 0 ≤ rk) (hk1 : rk < mn) (hw0 : 0 ≤ rw_) (hw1 : rw_ < mn) (hc0 : 0 ≤ cc) (hc1 : cc < mn) (hP : nm_P p) : ∀ (d : Nat) (by_ : Int) (i : Int) (tm : Int) (j : Int) (c : aq_C) (hs : aq_sm (fun a => a = y + 20) c0 c) (h0 : 0 ≤ j) (h1 : j ≤ mn) (h2 : 0 ≤ i) (h3 : i < mn) (h4 : 0 ≤ tm) (h5 : tm < p) (hfr : fr_ y p mn c) (hd : mn - j < (d : Int)) (K0 : ∀ (j2 : Int) (c2 : aq_C) (hs2 : aq_sm (fun a => a = y + 20) c0 c2) (hfr2 : fr_ y p mn c2), am_E ac_X5_reduce (181, [vR y, vI mn, vI rk, vI rw_, vI cc, vI p, vI by_, vI i, vI tm, vI j2], [], aq_h m s F c2) (aq_Z m s F (fun a => a = y + 20) c0 (fun r d => r = none ∧ fr_ y p mn d))), am_E ac_X5_reduce (121, [vR y, vI mn, vI rk, vI rw_, vI cc, vI p, vI by_, vI i, vI tm, vI j], [], aq_h m s F c) (aq_Z m s F (fun a => a = y + 20) c0 (fun r d => r = none ∧ fr_ y p mn d))
  | 0, by_, i, tm, j, c, hs, h0, h1, h2, h3, h4, h5, hfr, hd, K0 => by exfalso; omega
  | d + 1, by_, i, tm, j, c, hs, h0, h1, h2, h3, h4, h5, hfr, hd, K0 => by
    obtain ⟨hm, hFo, hG5, hG6, hG7, hG8, hG9, hG10, hG11, hG12, hG13, hG14, hG15, hG16, hG17, hG18, hG19, hG20, hG21, hG22, hG23⟩ := hO
    refine am_E.go (t2 := (123, [vR y, vI mn, vI rk, vI rw_, vI cc, vI p, vI by_, vI i, vI tm, vI j], [vI j], aq_h m s F c)) rfl rfl ?_
    refine am_E.go (t2 := (124, [vR y, vI mn, vI rk, vI rw_, vI cc, vI p, vI by_, vI i, vI tm, vI j], [vI mn, vI j], aq_h m s F c)) rfl rfl ?_
    refine ae_icmp rfl (fun (q_1 : mn ≤ j) => ?_) (fun (q_1 : j < mn) => ?_)
    · exact K0 j c hs hfr
    · refine am_E.go (t2 := (128, [vR y, vI mn, vI rk, vI rw_, vI cc, vI p, vI by_, vI i, vI tm, vI j], [vR y], aq_h m s F c)) rfl rfl ?_
      refine aq_gf (v := vR (y + 20)) rfl (by omega) hFo (by decide) rfl ?_
      show am_E _ (131, [vR y, vI mn, vI rk, vI rw_, vI cc, vI p, vI by_, vI i, vI tm, vI j], [vR (y + 20)], aq_h m s F c) _
      refine am_E.go (t2 := (133, [vR y, vI mn, vI rk, vI rw_, vI cc, vI p, vI by_, vI i, vI tm, vI j], [vI 6, vR (y + 20)], aq_h m s F c)) rfl rfl ?_
      refine am_E.go (t2 := (135, [vR y, vI mn, vI rk, vI rw_, vI cc, vI p, vI by_, vI i, vI tm, vI j], [vI i, vI 6, vR (y + 20)], aq_h m s F c)) rfl rfl ?_
      refine ae_mul rfl (am_ri (by omega) (by omega)) ?_
      show am_E _ (136, [vR y, vI mn, vI rk, vI rw_, vI cc, vI p, vI by_, vI i, vI tm, vI j], [vI (6 * i), vR (y + 20)], aq_h m s F c) _
      refine am_E.go (t2 := (138, [vR y, vI mn, vI rk, vI rw_, vI cc, vI p, vI by_, vI i, vI tm, vI j], [vI j, vI (6 * i), vR (y + 20)], aq_h m s F c)) rfl rfl ?_
      refine ae_add rfl (am_ri (by omega) (by omega)) ?_
      show am_E _ (139, [vR y, vI mn, vI rk, vI rw_, vI cc, vI p, vI by_, vI i, vI tm, vI j], [vI ((6 * i) + j), vR (y + 20)], aq_h m s F c) _
      refine am_E.go (t2 := (140, [vR y, vI mn, vI rk, vI rw_, vI cc, vI p, vI by_, vI i, vI tm, vI j], [vR y, vI ((6 * i) + j), vR (y + 20)], aq_h m s F c)) rfl rfl ?_
      refine aq_gf (v := vR (y + 20)) rfl (by omega) hFo (by decide) rfl ?_
      show am_E _ (143, [vR y, vI mn, vI rk, vI rw_, vI cc, vI p, vI by_, vI i, vI tm, vI j], [vR (y + 20), vI ((6 * i) + j), vR (y + 20)], aq_h m s F c) _
      refine am_E.go (t2 := (145, [vR y, vI mn, vI rk, vI rw_, vI cc, vI p, vI by_, vI i, vI tm, vI j], [vI 6, vR (y + 20), vI ((6 * i) + j), vR (y + 20)], aq_h m s F c)) rfl rfl ?_
      refine am_E.go (t2 := (147, [vR y, vI mn, vI rk, vI rw_, vI cc, vI p, vI by_, vI i, vI tm, vI j], [vI i, vI 6, vR (y + 20), vI ((6 * i) + j), vR (y + 20)], aq_h m s F c)) rfl rfl ?_
      refine ae_mul rfl (am_ri (by omega) (by omega)) ?_
      show am_E _ (148, [vR y, vI mn, vI rk, vI rw_, vI cc, vI p, vI by_, vI i, vI tm, vI j], [vI (6 * i), vR (y + 20), vI ((6 * i) + j), vR (y + 20)], aq_h m s F c) _
      refine am_E.go (t2 := (150, [vR y, vI mn, vI rk, vI rw_, vI cc, vI p, vI by_, vI i, vI tm, vI j], [vI j, vI (6 * i), vR (y + 20), vI ((6 * i) + j), vR (y + 20)], aq_h m s F c)) rfl rfl ?_
      refine ae_add rfl (am_ri (by omega) (by omega)) ?_
      show am_E _ (151, [vR y, vI mn, vI rk, vI rw_, vI cc, vI p, vI by_, vI i, vI tm, vI j], [vI ((6 * i) + j), vR (y + 20), vI ((6 * i) + j), vR (y + 20)], aq_h m s F c) _
      refine aq_al (ok := fun k => k == 0) (v := vI (c (y + 20) ((6 * i) + j))) rfl rfl (by omega) hG20 rfl (by omega) (by omega) rfl ?_
      show am_E _ (152, [vR y, vI mn, vI rk, vI rw_, vI cc, vI p, vI by_, vI i, vI tm, vI j], [vI (c (y + 20) ((6 * i) + j)), vI ((6 * i) + j), vR (y + 20)], aq_h m s F c) _
      have f_2 := hfr i j (by omega) (by omega) (by omega) (by omega)
      refine am_E.go (t2 := (154, [vR y, vI mn, vI rk, vI rw_, vI cc, vI p, vI by_, vI i, vI tm, vI j], [vI p, vI (c (y + 20) ((6 * i) + j)), vI ((6 * i) + j), vR (y + 20)], aq_h m s F c)) rfl rfl ?_
      refine am_E.go (t2 := (156, [vR y, vI mn, vI rk, vI rw_, vI cc, vI p, vI by_, vI i, vI tm, vI j], [vI tm, vI p, vI (c (y + 20) ((6 * i) + j)), vI ((6 * i) + j), vR (y + 20)], aq_h m s F c)) rfl rfl ?_
      refine ae_sub rfl (am_ri (by omega) (by omega)) ?_
      show am_E _ (157, [vR y, vI mn, vI rk, vI rw_, vI cc, vI p, vI by_, vI i, vI tm, vI j], [vI (p - tm), vI (c (y + 20) ((6 * i) + j)), vI ((6 * i) + j), vR (y + 20)], aq_h m s F c) _
      refine am_E.go (t2 := (158, [vR y, vI mn, vI rk, vI rw_, vI cc, vI p, vI by_, vI i, vI tm, vI j], [vR y, vI (p - tm), vI (c (y + 20) ((6 * i) + j)), vI ((6 * i) + j), vR (y + 20)], aq_h m s F c)) rfl rfl ?_
      refine aq_gf (v := vR (y + 20)) rfl (by omega) hFo (by decide) rfl ?_
      show am_E _ (161, [vR y, vI mn, vI rk, vI rw_, vI cc, vI p, vI by_, vI i, vI tm, vI j], [vR (y + 20), vI (p - tm), vI (c (y + 20) ((6 * i) + j)), vI ((6 * i) + j), vR (y + 20)], aq_h m s F c) _
      refine am_E.go (t2 := (163, [vR y, vI mn, vI rk, vI rw_, vI cc, vI p, vI by_, vI i, vI tm, vI j], [vI 6, vR (y + 20), vI (p - tm), vI (c (y + 20) ((6 * i) + j)), vI ((6 * i) + j), vR (y + 20)], aq_h m s F c)) rfl rfl ?_
      refine am_E.go (t2 := (164, [vR y, vI mn, vI rk, vI rw_, vI cc, vI p, vI by_, vI i, vI tm, vI j], [vI rk, vI 6, vR (y + 20), vI (p - tm), vI (c (y + 20) ((6 * i) + j)), vI ((6 * i) + j), vR (y + 20)], aq_h m s F c)) rfl rfl ?_
      refine ae_mul rfl (am_ri (by omega) (by omega)) ?_
      show am_E _ (165, [vR y, vI mn, vI rk, vI rw_, vI cc, vI p, vI by_, vI i, vI tm, vI j], [vI (6 * rk), vR (y + 20), vI (p - tm), vI (c (y + 20) ((6 * i) + j)), vI ((6 * i) + j), vR (y + 20)], aq_h m s F c) _
      refine am_E.go (t2 := (167, [vR y, vI mn, vI rk, vI rw_, vI cc, vI p, vI by_, vI i, vI tm, vI j], [vI j, vI (6 * rk), vR (y + 20), vI (p - tm), vI (c (y + 20) ((6 * i) + j)), vI ((6 * i) + j), vR (y + 20)], aq_h m s F c)) rfl rfl ?_
      refine ae_add rfl (am_ri (by omega) (by omega)) ?_
      show am_E _ (168, [vR y, vI mn, vI rk, vI rw_, vI cc, vI p, vI by_, vI i, vI tm, vI j], [vI ((6 * rk) + j), vR (y + 20), vI (p - tm), vI (c (y + 20) ((6 * i) + j)), vI ((6 * i) + j), vR (y + 20)], aq_h m s F c) _
      refine aq_al (ok := fun k => k == 0) (v := vI (c (y + 20) ((6 * rk) + j))) rfl rfl (by omega) hG20 rfl (by omega) (by omega) rfl ?_
      show am_E _ (169, [vR y, vI mn, vI rk, vI rw_, vI cc, vI p, vI by_, vI i, vI tm, vI j], [vI (c (y + 20) ((6 * rk) + j)), vI (p - tm), vI (c (y + 20) ((6 * i) + j)), vI ((6 * i) + j), vR (y + 20)], aq_h m s F c) _
      have f_3 := hfr rk j (by omega) (by omega) (by omega) (by omega)
      have u_4 := nm_mul (a := (p - tm)) (b := (c (y + 20) ((6 * rk) + j))) (by omega) (by omega) (by omega) (by omega)
      refine ae_mul rfl (am_ri (by omega) (by omega)) ?_
      show am_E _ (170, [vR y, vI mn, vI rk, vI rw_, vI cc, vI p, vI by_, vI i, vI tm, vI j], [vI ((p - tm) * (c (y + 20) ((6 * rk) + j))), vI (c (y + 20) ((6 * i) + j)), vI ((6 * i) + j), vR (y + 20)], aq_h m s F c) _
      refine ae_add rfl (am_ri (by omega) (by omega)) ?_
      show am_E _ (171, [vR y, vI mn, vI rk, vI rw_, vI cc, vI p, vI by_, vI i, vI tm, vI j], [vI ((c (y + 20) ((6 * i) + j)) + ((p - tm) * (c (y + 20) ((6 * rk) + j)))), vI ((6 * i) + j), vR (y + 20)], aq_h m s F c) _
      refine am_E.go (t2 := (173, [vR y, vI mn, vI rk, vI rw_, vI cc, vI p, vI by_, vI i, vI tm, vI j], [vI p, vI ((c (y + 20) ((6 * i) + j)) + ((p - tm) * (c (y + 20) ((6 * rk) + j)))), vI ((6 * i) + j), vR (y + 20)], aq_h m s F c)) rfl rfl ?_
      have eu_5 := nm_em (a := ((c (y + 20) ((6 * i) + j)) + ((p - tm) * (c (y + 20) ((6 * rk) + j))))) (p := p) (by omega)
      refine ae_bin (z := ((c (y + 20) ((6 * i) + j)) + ((p - tm) * (c (y + 20) ((6 * rk) + j)))) % p) rfl rfl (am_rem_e (by omega) (by omega)) ?_
      generalize ((c (y + 20) ((6 * i) + j)) + ((p - tm) * (c (y + 20) ((6 * rk) + j)))) % p = u_5 at eu_5 ⊢
      refine aq_as (kd := 0) rfl rfl (by omega) hG20 (by omega) (by omega) rfl rfl ?_
      show am_E _ (175, [vR y, vI mn, vI rk, vI rw_, vI cc, vI p, vI by_, vI i, vI tm, vI j], [], aq_h m s F (aq_u c (y + 20) ((6 * i) + j) u_5)) _
      generalize hdc_6 : aq_u c (y + 20) ((6 * i) + j) u_5 = c_6
      have sc_6 := aq_smu hs hdc_6 rfl
      have hfrc_6 := fr_u hfr hdc_6 (by omega) (by omega)
      refine ae_iinc rfl rfl (am_ri (by omega) (by omega)) ?_
      show am_E _ (178, [vR y, vI mn, vI rk, vI rw_, vI cc, vI p, vI by_, vI i, vI tm, vI (j + 1)], [], aq_h m s F c_6) _
      refine am_E.go (t2 := (121, [vR y, vI mn, vI rk, vI rw_, vI cc, vI p, vI by_, vI i, vI tm, vI (j + 1)], [], aq_h m s F c_6)) rfl rfl ?_
      exact qm_reduce_i ⟨hm, hFo, hG5, hG6, hG7, hG8, hG9, hG10, hG11, hG12, hG13, hG14, hG15, hG16, hG17, hG18, hG19, hG20, hG21, hG22, hG23⟩ hp0 hp1 hmn hk0 hk1 hw0 hw1 hc0 hc1 hP d by_ i tm (j + 1) c_6 sc_6 (by omega) (by omega) (by omega) (by omega) (by omega) (by omega) hfrc_6 (by omega) K0

theorem qm_reduce_o {m s : Nat} {F : aq_F} {c0 : aq_C} {y : Nat} (hO : mo_0 m F y) {mn rk rw_ cc p : Int} (hp0 : 2 ≤ p) (hp1 : p ≤ 997) (hmn : mn ≤ 6) (hk0 : 0 ≤ rk) (hk1 : rk < mn) (hw0 : 0 ≤ rw_) (hw1 : rw_ < mn) (hc0 : 0 ≤ cc) (hc1 : cc < mn) (hP : nm_P p) : ∀ (d : Nat) (by_ : Int) (i : Int) (v8 : am_V) (v9 : am_V) (c : aq_C) (hs : aq_sm (fun a => a = y + 20) c0 c) (h0 : 0 ≤ i) (h1 : i ≤ mn) (h2 : 1 ≤ by_) (h3 : by_ < p) (hfr : fr_ y p mn c) (hd : mn - i < (d : Int)), am_E ac_X5_reduce (91, [vR y, vI mn, vI rk, vI rw_, vI cc, vI p, vI by_, vI i, v8, v9], [], aq_h m s F c) (aq_Z m s F (fun a => a = y + 20) c0 (fun r d => r = none ∧ fr_ y p mn d))
  | 0, by_, i, v8, v9, c, hs, h0, h1, h2, h3, hfr, hd => by exfalso; omega
  | d + 1, by_, i, v8, v9, c, hs, h0, h1, h2, h3, hfr, hd => by
    obtain ⟨hm, hFo, hG5, hG6, hG7, hG8, hG9, hG10, hG11, hG12, hG13, hG14, hG15, hG16, hG17, hG18, hG19, hG20, hG21, hG22, hG23⟩ := hO
    refine am_E.go (t2 := (93, [vR y, vI mn, vI rk, vI rw_, vI cc, vI p, vI by_, vI i, v8, v9], [vI i], aq_h m s F c)) rfl rfl ?_
    refine am_E.go (t2 := (94, [vR y, vI mn, vI rk, vI rw_, vI cc, vI p, vI by_, vI i, v8, v9], [vI mn, vI i], aq_h m s F c)) rfl rfl ?_
    refine ae_icmp rfl (fun (q_1 : mn ≤ i) => ?_) (fun (q_1 : i < mn) => ?_)
    · refine am_E.ret rfl rfl ?_
      exact ⟨_, rfl, hs, rfl, hfr⟩
    · refine am_E.go (t2 := (98, [vR y, vI mn, vI rk, vI rw_, vI cc, vI p, vI by_, vI i, v8, v9], [vR y], aq_h m s F c)) rfl rfl ?_
      refine aq_gf (v := vR (y + 20)) rfl (by omega) hFo (by decide) rfl ?_
      show am_E _ (101, [vR y, vI mn, vI rk, vI rw_, vI cc, vI p, vI by_, vI i, v8, v9], [vR (y + 20)], aq_h m s F c) _
      refine am_E.go (t2 := (103, [vR y, vI mn, vI rk, vI rw_, vI cc, vI p, vI by_, vI i, v8, v9], [vI 6, vR (y + 20)], aq_h m s F c)) rfl rfl ?_
      refine am_E.go (t2 := (105, [vR y, vI mn, vI rk, vI rw_, vI cc, vI p, vI by_, vI i, v8, v9], [vI i, vI 6, vR (y + 20)], aq_h m s F c)) rfl rfl ?_
      refine ae_mul rfl (am_ri (by omega) (by omega)) ?_
      show am_E _ (106, [vR y, vI mn, vI rk, vI rw_, vI cc, vI p, vI by_, vI i, v8, v9], [vI (6 * i), vR (y + 20)], aq_h m s F c) _
      refine am_E.go (t2 := (108, [vR y, vI mn, vI rk, vI rw_, vI cc, vI p, vI by_, vI i, v8, v9], [vI cc, vI (6 * i), vR (y + 20)], aq_h m s F c)) rfl rfl ?_
      refine ae_add rfl (am_ri (by omega) (by omega)) ?_
      show am_E _ (109, [vR y, vI mn, vI rk, vI rw_, vI cc, vI p, vI by_, vI i, v8, v9], [vI ((6 * i) + cc), vR (y + 20)], aq_h m s F c) _
      refine aq_al (ok := fun k => k == 0) (v := vI (c (y + 20) ((6 * i) + cc))) rfl rfl (by omega) hG20 rfl (by omega) (by omega) rfl ?_
      show am_E _ (110, [vR y, vI mn, vI rk, vI rw_, vI cc, vI p, vI by_, vI i, v8, v9], [vI (c (y + 20) ((6 * i) + cc))], aq_h m s F c) _
      have f_2 := hfr i cc (by omega) (by omega) (by omega) (by omega)
      refine am_E.go (t2 := (112, [vR y, vI mn, vI rk, vI rw_, vI cc, vI p, vI by_, vI i, v8, v9], [vI by_, vI (c (y + 20) ((6 * i) + cc))], aq_h m s F c)) rfl rfl ?_
      have u_3 := nm_mul (a := (c (y + 20) ((6 * i) + cc))) (b := by_) (by omega) (by omega) (by omega) (by omega)
      refine ae_mul rfl (am_ri (by omega) (by omega)) ?_
      show am_E _ (113, [vR y, vI mn, vI rk, vI rw_, vI cc, vI p, vI by_, vI i, v8, v9], [vI ((c (y + 20) ((6 * i) + cc)) * by_)], aq_h m s F c) _
      refine am_E.go (t2 := (115, [vR y, vI mn, vI rk, vI rw_, vI cc, vI p, vI by_, vI i, v8, v9], [vI p, vI ((c (y + 20) ((6 * i) + cc)) * by_)], aq_h m s F c)) rfl rfl ?_
      have eu_4 := nm_em (a := ((c (y + 20) ((6 * i) + cc)) * by_)) (p := p) (by omega)
      refine ae_bin (z := ((c (y + 20) ((6 * i) + cc)) * by_) % p) rfl rfl (am_rem_e (by omega) (by omega)) ?_
      generalize ((c (y + 20) ((6 * i) + cc)) * by_) % p = u_4 at eu_4 ⊢
      refine am_E.go (t2 := (118, [vR y, vI mn, vI rk, vI rw_, vI cc, vI p, vI by_, vI i, vI u_4, v9], [], aq_h m s F c)) rfl rfl ?_
      refine am_E.go (t2 := (119, [vR y, vI mn, vI rk, vI rw_, vI cc, vI p, vI by_, vI i, vI u_4, v9], [vI 0], aq_h m s F c)) rfl rfl ?_
      refine am_E.go (t2 := (121, [vR y, vI mn, vI rk, vI rw_, vI cc, vI p, vI by_, vI i, vI u_4, vI 0], [], aq_h m s F c)) rfl rfl ?_
      refine qm_reduce_i ⟨hm, hFo, hG5, hG6, hG7, hG8, hG9, hG10, hG11, hG12, hG13, hG14, hG15, hG16, hG17, hG18, hG19, hG20, hG21, hG22, hG23⟩ hp0 hp1 hmn hk0 hk1 hw0 hw1 hc0 hc1 hP 8 by_ i u_4 0 c hs (by omega) (by omega) (by omega) (by omega) (by omega) (by omega) hfr (by omega) ?_
      · intro j2_121 c_5 sc_5 hfr2_121
        refine ae_iinc rfl rfl (am_ri (by omega) (by omega)) ?_
        show am_E _ (184, [vR y, vI mn, vI rk, vI rw_, vI cc, vI p, vI by_, vI (i + 1), vI u_4, vI j2_121], [], aq_h m s F c_5) _
        refine am_E.go (t2 := (91, [vR y, vI mn, vI rk, vI rw_, vI cc, vI p, vI by_, vI (i + 1), vI u_4, vI j2_121], [], aq_h m s F c_5)) rfl rfl ?_
        exact qm_reduce_o ⟨hm, hFo, hG5, hG6, hG7, hG8, hG9, hG10, hG11, hG12, hG13, hG14, hG15, hG16, hG17, hG18, hG19, hG20, hG21, hG22, hG23⟩ hp0 hp1 hmn hk0 hk1 hw0 hw1 hc0 hc1 hP d by_ (i + 1) (vI u_4) (vI j2_121) c_5 sc_5 (by omega) (by omega) (by omega) (by omega) hfr2_121 (by omega)

theorem qm_reduce_s {m s : Nat} {F : aq_F} {c0 : aq_C} {y : Nat} (hO : mo_0 m F y) {mn rk rw_ cc p : Int} (hp0 : 2 ≤ p) (hp1 : p ≤ 997) (hmn : mn ≤ 6) (hk0 : 0 ≤ rk) (hk1 : rk < mn) (hw0 : 0 ≤ rw_) (hw1 : rw_ < mn) (hc0 : 0 ≤ cc) (hc1 : cc < mn) (hP : nm_P p) : ∀ (d : Nat) (q : Int) (v7 : am_V) (v8 : am_V) (v9 : am_V) (c : aq_C) (hs : aq_sm (fun a => a = y + 20) c0 c) (h0 : 0 ≤ q) (h1 : q ≤ mn) (hnz : (q ≤ cc → c (y + 20) (6 * rw_ + cc) ≠ 0) ∧ (cc < q → c (y + 20) (6 * rk + cc) ≠ 0)) (hfr : fr_ y p mn c) (hd : mn - q < (d : Int)), am_E ac_X5_reduce (3, [vR y, vI mn, vI rk, vI rw_, vI cc, vI p, vI q, v7, v8, v9], [], aq_h m s F c) (aq_Z m s F (fun a => a = y + 20) c0 (fun r d => r = none ∧ fr_ y p mn d))
  | 0, q, v7, v8, v9, c, hs, h0, h1, hnz, hfr, hd => by exfalso; omega
  | d + 1, q, v7, v8, v9, c, hs, h0, h1, hnz, hfr, hd => by
    obtain ⟨hm, hFo, hG5, hG6, hG7, hG8, hG9, hG10, hG11, hG12, hG13, hG14, hG15, hG16, hG17, hG18, hG19, hG20, hG21, hG22, hG23⟩ := hO
    refine am_E.go (t2 := (5, [vR y, vI mn, vI rk, vI rw_, vI cc, vI p, vI q, v7, v8, v9], [vI q], aq_h m s F c)) rfl rfl ?_
    refine am_E.go (t2 := (6, [vR y, vI mn, vI rk, vI rw_, vI cc, vI p, vI q, v7, v8, v9], [vI mn, vI q], aq_h m s F c)) rfl rfl ?_
    refine ae_icmp rfl (fun (q_1 : mn ≤ q) => ?_) (fun (q_1 : q < mn) => ?_)
    · refine am_E.go (t2 := (68, [vR y, vI mn, vI rk, vI rw_, vI cc, vI p, vI q, v7, v8, v9], [vR y], aq_h m s F c)) rfl rfl ?_
      refine aq_gf (v := vR (y + 20)) rfl (by omega) hFo (by decide) rfl ?_
      show am_E _ (71, [vR y, vI mn, vI rk, vI rw_, vI cc, vI p, vI q, v7, v8, v9], [vR (y + 20)], aq_h m s F c) _
      refine am_E.go (t2 := (73, [vR y, vI mn, vI rk, vI rw_, vI cc, vI p, vI q, v7, v8, v9], [vI 6, vR (y + 20)], aq_h m s F c)) rfl rfl ?_
      refine am_E.go (t2 := (74, [vR y, vI mn, vI rk, vI rw_, vI cc, vI p, vI q, v7, v8, v9], [vI rk, vI 6, vR (y + 20)], aq_h m s F c)) rfl rfl ?_
      refine ae_mul rfl (am_ri (by omega) (by omega)) ?_
      show am_E _ (75, [vR y, vI mn, vI rk, vI rw_, vI cc, vI p, vI q, v7, v8, v9], [vI (6 * rk), vR (y + 20)], aq_h m s F c) _
      refine am_E.go (t2 := (77, [vR y, vI mn, vI rk, vI rw_, vI cc, vI p, vI q, v7, v8, v9], [vI cc, vI (6 * rk), vR (y + 20)], aq_h m s F c)) rfl rfl ?_
      refine ae_add rfl (am_ri (by omega) (by omega)) ?_
      show am_E _ (78, [vR y, vI mn, vI rk, vI rw_, vI cc, vI p, vI q, v7, v8, v9], [vI ((6 * rk) + cc), vR (y + 20)], aq_h m s F c) _
      refine aq_al (ok := fun k => k == 0) (v := vI (c (y + 20) ((6 * rk) + cc))) rfl rfl (by omega) hG20 rfl (by omega) (by omega) rfl ?_
      show am_E _ (79, [vR y, vI mn, vI rk, vI rw_, vI cc, vI p, vI q, v7, v8, v9], [vI (c (y + 20) ((6 * rk) + cc))], aq_h m s F c) _
      have f_2 := hfr rk cc (by omega) (by omega) (by omega) (by omega)
      refine am_E.go (t2 := (81, [vR y, vI mn, vI rk, vI rw_, vI cc, vI p, vI q, v7, v8, v9], [vI p, vI (c (y + 20) ((6 * rk) + cc))], aq_h m s F c)) rfl rfl ?_
      refine am_E.call rfl rfl rfl (Nat.le_of_ble_eq_true rfl) (qm_inverse (by have := hnz.2 (by omega); omega) (by omega) (by omega) hP) ?_
      rintro r5 h5 ⟨rfl, by_, rfl, hby0, hby1⟩
      show am_E _ (84, [vR y, vI mn, vI rk, vI rw_, vI cc, vI p, vI q, v7, v8, v9], [vI by_], aq_h m s F c) _
      refine am_E.go (t2 := (86, [vR y, vI mn, vI rk, vI rw_, vI cc, vI p, vI by_, v7, v8, v9], [], aq_h m s F c)) rfl rfl ?_
      refine am_E.go (t2 := (87, [vR y, vI mn, vI rk, vI rw_, vI cc, vI p, vI by_, v7, v8, v9], [vI rk], aq_h m s F c)) rfl rfl ?_
      refine am_E.go (t2 := (88, [vR y, vI mn, vI rk, vI rw_, vI cc, vI p, vI by_, v7, v8, v9], [vI 1, vI rk], aq_h m s F c)) rfl rfl ?_
      refine ae_add rfl (am_ri (by omega) (by omega)) ?_
      show am_E _ (89, [vR y, vI mn, vI rk, vI rw_, vI cc, vI p, vI by_, v7, v8, v9], [vI (rk + 1)], aq_h m s F c) _
      refine am_E.go (t2 := (91, [vR y, vI mn, vI rk, vI rw_, vI cc, vI p, vI by_, vI (rk + 1), v8, v9], [], aq_h m s F c)) rfl rfl ?_
      exact qm_reduce_o ⟨hm, hFo, hG5, hG6, hG7, hG8, hG9, hG10, hG11, hG12, hG13, hG14, hG15, hG16, hG17, hG18, hG19, hG20, hG21, hG22, hG23⟩ hp0 hp1 hmn hk0 hk1 hw0 hw1 hc0 hc1 hP 8 by_ (rk + 1) (v8) (v9) c hs (by omega) (by omega) (by omega) (by omega) hfr (by omega)
    · refine am_E.go (t2 := (10, [vR y, vI mn, vI rk, vI rw_, vI cc, vI p, vI q, v7, v8, v9], [vR y], aq_h m s F c)) rfl rfl ?_
      refine aq_gf (v := vR (y + 20)) rfl (by omega) hFo (by decide) rfl ?_
      show am_E _ (13, [vR y, vI mn, vI rk, vI rw_, vI cc, vI p, vI q, v7, v8, v9], [vR (y + 20)], aq_h m s F c) _
      refine am_E.go (t2 := (15, [vR y, vI mn, vI rk, vI rw_, vI cc, vI p, vI q, v7, v8, v9], [vI 6, vR (y + 20)], aq_h m s F c)) rfl rfl ?_
      refine am_E.go (t2 := (16, [vR y, vI mn, vI rk, vI rw_, vI cc, vI p, vI q, v7, v8, v9], [vI rk, vI 6, vR (y + 20)], aq_h m s F c)) rfl rfl ?_
      refine ae_mul rfl (am_ri (by omega) (by omega)) ?_
      show am_E _ (17, [vR y, vI mn, vI rk, vI rw_, vI cc, vI p, vI q, v7, v8, v9], [vI (6 * rk), vR (y + 20)], aq_h m s F c) _
      refine am_E.go (t2 := (19, [vR y, vI mn, vI rk, vI rw_, vI cc, vI p, vI q, v7, v8, v9], [vI q, vI (6 * rk), vR (y + 20)], aq_h m s F c)) rfl rfl ?_
      refine ae_add rfl (am_ri (by omega) (by omega)) ?_
      show am_E _ (20, [vR y, vI mn, vI rk, vI rw_, vI cc, vI p, vI q, v7, v8, v9], [vI ((6 * rk) + q), vR (y + 20)], aq_h m s F c) _
      refine aq_al (ok := fun k => k == 0) (v := vI (c (y + 20) ((6 * rk) + q))) rfl rfl (by omega) hG20 rfl (by omega) (by omega) rfl ?_
      show am_E _ (21, [vR y, vI mn, vI rk, vI rw_, vI cc, vI p, vI q, v7, v8, v9], [vI (c (y + 20) ((6 * rk) + q))], aq_h m s F c) _
      have f_3 := hfr rk q (by omega) (by omega) (by omega) (by omega)
      refine am_E.go (t2 := (23, [vR y, vI mn, vI rk, vI rw_, vI cc, vI p, vI q, vI (c (y + 20) ((6 * rk) + q)), v8, v9], [], aq_h m s F c)) rfl rfl ?_
      refine am_E.go (t2 := (24, [vR y, vI mn, vI rk, vI rw_, vI cc, vI p, vI q, vI (c (y + 20) ((6 * rk) + q)), v8, v9], [vR y], aq_h m s F c)) rfl rfl ?_
      refine aq_gf (v := vR (y + 20)) rfl (by omega) hFo (by decide) rfl ?_
      show am_E _ (27, [vR y, vI mn, vI rk, vI rw_, vI cc, vI p, vI q, vI (c (y + 20) ((6 * rk) + q)), v8, v9], [vR (y + 20)], aq_h m s F c) _
      refine am_E.go (t2 := (29, [vR y, vI mn, vI rk, vI rw_, vI cc, vI p, vI q, vI (c (y + 20) ((6 * rk) + q)), v8, v9], [vI 6, vR (y + 20)], aq_h m s F c)) rfl rfl ?_
      refine am_E.go (t2 := (30, [vR y, vI mn, vI rk, vI rw_, vI cc, vI p, vI q, vI (c (y + 20) ((6 * rk) + q)), v8, v9], [vI rk, vI 6, vR (y + 20)], aq_h m s F c)) rfl rfl ?_
      refine ae_mul rfl (am_ri (by omega) (by omega)) ?_
      show am_E _ (31, [vR y, vI mn, vI rk, vI rw_, vI cc, vI p, vI q, vI (c (y + 20) ((6 * rk) + q)), v8, v9], [vI (6 * rk), vR (y + 20)], aq_h m s F c) _
      refine am_E.go (t2 := (33, [vR y, vI mn, vI rk, vI rw_, vI cc, vI p, vI q, vI (c (y + 20) ((6 * rk) + q)), v8, v9], [vI q, vI (6 * rk), vR (y + 20)], aq_h m s F c)) rfl rfl ?_
      refine ae_add rfl (am_ri (by omega) (by omega)) ?_
      show am_E _ (34, [vR y, vI mn, vI rk, vI rw_, vI cc, vI p, vI q, vI (c (y + 20) ((6 * rk) + q)), v8, v9], [vI ((6 * rk) + q), vR (y + 20)], aq_h m s F c) _
      refine am_E.go (t2 := (35, [vR y, vI mn, vI rk, vI rw_, vI cc, vI p, vI q, vI (c (y + 20) ((6 * rk) + q)), v8, v9], [vR y, vI ((6 * rk) + q), vR (y + 20)], aq_h m s F c)) rfl rfl ?_
      refine aq_gf (v := vR (y + 20)) rfl (by omega) hFo (by decide) rfl ?_
      show am_E _ (38, [vR y, vI mn, vI rk, vI rw_, vI cc, vI p, vI q, vI (c (y + 20) ((6 * rk) + q)), v8, v9], [vR (y + 20), vI ((6 * rk) + q), vR (y + 20)], aq_h m s F c) _
      refine am_E.go (t2 := (40, [vR y, vI mn, vI rk, vI rw_, vI cc, vI p, vI q, vI (c (y + 20) ((6 * rk) + q)), v8, v9], [vI 6, vR (y + 20), vI ((6 * rk) + q), vR (y + 20)], aq_h m s F c)) rfl rfl ?_
      refine am_E.go (t2 := (41, [vR y, vI mn, vI rk, vI rw_, vI cc, vI p, vI q, vI (c (y + 20) ((6 * rk) + q)), v8, v9], [vI rw_, vI 6, vR (y + 20), vI ((6 * rk) + q), vR (y + 20)], aq_h m s F c)) rfl rfl ?_
      refine ae_mul rfl (am_ri (by omega) (by omega)) ?_
      show am_E _ (42, [vR y, vI mn, vI rk, vI rw_, vI cc, vI p, vI q, vI (c (y + 20) ((6 * rk) + q)), v8, v9], [vI (6 * rw_), vR (y + 20), vI ((6 * rk) + q), vR (y + 20)], aq_h m s F c) _
      refine am_E.go (t2 := (44, [vR y, vI mn, vI rk, vI rw_, vI cc, vI p, vI q, vI (c (y + 20) ((6 * rk) + q)), v8, v9], [vI q, vI (6 * rw_), vR (y + 20), vI ((6 * rk) + q), vR (y + 20)], aq_h m s F c)) rfl rfl ?_
      refine ae_add rfl (am_ri (by omega) (by omega)) ?_
      show am_E _ (45, [vR y, vI mn, vI rk, vI rw_, vI cc, vI p, vI q, vI (c (y + 20) ((6 * rk) + q)), v8, v9], [vI ((6 * rw_) + q), vR (y + 20), vI ((6 * rk) + q), vR (y + 20)], aq_h m s F c) _
      refine aq_al (ok := fun k => k == 0) (v := vI (c (y + 20) ((6 * rw_) + q))) rfl rfl (by omega) hG20 rfl (by omega) (by omega) rfl ?_
      show am_E _ (46, [vR y, vI mn, vI rk, vI rw_, vI cc, vI p, vI q, vI (c (y + 20) ((6 * rk) + q)), v8, v9], [vI (c (y + 20) ((6 * rw_) + q)), vI ((6 * rk) + q), vR (y + 20)], aq_h m s F c) _
      have f_4 := hfr rw_ q (by omega) (by omega) (by omega) (by omega)
      refine aq_as (kd := 0) rfl rfl (by omega) hG20 (by omega) (by omega) rfl rfl ?_
      show am_E _ (47, [vR y, vI mn, vI rk, vI rw_, vI cc, vI p, vI q, vI (c (y + 20) ((6 * rk) + q)), v8, v9], [], aq_h m s F (aq_u c (y + 20) ((6 * rk) + q) (c (y + 20) ((6 * rw_) + q)))) _
      generalize hdc_5 : aq_u c (y + 20) ((6 * rk) + q) (c (y + 20) ((6 * rw_) + q)) = c_5
      have sc_5 := aq_smu hs hdc_5 rfl
      have hfrc_5 := fr_u hfr hdc_5 (by omega) (by omega)
      refine am_E.go (t2 := (48, [vR y, vI mn, vI rk, vI rw_, vI cc, vI p, vI q, vI (c (y + 20) ((6 * rk) + q)), v8, v9], [vR y], aq_h m s F c_5)) rfl rfl ?_
      refine aq_gf (v := vR (y + 20)) rfl (by omega) hFo (by decide) rfl ?_
      show am_E _ (51, [vR y, vI mn, vI rk, vI rw_, vI cc, vI p, vI q, vI (c (y + 20) ((6 * rk) + q)), v8, v9], [vR (y + 20)], aq_h m s F c_5) _
      refine am_E.go (t2 := (53, [vR y, vI mn, vI rk, vI rw_, vI cc, vI p, vI q, vI (c (y + 20) ((6 * rk) + q)), v8, v9], [vI 6, vR (y + 20)], aq_h m s F c_5)) rfl rfl ?_
      refine am_E.go (t2 := (54, [vR y, vI mn, vI rk, vI rw_, vI cc, vI p, vI q, vI (c (y + 20) ((6 * rk) + q)), v8, v9], [vI rw_, vI 6, vR (y + 20)], aq_h m s F c_5)) rfl rfl ?_
      refine ae_mul rfl (am_ri (by omega) (by omega)) ?_
      show am_E _ (55, [vR y, vI mn, vI rk, vI rw_, vI cc, vI p, vI q, vI (c (y + 20) ((6 * rk) + q)), v8, v9], [vI (6 * rw_), vR (y + 20)], aq_h m s F c_5) _
      refine am_E.go (t2 := (57, [vR y, vI mn, vI rk, vI rw_, vI cc, vI p, vI q, vI (c (y + 20) ((6 * rk) + q)), v8, v9], [vI q, vI (6 * rw_), vR (y + 20)], aq_h m s F c_5)) rfl rfl ?_
      refine ae_add rfl (am_ri (by omega) (by omega)) ?_
      show am_E _ (58, [vR y, vI mn, vI rk, vI rw_, vI cc, vI p, vI q, vI (c (y + 20) ((6 * rk) + q)), v8, v9], [vI ((6 * rw_) + q), vR (y + 20)], aq_h m s F c_5) _
      refine am_E.go (t2 := (60, [vR y, vI mn, vI rk, vI rw_, vI cc, vI p, vI q, vI (c (y + 20) ((6 * rk) + q)), v8, v9], [vI (c (y + 20) ((6 * rk) + q)), vI ((6 * rw_) + q), vR (y + 20)], aq_h m s F c_5)) rfl rfl ?_
      refine aq_as (kd := 0) rfl rfl (by omega) hG20 (by omega) (by omega) rfl rfl ?_
      show am_E _ (61, [vR y, vI mn, vI rk, vI rw_, vI cc, vI p, vI q, vI (c (y + 20) ((6 * rk) + q)), v8, v9], [], aq_h m s F (aq_u c_5 (y + 20) ((6 * rw_) + q) (c (y + 20) ((6 * rk) + q)))) _
      generalize hdc_6 : aq_u c_5 (y + 20) ((6 * rw_) + q) (c (y + 20) ((6 * rk) + q)) = c_6
      have sc_6 := aq_smu sc_5 hdc_6 rfl
      have hfrc_6 := fr_u hfrc_5 hdc_6 (by omega) (by omega)
      refine ae_iinc rfl rfl (am_ri (by omega) (by omega)) ?_
      show am_E _ (64, [vR y, vI mn, vI rk, vI rw_, vI cc, vI p, vI (q + 1), vI (c (y + 20) ((6 * rk) + q)), v8, v9], [], aq_h m s F c_6) _
      refine am_E.go (t2 := (3, [vR y, vI mn, vI rk, vI rw_, vI cc, vI p, vI (q + 1), vI (c (y + 20) ((6 * rk) + q)), v8, v9], [], aq_h m s F c_6)) rfl rfl ?_
      exact qm_reduce_s ⟨hm, hFo, hG5, hG6, hG7, hG8, hG9, hG10, hG11, hG12, hG13, hG14, hG15, hG16, hG17, hG18, hG19, hG20, hG21, hG22, hG23⟩ hp0 hp1 hmn hk0 hk1 hw0 hw1 hc0 hc1 hP d (q + 1) (vI (c (y + 20) ((6 * rk) + q))) (v8) (v9) c_6 sc_6 (by omega) (by omega) (nz_swap hnz hdc_5 hdc_6 (by omega) (by omega) (by omega) (by omega)) hfrc_6 (by omega)

theorem qm_reduce {m s : Nat} {F : aq_F} {c : aq_C} {y : Nat} (hO : mo_0 m F y) {mn rk rw_ cc p : Int} (hp0 : 2 ≤ p) (hp1 : p ≤ 997) (hmn : mn ≤ 6) (hk0 : 0 ≤ rk) (hk1 : rk < mn) (hw0 : 0 ≤ rw_) (hw1 : rw_ < mn) (hc0 : 0 ≤ cc) (hc1 : cc < mn) (hP : nm_P p) (hfr : fr_ y p mn c) (hnz0 : c (y + 20) (6 * rw_ + cc) ≠ 0) : am_E ac_X5_reduce (0, [vR y, vI mn, vI rk, vI rw_, vI cc, vI p, vU, vU, vU, vU], [], aq_h m s F c) (aq_Z m s F (fun a => a = y + 20) c (fun r d => r = none ∧ fr_ y p mn d)) := by
  obtain ⟨hm, hFo, hG5, hG6, hG7, hG8, hG9, hG10, hG11, hG12, hG13, hG14, hG15, hG16, hG17, hG18, hG19, hG20, hG21, hG22, hG23⟩ := hO
  refine am_E.go (t2 := (1, [vR y, vI mn, vI rk, vI rw_, vI cc, vI p, vU, vU, vU, vU], [vI 0], aq_h m s F c)) rfl rfl ?_
  refine am_E.go (t2 := (3, [vR y, vI mn, vI rk, vI rw_, vI cc, vI p, vI 0, vU, vU, vU], [], aq_h m s F c)) rfl rfl ?_
  exact qm_reduce_s ⟨hm, hFo, hG5, hG6, hG7, hG8, hG9, hG10, hG11, hG12, hG13, hG14, hG15, hG16, hG17, hG18, hG19, hG20, hG21, hG22, hG23⟩ hp0 hp1 hmn hk0 hk1 hw0 hw1 hc0 hc1 hP 8 0 (vU) (vU) (vU) c (aq_sm0 (c := c) (S := (fun a => a = y + 20))) (by omega) (by omega) ⟨fun _ => hnz0, fun h => absurd h (by omega)⟩ hfr (by omega)
