/-! The reference: free. Printed by wip/p20/sx/gMO15.py. -/

def ff_ (y : Nat) (p mn i j : Int) (c : aq_C) : Prop := ∀ a b, 0 ≤ a → 0 ≤ b → b < mn → (a < i ∨ (a = i ∧ b < j)) → 0 ≤ c (y + 20) (6 * a + b) ∧ c (y + 20) (6 * a + b) < p
theorem ff_u {y : Nat} {p mn i j x : Int} {c d : aq_C} (h : ff_ y p mn i j c) (he : aq_u c (y + 20) (6 * i + j) x = d) (h0 : 0 ≤ x) (h1 : x < p) (hm : mn ≤ 6) (hj : j < mn) (hj0 : 0 ≤ j) : ff_ y p mn i (j + 1) d := fun a b a1 a2 a3 a4 => by
  rw [← he]
  unfold aq_u
  by_cases e : a = i ∧ b = j
  · rw [if_pos ⟨rfl, by omega⟩]
    exact ⟨h0, h1⟩
  · rw [if_neg (by omega)]
    exact h a b a1 a2 a3 (by omega)
theorem ff_c {y : Nat} {p mn i j : Int} {c d : aq_C} (h : ff_ y p mn i j c) (hs : ∀ k, d (y + 20) k = c (y + 20) k) : ff_ y p mn i j d := fun a b a1 a2 a3 a4 => by
  rw [hs]
  exact h a b a1 a2 a3 a4

theorem qm_free_w {m s : Nat} {F : aq_F} {c0 : aq_C} {y : Nat} (hO : mo_0 m F y) (hI : mo_I y c0) {n t v p mn lt : Int} (hn1 : 1 ≤ n) (hn4 : n ≤ 4) (ht0 : 0 ≤ t) (ht1 : t ≤ n) (hp0 : 2 ≤ p) (hp1 : p ≤ 997) (hP : nm_P p) (hmn0 : 0 ≤ mn) (hmn : mn ≤ 6) (hl0 : 0 ≤ lt) (hl1 : lt < p) : ∀ (d : Nat) (rk : Int) (cc : Int) (w : Int) (v10 : am_V) (v11 : am_V) (c : aq_C) (hs : aq_sm (mo_S y) c0 c) (h0 : 0 ≤ cc) (h1 : cc < mn) (h2 : 0 ≤ rk) (h3 : rk ≤ w) (h4 : w ≤ mn) (hob : mo_k y c0 c) (hfr : fr_ y p mn c) (hd : mn - w < (d : Int)) (K0 : ∀ (w2 : Int) (c2 : aq_C) (hs2 : aq_sm (mo_S y) c0 c2) (f1 : rk ≤ w2) (f2 : w2 ≤ mn) (f3 : w2 = mn ∨ c2 (y + 20) (6 * w2 + cc) ≠ 0) (hob2 : mo_k y c0 c2) (hfr2 : fr_ y p mn c2), am_E ac_X5_free (220, [vR y, vI n, vI t, vI v, vI p, vI mn, vI lt, vI rk, vI cc, vI w2, v10, v11], [], aq_h m s F c2) (aq_Z m s F (fun a => y ≤ a ∧ a < y + 24) c0 (fun r d => aq_vi r ∧ mo_I y d))), am_E ac_X5_free (191, [vR y, vI n, vI t, vI v, vI p, vI mn, vI lt, vI rk, vI cc, vI w, v10, v11], [], aq_h m s F c) (aq_Z m s F (fun a => y ≤ a ∧ a < y + 24) c0 (fun r d => aq_vi r ∧ mo_I y d))
  | 0, rk, cc, w, v10, v11, c, hs, h0, h1, h2, h3, h4, hob, hfr, hd, K0 => by exfalso; omega
  | d + 1, rk, cc, w, v10, v11, c, hs, h0, h1, h2, h3, h4, hob, hfr, hd, K0 => by
    obtain ⟨hm, hFo, hG5, hG6, hG7, hG8, hG9, hG10, hG11, hG12, hG13, hG14, hG15, hG16, hG17, hG18, hG19, hG20, hG21, hG22, hG23⟩ := hO
    refine am_E.go (t2 := (193, [vR y, vI n, vI t, vI v, vI p, vI mn, vI lt, vI rk, vI cc, vI w, v10, v11], [vI w], aq_h m s F c)) rfl rfl ?_
    refine am_E.go (t2 := (195, [vR y, vI n, vI t, vI v, vI p, vI mn, vI lt, vI rk, vI cc, vI w, v10, v11], [vI mn, vI w], aq_h m s F c)) rfl rfl ?_
    refine ae_icmp rfl (fun (q_1 : mn ≤ w) => ?_) (fun (q_1 : w < mn) => ?_)
    · exact K0 w c hs (by omega) (by omega) (by first | (exact Or.inl (by omega)) | (exact Or.inr (by assumption))) hob hfr
    · refine am_E.go (t2 := (199, [vR y, vI n, vI t, vI v, vI p, vI mn, vI lt, vI rk, vI cc, vI w, v10, v11], [vR y], aq_h m s F c)) rfl rfl ?_
      refine aq_gf (v := vR (y + 20)) rfl (by omega) hFo (by decide) rfl ?_
      show am_E _ (202, [vR y, vI n, vI t, vI v, vI p, vI mn, vI lt, vI rk, vI cc, vI w, v10, v11], [vR (y + 20)], aq_h m s F c) _
      refine am_E.go (t2 := (204, [vR y, vI n, vI t, vI v, vI p, vI mn, vI lt, vI rk, vI cc, vI w, v10, v11], [vI 6, vR (y + 20)], aq_h m s F c)) rfl rfl ?_
      refine am_E.go (t2 := (206, [vR y, vI n, vI t, vI v, vI p, vI mn, vI lt, vI rk, vI cc, vI w, v10, v11], [vI w, vI 6, vR (y + 20)], aq_h m s F c)) rfl rfl ?_
      refine ae_mul rfl (am_ri (by omega) (by omega)) ?_
      show am_E _ (207, [vR y, vI n, vI t, vI v, vI p, vI mn, vI lt, vI rk, vI cc, vI w, v10, v11], [vI (6 * w), vR (y + 20)], aq_h m s F c) _
      refine am_E.go (t2 := (209, [vR y, vI n, vI t, vI v, vI p, vI mn, vI lt, vI rk, vI cc, vI w, v10, v11], [vI cc, vI (6 * w), vR (y + 20)], aq_h m s F c)) rfl rfl ?_
      refine ae_add rfl (am_ri (by omega) (by omega)) ?_
      show am_E _ (210, [vR y, vI n, vI t, vI v, vI p, vI mn, vI lt, vI rk, vI cc, vI w, v10, v11], [vI ((6 * w) + cc), vR (y + 20)], aq_h m s F c) _
      refine aq_al (ok := fun k => k == 0) (v := vI (c (y + 20) ((6 * w) + cc))) rfl rfl (by omega) hG20 rfl (by omega) (by omega) rfl ?_
      show am_E _ (211, [vR y, vI n, vI t, vI v, vI p, vI mn, vI lt, vI rk, vI cc, vI w, v10, v11], [vI (c (y + 20) ((6 * w) + cc))], aq_h m s F c) _
      refine ae_if0 rfl (fun (q_2 : (c (y + 20) ((6 * w) + cc)) ≠ 0) => ?_) (fun (q_2 : (c (y + 20) ((6 * w) + cc)) = 0) => ?_)
      · exact K0 w c hs (by omega) (by omega) (by first | (exact Or.inl (by omega)) | (exact Or.inr (by assumption))) hob hfr
      · refine ae_iinc rfl rfl (am_ri (by omega) (by omega)) ?_
        show am_E _ (217, [vR y, vI n, vI t, vI v, vI p, vI mn, vI lt, vI rk, vI cc, vI (w + 1), v10, v11], [], aq_h m s F c) _
        refine am_E.go (t2 := (191, [vR y, vI n, vI t, vI v, vI p, vI mn, vI lt, vI rk, vI cc, vI (w + 1), v10, v11], [], aq_h m s F c)) rfl rfl ?_
        exact qm_free_w ⟨hm, hFo, hG5, hG6, hG7, hG8, hG9, hG10, hG11, hG12, hG13, hG14, hG15, hG16, hG17, hG18, hG19, hG20, hG21, hG22, hG23⟩ hI hn1 hn4 ht0 ht1 hp0 hp1 hP hmn0 hmn hl0 hl1 d rk cc (w + 1) (v10) (v11) c hs (by omega) (by omega) (by omega) (by omega) (by omega) hob hfr (by omega) K0

theorem qm_free_r {m s : Nat} {F : aq_F} {c0 : aq_C} {y : Nat} (hO : mo_0 m F y) (hI : mo_I y c0) {n t v p mn lt : Int} (hn1 : 1 ≤ n) (hn4 : n ≤ 4) (ht0 : 0 ≤ t) (ht1 : t ≤ n) (hp0 : 2 ≤ p) (hp1 : p ≤ 997) (hP : nm_P p) (hmn0 : 0 ≤ mn) (hmn : mn ≤ 6) (hl0 : 0 ≤ lt) (hl1 : lt < p) : ∀ (d : Nat) (rk : Int) (cc : Int) (v9 : am_V) (v10 : am_V) (v11 : am_V) (c : aq_C) (hs : aq_sm (mo_S y) c0 c) (h0 : 0 ≤ cc) (h1 : cc ≤ mn) (h2 : 0 ≤ rk) (h3 : rk ≤ cc) (hob : mo_k y c0 c) (hfr : fr_ y p mn c) (hd : mn - cc < (d : Int)), am_E ac_X5_free (180, [vR y, vI n, vI t, vI v, vI p, vI mn, vI lt, vI rk, vI cc, v9, v10, v11], [], aq_h m s F c) (aq_Z m s F (fun a => y ≤ a ∧ a < y + 24) c0 (fun r d => aq_vi r ∧ mo_I y d))
  | 0, rk, cc, v9, v10, v11, c, hs, h0, h1, h2, h3, hob, hfr, hd => by exfalso; omega
  | d + 1, rk, cc, v9, v10, v11, c, hs, h0, h1, h2, h3, hob, hfr, hd => by
    obtain ⟨hm, hFo, hG5, hG6, hG7, hG8, hG9, hG10, hG11, hG12, hG13, hG14, hG15, hG16, hG17, hG18, hG19, hG20, hG21, hG22, hG23⟩ := hO
    refine am_E.go (t2 := (182, [vR y, vI n, vI t, vI v, vI p, vI mn, vI lt, vI rk, vI cc, v9, v10, v11], [vI cc], aq_h m s F c)) rfl rfl ?_
    refine am_E.go (t2 := (184, [vR y, vI n, vI t, vI v, vI p, vI mn, vI lt, vI rk, vI cc, v9, v10, v11], [vI mn, vI cc], aq_h m s F c)) rfl rfl ?_
    refine ae_icmp rfl (fun (q_1 : mn ≤ cc) => ?_) (fun (q_1 : cc < mn) => ?_)
    · refine am_E.go (t2 := (252, [vR y, vI n, vI t, vI v, vI p, vI mn, vI lt, vI rk, vI cc, v9, v10, v11], [vI rk], aq_h m s F c)) rfl rfl ?_
      refine am_E.ret rfl rfl ?_
      exact ⟨_, rfl, aq_smi hs (fun a h => mo_Sa h), ⟨_, rfl⟩, mo_Ik hI hs hob⟩
    · refine am_E.go (t2 := (189, [vR y, vI n, vI t, vI v, vI p, vI mn, vI lt, vI rk, vI cc, v9, v10, v11], [vI rk], aq_h m s F c)) rfl rfl ?_
      refine am_E.go (t2 := (191, [vR y, vI n, vI t, vI v, vI p, vI mn, vI lt, vI rk, vI cc, vI rk, v10, v11], [], aq_h m s F c)) rfl rfl ?_
      refine qm_free_w ⟨hm, hFo, hG5, hG6, hG7, hG8, hG9, hG10, hG11, hG12, hG13, hG14, hG15, hG16, hG17, hG18, hG19, hG20, hG21, hG22, hG23⟩ hI hn1 hn4 ht0 ht1 hp0 hp1 hP hmn0 hmn hl0 hl1 8 rk cc rk (v10) (v11) c hs (by omega) (by omega) (by omega) (by omega) (by omega) hob hfr (by omega) ?_
      · intro w2_191 c_2 sc_2 f1_191 f2_191 f3_191 hob2_191 hfr2_191
        refine am_E.go (t2 := (222, [vR y, vI n, vI t, vI v, vI p, vI mn, vI lt, vI rk, vI cc, vI w2_191, (v10), (v11)], [vI w2_191], aq_h m s F c_2)) rfl rfl ?_
        refine am_E.go (t2 := (224, [vR y, vI n, vI t, vI v, vI p, vI mn, vI lt, vI rk, vI cc, vI w2_191, (v10), (v11)], [vI mn, vI w2_191], aq_h m s F c_2)) rfl rfl ?_
        refine ae_icmp rfl (fun (q_3 : mn ≤ w2_191) => ?_) (fun (q_3 : w2_191 < mn) => ?_)
        · refine ae_iinc rfl rfl (am_ri (by omega) (by omega)) ?_
          show am_E _ (247, [vR y, vI n, vI t, vI v, vI p, vI mn, vI lt, vI rk, vI (cc + 1), vI w2_191, (v10), (v11)], [], aq_h m s F c_2) _
          refine am_E.go (t2 := (180, [vR y, vI n, vI t, vI v, vI p, vI mn, vI lt, vI rk, vI (cc + 1), vI w2_191, (v10), (v11)], [], aq_h m s F c_2)) rfl rfl ?_
          exact qm_free_r ⟨hm, hFo, hG5, hG6, hG7, hG8, hG9, hG10, hG11, hG12, hG13, hG14, hG15, hG16, hG17, hG18, hG19, hG20, hG21, hG22, hG23⟩ hI hn1 hn4 ht0 ht1 hp0 hp1 hP hmn0 hmn hl0 hl1 d rk (cc + 1) (vI w2_191) ((v10)) ((v11)) c_2 sc_2 (by omega) (by omega) (by omega) (by omega) hob2_191 hfr2_191 (by omega)
        · refine am_E.go (t2 := (228, [vR y, vI n, vI t, vI v, vI p, vI mn, vI lt, vI rk, vI cc, vI w2_191, (v10), (v11)], [vR y], aq_h m s F c_2)) rfl rfl ?_
          refine am_E.go (t2 := (230, [vR y, vI n, vI t, vI v, vI p, vI mn, vI lt, vI rk, vI cc, vI w2_191, (v10), (v11)], [vI mn, vR y], aq_h m s F c_2)) rfl rfl ?_
          refine am_E.go (t2 := (232, [vR y, vI n, vI t, vI v, vI p, vI mn, vI lt, vI rk, vI cc, vI w2_191, (v10), (v11)], [vI rk, vI mn, vR y], aq_h m s F c_2)) rfl rfl ?_
          refine am_E.go (t2 := (234, [vR y, vI n, vI t, vI v, vI p, vI mn, vI lt, vI rk, vI cc, vI w2_191, (v10), (v11)], [vI w2_191, vI rk, vI mn, vR y], aq_h m s F c_2)) rfl rfl ?_
          refine am_E.go (t2 := (236, [vR y, vI n, vI t, vI v, vI p, vI mn, vI lt, vI rk, vI cc, vI w2_191, (v10), (v11)], [vI cc, vI w2_191, vI rk, vI mn, vR y], aq_h m s F c_2)) rfl rfl ?_
          refine am_E.go (t2 := (238, [vR y, vI n, vI t, vI v, vI p, vI mn, vI lt, vI rk, vI cc, vI w2_191, (v10), (v11)], [vI p, vI cc, vI w2_191, vI rk, vI mn, vR y], aq_h m s F c_2)) rfl rfl ?_
          refine aq_callv (y := 6) (as2 := [vI mn, vI rk, vI w2_191, vI cc, vI p]) (rest := []) rfl rfl (by decide) (Nat.le_of_ble_eq_true rfl) rfl rfl (Nat.le_of_ble_eq_true rfl) (by omega) hFo rfl (Nat.le_of_ble_eq_true rfl) (qm_reduce ⟨hm, hFo, hG5, hG6, hG7, hG8, hG9, hG10, hG11, hG12, hG13, hG14, hG15, hG16, hG17, hG18, hG19, hG20, hG21, hG22, hG23⟩ (mn := mn) (rk := rk) (rw_ := w2_191) (cc := cc) (p := p) hp0 hp1 hmn (by omega) (by omega) (by omega) (by omega) (by omega) (by omega) hP hfr2_191 (by rcases f3_191 with h | h; exact absurd h (by omega); exact h)) ?_
          rintro r5 h5 ⟨c_r, rfl, s_r, rfl, fr_r⟩
          show am_E _ (241, [vR y, vI n, vI t, vI v, vI p, vI mn, vI lt, vI rk, vI cc, vI w2_191, (v10), (v11)], [], aq_h m s F c_r) _
          refine ae_iinc rfl rfl (am_ri (by omega) (by omega)) ?_
          show am_E _ (244, [vR y, vI n, vI t, vI v, vI p, vI mn, vI lt, vI (rk + 1), vI cc, vI w2_191, (v10), (v11)], [], aq_h m s F c_r) _
          refine ae_iinc rfl rfl (am_ri (by omega) (by omega)) ?_
          show am_E _ (247, [vR y, vI n, vI t, vI v, vI p, vI mn, vI lt, vI (rk + 1), vI (cc + 1), vI w2_191, (v10), (v11)], [], aq_h m s F c_r) _
          refine am_E.go (t2 := (180, [vR y, vI n, vI t, vI v, vI p, vI mn, vI lt, vI (rk + 1), vI (cc + 1), vI w2_191, (v10), (v11)], [], aq_h m s F c_r)) rfl rfl ?_
          exact qm_free_r ⟨hm, hFo, hG5, hG6, hG7, hG8, hG9, hG10, hG11, hG12, hG13, hG14, hG15, hG16, hG17, hG18, hG19, hG20, hG21, hG22, hG23⟩ hI hn1 hn4 ht0 ht1 hp0 hp1 hP hmn0 hmn hl0 hl1 d (rk + 1) (cc + 1) (vI w2_191) ((v10)) ((v11)) c_r (aq_smt sc_2 (aq_smi s_r (fun a h => by unfold mo_S; omega))) (by omega) (by omega) (by omega) (by omega) (mo_ks hob2_191 s_r (by omega)) fr_r (by omega)

theorem qm_free_e {m s : Nat} {F : aq_F} {c0 : aq_C} {y : Nat} (hO : mo_0 m F y) (hI : mo_I y c0) {n t v p mn lt : Int} (hn1 : 1 ≤ n) (hn4 : n ≤ 4) (ht0 : 0 ≤ t) (ht1 : t ≤ n) (hp0 : 2 ≤ p) (hp1 : p ≤ 997) (hP : nm_P p) (hmn0 : 0 ≤ mn) (hmn : mn ≤ 6) (hl0 : 0 ≤ lt) (hl1 : lt < p) : ∀ (d : Nat) (i : Int) (j : Int) (pw : Int) (e : Int) (k : Int) (c : aq_C) (hs : aq_sm (mo_S y) c0 c) (h0 : 0 ≤ e) (h1 : e < p) (h2 : 0 ≤ k) (h3 : k ≤ 4) (h4 : pw ≤ 4) (hob : mo_k y c0 c) (hff : ff_ y p mn i j c) (hd : max 0 (pw - k) < (d : Int)) (K0 : ∀ (e2 : Int) (k2 : Int) (c2 : aq_C) (hs2 : aq_sm (mo_S y) c0 c2) (f1 : 0 ≤ e2) (f2 : e2 < p) (hob2 : mo_k y c0 c2) (hff2 : ff_ y p mn i j c2), am_E ac_X5_free (147, [vR y, vI n, vI t, vI v, vI p, vI mn, vI lt, vI i, vI j, vI pw, vI e2, vI k2], [], aq_h m s F c2) (aq_Z m s F (fun a => y ≤ a ∧ a < y + 24) c0 (fun r d => aq_vi r ∧ mo_I y d))), am_E ac_X5_free (124, [vR y, vI n, vI t, vI v, vI p, vI mn, vI lt, vI i, vI j, vI pw, vI e, vI k], [], aq_h m s F c) (aq_Z m s F (fun a => y ≤ a ∧ a < y + 24) c0 (fun r d => aq_vi r ∧ mo_I y d))
  | 0, i, j, pw, e, k, c, hs, h0, h1, h2, h3, h4, hob, hff, hd, K0 => by exfalso; omega
  | d + 1, i, j, pw, e, k, c, hs, h0, h1, h2, h3, h4, hob, hff, hd, K0 => by
    obtain ⟨hm, hFo, hG5, hG6, hG7, hG8, hG9, hG10, hG11, hG12, hG13, hG14, hG15, hG16, hG17, hG18, hG19, hG20, hG21, hG22, hG23⟩ := hO
    refine am_E.go (t2 := (126, [vR y, vI n, vI t, vI v, vI p, vI mn, vI lt, vI i, vI j, vI pw, vI e, vI k], [vI k], aq_h m s F c)) rfl rfl ?_
    refine am_E.go (t2 := (128, [vR y, vI n, vI t, vI v, vI p, vI mn, vI lt, vI i, vI j, vI pw, vI e, vI k], [vI pw, vI k], aq_h m s F c)) rfl rfl ?_
    refine ae_icmp rfl (fun (q_1 : pw ≤ k) => ?_) (fun (q_1 : k < pw) => ?_)
    · exact K0 e k c hs (by omega) (by omega) hob hff
    · refine am_E.go (t2 := (133, [vR y, vI n, vI t, vI v, vI p, vI mn, vI lt, vI i, vI j, vI pw, vI e, vI k], [vI e], aq_h m s F c)) rfl rfl ?_
      refine am_E.go (t2 := (135, [vR y, vI n, vI t, vI v, vI p, vI mn, vI lt, vI i, vI j, vI pw, vI e, vI k], [vI lt, vI e], aq_h m s F c)) rfl rfl ?_
      have u_2 := nm_mul (a := e) (b := lt) (by omega) (by omega) (by omega) (by omega)
      refine ae_mul rfl (am_ri (by omega) (by omega)) ?_
      show am_E _ (136, [vR y, vI n, vI t, vI v, vI p, vI mn, vI lt, vI i, vI j, vI pw, vI e, vI k], [vI (e * lt)], aq_h m s F c) _
      refine am_E.go (t2 := (138, [vR y, vI n, vI t, vI v, vI p, vI mn, vI lt, vI i, vI j, vI pw, vI e, vI k], [vI p, vI (e * lt)], aq_h m s F c)) rfl rfl ?_
      have eu_3 := nm_em (a := (e * lt)) (p := p) (by omega)
      refine ae_bin (z := (e * lt) % p) rfl rfl (am_rem_e (by omega) (by omega)) ?_
      generalize (e * lt) % p = u_3 at eu_3 ⊢
      refine am_E.go (t2 := (141, [vR y, vI n, vI t, vI v, vI p, vI mn, vI lt, vI i, vI j, vI pw, vI u_3, vI k], [], aq_h m s F c)) rfl rfl ?_
      refine ae_iinc rfl rfl (am_ri (by omega) (by omega)) ?_
      show am_E _ (144, [vR y, vI n, vI t, vI v, vI p, vI mn, vI lt, vI i, vI j, vI pw, vI u_3, vI (k + 1)], [], aq_h m s F c) _
      refine am_E.go (t2 := (124, [vR y, vI n, vI t, vI v, vI p, vI mn, vI lt, vI i, vI j, vI pw, vI u_3, vI (k + 1)], [], aq_h m s F c)) rfl rfl ?_
      exact qm_free_e ⟨hm, hFo, hG5, hG6, hG7, hG8, hG9, hG10, hG11, hG12, hG13, hG14, hG15, hG16, hG17, hG18, hG19, hG20, hG21, hG22, hG23⟩ hI hn1 hn4 ht0 ht1 hp0 hp1 hP hmn0 hmn hl0 hl1 d i j pw u_3 (k + 1) c hs (by omega) (by omega) (by omega) (by omega) (by omega) hob hff (by omega) K0

theorem qm_free_j {m s : Nat} {F : aq_F} {c0 : aq_C} {y : Nat} (hO : mo_0 m F y) (hI : mo_I y c0) {n t v p mn lt : Int} (hn1 : 1 ≤ n) (hn4 : n ≤ 4) (ht0 : 0 ≤ t) (ht1 : t ≤ n) (hp0 : 2 ≤ p) (hp1 : p ≤ 997) (hP : nm_P p) (hmn0 : 0 ≤ mn) (hmn : mn ≤ 6) (hl0 : 0 ≤ lt) (hl1 : lt < p) : ∀ (d : Nat) (i : Int) (j : Int) (v9 : am_V) (v10 : am_V) (v11 : am_V) (c : aq_C) (hs : aq_sm (mo_S y) c0 c) (h0 : 0 ≤ j) (h1 : j ≤ mn) (h2 : 0 ≤ i) (h3 : i < mn) (hob : mo_k y c0 c) (hff : ff_ y p mn i j c) (hd : mn - j < (d : Int)) (K0 : ∀ (j2 : Int) (v92 : am_V) (v102 : am_V) (v112 : am_V) (c2 : aq_C) (hs2 : aq_sm (mo_S y) c0 c2) (hob2 : mo_k y c0 c2) (hff2 : ff_ y p mn (i + 1) 0 c2), am_E ac_X5_free (168, [vR y, vI n, vI t, vI v, vI p, vI mn, vI lt, vI i, vI j2, v92, v102, v112], [], aq_h m s F c2) (aq_Z m s F (fun a => y ≤ a ∧ a < y + 24) c0 (fun r d => aq_vi r ∧ mo_I y d))), am_E ac_X5_free (85, [vR y, vI n, vI t, vI v, vI p, vI mn, vI lt, vI i, vI j, v9, v10, v11], [], aq_h m s F c) (aq_Z m s F (fun a => y ≤ a ∧ a < y + 24) c0 (fun r d => aq_vi r ∧ mo_I y d))
  | 0, i, j, v9, v10, v11, c, hs, h0, h1, h2, h3, hob, hff, hd, K0 => by exfalso; omega
  | d + 1, i, j, v9, v10, v11, c, hs, h0, h1, h2, h3, hob, hff, hd, K0 => by
    obtain ⟨hm, hFo, hG5, hG6, hG7, hG8, hG9, hG10, hG11, hG12, hG13, hG14, hG15, hG16, hG17, hG18, hG19, hG20, hG21, hG22, hG23⟩ := hO
    refine am_E.go (t2 := (87, [vR y, vI n, vI t, vI v, vI p, vI mn, vI lt, vI i, vI j, v9, v10, v11], [vI j], aq_h m s F c)) rfl rfl ?_
    refine am_E.go (t2 := (89, [vR y, vI n, vI t, vI v, vI p, vI mn, vI lt, vI i, vI j, v9, v10, v11], [vI mn, vI j], aq_h m s F c)) rfl rfl ?_
    refine ae_icmp rfl (fun (q_1 : mn ≤ j) => ?_) (fun (q_1 : j < mn) => ?_)
    · exact K0 j (v9) (v10) (v11) c hs hob (fun a b a1 a2 a3 a4 => hff a b a1 a2 a3 (by omega))
    · refine am_E.go (t2 := (93, [vR y, vI n, vI t, vI v, vI p, vI mn, vI lt, vI i, vI j, v9, v10, v11], [vR y], aq_h m s F c)) rfl rfl ?_
      refine am_E.go (t2 := (94, [vR y, vI n, vI t, vI v, vI p, vI mn, vI lt, vI i, vI j, v9, v10, v11], [vI n, vR y], aq_h m s F c)) rfl rfl ?_
      refine am_E.go (t2 := (95, [vR y, vI n, vI t, vI v, vI p, vI mn, vI lt, vI i, vI j, v9, v10, v11], [vI t, vI n, vR y], aq_h m s F c)) rfl rfl ?_
      refine am_E.go (t2 := (97, [vR y, vI n, vI t, vI v, vI p, vI mn, vI lt, vI i, vI j, v9, v10, v11], [vI i, vI t, vI n, vR y], aq_h m s F c)) rfl rfl ?_
      refine am_E.go (t2 := (99, [vR y, vI n, vI t, vI v, vI p, vI mn, vI lt, vI i, vI j, v9, v10, v11], [vI j, vI i, vI t, vI n, vR y], aq_h m s F c)) rfl rfl ?_
      refine aq_callv (y := 5) (as2 := [vI n, vI t, vI i, vI j]) (rest := []) rfl rfl (by decide) (Nat.le_of_ble_eq_true rfl) rfl rfl (Nat.le_of_ble_eq_true rfl) (by omega) hFo rfl (Nat.le_of_ble_eq_true rfl) (qm_form ⟨hm, hFo, hG5, hG6, hG7, hG8, hG9, hG10, hG11, hG12, hG13, hG14, hG15, hG16, hG17, hG18, hG19, hG20, hG21, hG22, hG23⟩) ?_
      rintro r5 h5 ⟨c_q, rfl, s_q, k_q, e_q, v_q, rfl, hv1, hv2⟩
      show am_E _ (102, [vR y, vI n, vI t, vI v, vI p, vI mn, vI lt, vI i, vI j, v9, v10, v11], [vI v_q], aq_h m s F c_q) _
      refine am_E.go (t2 := (104, [vR y, vI n, vI t, vI v, vI p, vI mn, vI lt, vI i, vI j, vI v_q, v10, v11], [], aq_h m s F c_q)) rfl rfl ?_
      refine am_E.go (t2 := (106, [vR y, vI n, vI t, vI v, vI p, vI mn, vI lt, vI i, vI j, vI v_q, v10, v11], [vI v_q], aq_h m s F c_q)) rfl rfl ?_
      refine am_E.go (t2 := (108, [vR y, vI n, vI t, vI v, vI p, vI mn, vI lt, vI i, vI j, vI v_q, v10, v11], [vI (-4), vI v_q], aq_h m s F c_q)) rfl rfl ?_
      refine ae_icmp rfl (fun (q_2 : v_q ≠ (-4)) => ?_) (fun (q_2 : v_q = (-4)) => ?_)
      · refine am_E.go (t2 := (116, [vR y, vI n, vI t, vI v, vI p, vI mn, vI lt, vI i, vI j, vI v_q, v10, v11], [vI 1], aq_h m s F c_q)) rfl rfl ?_
        refine am_E.go (t2 := (118, [vR y, vI n, vI t, vI v, vI p, vI mn, vI lt, vI i, vI j, vI v_q, v10, v11], [vI p, vI 1], aq_h m s F c_q)) rfl rfl ?_
        have eu_3 := nm_em (a := (1 : Int)) (p := p) (by omega)
        refine ae_bin (z := (1 : Int) % p) rfl rfl (am_rem_e (by omega) (by omega)) ?_
        generalize (1 : Int) % p = u_3 at eu_3 ⊢
        refine am_E.go (t2 := (121, [vR y, vI n, vI t, vI v, vI p, vI mn, vI lt, vI i, vI j, vI v_q, vI u_3, v11], [], aq_h m s F c_q)) rfl rfl ?_
        refine am_E.go (t2 := (122, [vR y, vI n, vI t, vI v, vI p, vI mn, vI lt, vI i, vI j, vI v_q, vI u_3, v11], [vI 0], aq_h m s F c_q)) rfl rfl ?_
        refine am_E.go (t2 := (124, [vR y, vI n, vI t, vI v, vI p, vI mn, vI lt, vI i, vI j, vI v_q, vI u_3, vI 0], [], aq_h m s F c_q)) rfl rfl ?_
        refine qm_free_e ⟨hm, hFo, hG5, hG6, hG7, hG8, hG9, hG10, hG11, hG12, hG13, hG14, hG15, hG16, hG17, hG18, hG19, hG20, hG21, hG22, hG23⟩ hI hn1 hn4 ht0 ht1 hp0 hp1 hP hmn0 hmn hl0 hl1 6 i j v_q u_3 0 c_q (aq_smt hs s_q) (by omega) (by omega) (by omega) (by omega) (by omega) (mo_kt hob k_q) (ff_c hff e_q) (by omega) ?_
        · intro e2_124 k2_124 c_4 sc_4 f1_124 f2_124 hob2_124 hff2_124
          refine am_E.go (t2 := (148, [vR y, vI n, vI t, vI v, vI p, vI mn, vI lt, vI i, vI j, vI v_q, vI e2_124, vI k2_124], [vR y], aq_h m s F c_4)) rfl rfl ?_
          refine aq_gf (v := vR (y + 20)) rfl (by omega) hFo (by decide) rfl ?_
          show am_E _ (151, [vR y, vI n, vI t, vI v, vI p, vI mn, vI lt, vI i, vI j, vI v_q, vI e2_124, vI k2_124], [vR (y + 20)], aq_h m s F c_4) _
          refine am_E.go (t2 := (153, [vR y, vI n, vI t, vI v, vI p, vI mn, vI lt, vI i, vI j, vI v_q, vI e2_124, vI k2_124], [vI 6, vR (y + 20)], aq_h m s F c_4)) rfl rfl ?_
          refine am_E.go (t2 := (155, [vR y, vI n, vI t, vI v, vI p, vI mn, vI lt, vI i, vI j, vI v_q, vI e2_124, vI k2_124], [vI i, vI 6, vR (y + 20)], aq_h m s F c_4)) rfl rfl ?_
          refine ae_mul rfl (am_ri (by omega) (by omega)) ?_
          show am_E _ (156, [vR y, vI n, vI t, vI v, vI p, vI mn, vI lt, vI i, vI j, vI v_q, vI e2_124, vI k2_124], [vI (6 * i), vR (y + 20)], aq_h m s F c_4) _
          refine am_E.go (t2 := (158, [vR y, vI n, vI t, vI v, vI p, vI mn, vI lt, vI i, vI j, vI v_q, vI e2_124, vI k2_124], [vI j, vI (6 * i), vR (y + 20)], aq_h m s F c_4)) rfl rfl ?_
          refine ae_add rfl (am_ri (by omega) (by omega)) ?_
          show am_E _ (159, [vR y, vI n, vI t, vI v, vI p, vI mn, vI lt, vI i, vI j, vI v_q, vI e2_124, vI k2_124], [vI ((6 * i) + j), vR (y + 20)], aq_h m s F c_4) _
          refine am_E.go (t2 := (161, [vR y, vI n, vI t, vI v, vI p, vI mn, vI lt, vI i, vI j, vI v_q, vI e2_124, vI k2_124], [vI e2_124, vI ((6 * i) + j), vR (y + 20)], aq_h m s F c_4)) rfl rfl ?_
          refine aq_as (kd := 0) rfl rfl (by omega) hG20 (by omega) (by omega) rfl rfl ?_
          show am_E _ (162, [vR y, vI n, vI t, vI v, vI p, vI mn, vI lt, vI i, vI j, vI v_q, vI e2_124, vI k2_124], [], aq_h m s F (aq_u c_4 (y + 20) ((6 * i) + j) e2_124)) _
          generalize hdc_5 : aq_u c_4 (y + 20) ((6 * i) + j) e2_124 = c_5
          have sc_5 := aq_smu sc_4 hdc_5 (mo_Sk (by decide) (by decide))
          have hobc_5 := mo_ku hob2_124 hdc_5 (Or.inl (by omega))
          have hffc_5 := ff_u hff2_124 hdc_5 (by omega) (by omega) hmn (by omega) (by omega)
          refine ae_iinc rfl rfl (am_ri (by omega) (by omega)) ?_
          show am_E _ (165, [vR y, vI n, vI t, vI v, vI p, vI mn, vI lt, vI i, vI (j + 1), vI v_q, vI e2_124, vI k2_124], [], aq_h m s F c_5) _
          refine am_E.go (t2 := (85, [vR y, vI n, vI t, vI v, vI p, vI mn, vI lt, vI i, vI (j + 1), vI v_q, vI e2_124, vI k2_124], [], aq_h m s F c_5)) rfl rfl ?_
          exact qm_free_j ⟨hm, hFo, hG5, hG6, hG7, hG8, hG9, hG10, hG11, hG12, hG13, hG14, hG15, hG16, hG17, hG18, hG19, hG20, hG21, hG22, hG23⟩ hI hn1 hn4 ht0 ht1 hp0 hp1 hP hmn0 hmn hl0 hl1 d i (j + 1) (vI v_q) (vI e2_124) (vI k2_124) c_5 sc_5 (by omega) (by omega) (by omega) (by omega) hobc_5 hffc_5 (by omega) K0
      · refine am_E.go (t2 := (112, [vR y, vI n, vI t, vI v, vI p, vI mn, vI lt, vI i, vI j, vI v_q, v10, v11], [vI 0], aq_h m s F c_q)) rfl rfl ?_
        refine am_E.go (t2 := (119, [vR y, vI n, vI t, vI v, vI p, vI mn, vI lt, vI i, vI j, vI v_q, v10, v11], [vI 0], aq_h m s F c_q)) rfl rfl ?_
        refine am_E.go (t2 := (121, [vR y, vI n, vI t, vI v, vI p, vI mn, vI lt, vI i, vI j, vI v_q, vI 0, v11], [], aq_h m s F c_q)) rfl rfl ?_
        refine am_E.go (t2 := (122, [vR y, vI n, vI t, vI v, vI p, vI mn, vI lt, vI i, vI j, vI v_q, vI 0, v11], [vI 0], aq_h m s F c_q)) rfl rfl ?_
        refine am_E.go (t2 := (124, [vR y, vI n, vI t, vI v, vI p, vI mn, vI lt, vI i, vI j, vI v_q, vI 0, vI 0], [], aq_h m s F c_q)) rfl rfl ?_
        refine qm_free_e ⟨hm, hFo, hG5, hG6, hG7, hG8, hG9, hG10, hG11, hG12, hG13, hG14, hG15, hG16, hG17, hG18, hG19, hG20, hG21, hG22, hG23⟩ hI hn1 hn4 ht0 ht1 hp0 hp1 hP hmn0 hmn hl0 hl1 6 i j v_q 0 0 c_q (aq_smt hs s_q) (by omega) (by omega) (by omega) (by omega) (by omega) (mo_kt hob k_q) (ff_c hff e_q) (by omega) ?_
        · intro e2_124 k2_124 c_6 sc_6 f1_124 f2_124 hob2_124 hff2_124
          refine am_E.go (t2 := (148, [vR y, vI n, vI t, vI v, vI p, vI mn, vI lt, vI i, vI j, vI v_q, vI e2_124, vI k2_124], [vR y], aq_h m s F c_6)) rfl rfl ?_
          refine aq_gf (v := vR (y + 20)) rfl (by omega) hFo (by decide) rfl ?_
          show am_E _ (151, [vR y, vI n, vI t, vI v, vI p, vI mn, vI lt, vI i, vI j, vI v_q, vI e2_124, vI k2_124], [vR (y + 20)], aq_h m s F c_6) _
          refine am_E.go (t2 := (153, [vR y, vI n, vI t, vI v, vI p, vI mn, vI lt, vI i, vI j, vI v_q, vI e2_124, vI k2_124], [vI 6, vR (y + 20)], aq_h m s F c_6)) rfl rfl ?_
          refine am_E.go (t2 := (155, [vR y, vI n, vI t, vI v, vI p, vI mn, vI lt, vI i, vI j, vI v_q, vI e2_124, vI k2_124], [vI i, vI 6, vR (y + 20)], aq_h m s F c_6)) rfl rfl ?_
          refine ae_mul rfl (am_ri (by omega) (by omega)) ?_
          show am_E _ (156, [vR y, vI n, vI t, vI v, vI p, vI mn, vI lt, vI i, vI j, vI v_q, vI e2_124, vI k2_124], [vI (6 * i), vR (y + 20)], aq_h m s F c_6) _
          refine am_E.go (t2 := (158, [vR y, vI n, vI t, vI v, vI p, vI mn, vI lt, vI i, vI j, vI v_q, vI e2_124, vI k2_124], [vI j, vI (6 * i), vR (y + 20)], aq_h m s F c_6)) rfl rfl ?_
          refine ae_add rfl (am_ri (by omega) (by omega)) ?_
          show am_E _ (159, [vR y, vI n, vI t, vI v, vI p, vI mn, vI lt, vI i, vI j, vI v_q, vI e2_124, vI k2_124], [vI ((6 * i) + j), vR (y + 20)], aq_h m s F c_6) _
          refine am_E.go (t2 := (161, [vR y, vI n, vI t, vI v, vI p, vI mn, vI lt, vI i, vI j, vI v_q, vI e2_124, vI k2_124], [vI e2_124, vI ((6 * i) + j), vR (y + 20)], aq_h m s F c_6)) rfl rfl ?_
          refine aq_as (kd := 0) rfl rfl (by omega) hG20 (by omega) (by omega) rfl rfl ?_
          show am_E _ (162, [vR y, vI n, vI t, vI v, vI p, vI mn, vI lt, vI i, vI j, vI v_q, vI e2_124, vI k2_124], [], aq_h m s F (aq_u c_6 (y + 20) ((6 * i) + j) e2_124)) _
          generalize hdc_7 : aq_u c_6 (y + 20) ((6 * i) + j) e2_124 = c_7
          have sc_7 := aq_smu sc_6 hdc_7 (mo_Sk (by decide) (by decide))
          have hobc_7 := mo_ku hob2_124 hdc_7 (Or.inl (by omega))
          have hffc_7 := ff_u hff2_124 hdc_7 (by omega) (by omega) hmn (by omega) (by omega)
          refine ae_iinc rfl rfl (am_ri (by omega) (by omega)) ?_
          show am_E _ (165, [vR y, vI n, vI t, vI v, vI p, vI mn, vI lt, vI i, vI (j + 1), vI v_q, vI e2_124, vI k2_124], [], aq_h m s F c_7) _
          refine am_E.go (t2 := (85, [vR y, vI n, vI t, vI v, vI p, vI mn, vI lt, vI i, vI (j + 1), vI v_q, vI e2_124, vI k2_124], [], aq_h m s F c_7)) rfl rfl ?_
          exact qm_free_j ⟨hm, hFo, hG5, hG6, hG7, hG8, hG9, hG10, hG11, hG12, hG13, hG14, hG15, hG16, hG17, hG18, hG19, hG20, hG21, hG22, hG23⟩ hI hn1 hn4 ht0 ht1 hp0 hp1 hP hmn0 hmn hl0 hl1 d i (j + 1) (vI v_q) (vI e2_124) (vI k2_124) c_7 sc_7 (by omega) (by omega) (by omega) (by omega) hobc_7 hffc_7 (by omega) K0

theorem qm_free_i {m s : Nat} {F : aq_F} {c0 : aq_C} {y : Nat} (hO : mo_0 m F y) (hI : mo_I y c0) {n t v p mn lt : Int} (hn1 : 1 ≤ n) (hn4 : n ≤ 4) (ht0 : 0 ≤ t) (ht1 : t ≤ n) (hp0 : 2 ≤ p) (hp1 : p ≤ 997) (hP : nm_P p) (hmn0 : 0 ≤ mn) (hmn : mn ≤ 6) (hl0 : 0 ≤ lt) (hl1 : lt < p) : ∀ (d : Nat) (i : Int) (v8 : am_V) (v9 : am_V) (v10 : am_V) (v11 : am_V) (c : aq_C) (hs : aq_sm (mo_S y) c0 c) (h0 : 0 ≤ i) (h1 : i ≤ mn) (hob : mo_k y c0 c) (hff : ff_ y p mn i 0 c) (hd : mn - i < (d : Int)), am_E ac_X5_free (75, [vR y, vI n, vI t, vI v, vI p, vI mn, vI lt, vI i, v8, v9, v10, v11], [], aq_h m s F c) (aq_Z m s F (fun a => y ≤ a ∧ a < y + 24) c0 (fun r d => aq_vi r ∧ mo_I y d))
  | 0, i, v8, v9, v10, v11, c, hs, h0, h1, hob, hff, hd => by exfalso; omega
  | d + 1, i, v8, v9, v10, v11, c, hs, h0, h1, hob, hff, hd => by
    obtain ⟨hm, hFo, hG5, hG6, hG7, hG8, hG9, hG10, hG11, hG12, hG13, hG14, hG15, hG16, hG17, hG18, hG19, hG20, hG21, hG22, hG23⟩ := hO
    refine am_E.go (t2 := (77, [vR y, vI n, vI t, vI v, vI p, vI mn, vI lt, vI i, v8, v9, v10, v11], [vI i], aq_h m s F c)) rfl rfl ?_
    refine am_E.go (t2 := (79, [vR y, vI n, vI t, vI v, vI p, vI mn, vI lt, vI i, v8, v9, v10, v11], [vI mn, vI i], aq_h m s F c)) rfl rfl ?_
    refine ae_icmp rfl (fun (q_1 : mn ≤ i) => ?_) (fun (q_1 : i < mn) => ?_)
    · refine am_E.go (t2 := (175, [vR y, vI n, vI t, vI v, vI p, vI mn, vI lt, vI i, v8, v9, v10, v11], [vI 0], aq_h m s F c)) rfl rfl ?_
      refine am_E.go (t2 := (177, [vR y, vI n, vI t, vI v, vI p, vI mn, vI lt, vI 0, v8, v9, v10, v11], [], aq_h m s F c)) rfl rfl ?_
      refine am_E.go (t2 := (178, [vR y, vI n, vI t, vI v, vI p, vI mn, vI lt, vI 0, v8, v9, v10, v11], [vI 0], aq_h m s F c)) rfl rfl ?_
      refine am_E.go (t2 := (180, [vR y, vI n, vI t, vI v, vI p, vI mn, vI lt, vI 0, vI 0, v9, v10, v11], [], aq_h m s F c)) rfl rfl ?_
      exact qm_free_r ⟨hm, hFo, hG5, hG6, hG7, hG8, hG9, hG10, hG11, hG12, hG13, hG14, hG15, hG16, hG17, hG18, hG19, hG20, hG21, hG22, hG23⟩ hI hn1 hn4 ht0 ht1 hp0 hp1 hP hmn0 hmn hl0 hl1 8 0 0 (v9) (v10) (v11) c hs (by omega) (by omega) (by omega) (by omega) hob (fun a b a1 a2 a3 a4 => hff a b a1 a3 a4 (by omega)) (by omega)
    · refine am_E.go (t2 := (83, [vR y, vI n, vI t, vI v, vI p, vI mn, vI lt, vI i, v8, v9, v10, v11], [vI 0], aq_h m s F c)) rfl rfl ?_
      refine am_E.go (t2 := (85, [vR y, vI n, vI t, vI v, vI p, vI mn, vI lt, vI i, vI 0, v9, v10, v11], [], aq_h m s F c)) rfl rfl ?_
      refine qm_free_j ⟨hm, hFo, hG5, hG6, hG7, hG8, hG9, hG10, hG11, hG12, hG13, hG14, hG15, hG16, hG17, hG18, hG19, hG20, hG21, hG22, hG23⟩ hI hn1 hn4 ht0 ht1 hp0 hp1 hP hmn0 hmn hl0 hl1 8 i 0 (v9) (v10) (v11) c hs (by omega) (by omega) (by omega) (by omega) hob hff (by omega) ?_
      · intro j2_85 v92_85 v102_85 v112_85 c_2 sc_2 hob2_85 hff2_85
        refine ae_iinc rfl rfl (am_ri (by omega) (by omega)) ?_
        show am_E _ (171, [vR y, vI n, vI t, vI v, vI p, vI mn, vI lt, vI (i + 1), vI j2_85, v92_85, v102_85, v112_85], [], aq_h m s F c_2) _
        refine am_E.go (t2 := (75, [vR y, vI n, vI t, vI v, vI p, vI mn, vI lt, vI (i + 1), vI j2_85, v92_85, v102_85, v112_85], [], aq_h m s F c_2)) rfl rfl ?_
        exact qm_free_i ⟨hm, hFo, hG5, hG6, hG7, hG8, hG9, hG10, hG11, hG12, hG13, hG14, hG15, hG16, hG17, hG18, hG19, hG20, hG21, hG22, hG23⟩ hI hn1 hn4 ht0 ht1 hp0 hp1 hP hmn0 hmn hl0 hl1 d (i + 1) (vI j2_85) (v92_85) (v102_85) (v112_85) c_2 sc_2 (by omega) (by omega) hob2_85 hff2_85 (by omega)

theorem qm_X5_free {m s : Nat} {F : aq_F} {c : aq_C} {y : Nat} (hC : mo_C m F y) (hI : mo_I y c) {n t v p : Int} : am_E ac_X5_free (0, [vR y, vI n, vI t, vI v, vI p, vU, vU, vU, vU, vU, vU, vU], [], aq_h m s F c) (aq_Z m s F (fun a => y ≤ a ∧ a < y + 24) c (fun r d => aq_vi r ∧ mo_I y d)) := by
  obtain ⟨⟨hm, hFo, hG5, hG6, hG7, hG8, hG9, hG10, hG11, hG12, hG13, hG14, hG15, hG16, hG17, hG18, hG19, hG20, hG21, hG22, hG23⟩, ⟨tbl, hT1, hTt⟩, ⟨tA, tB, tD, hL1, hL2, hL3, hLt⟩⟩ := hC
  refine am_E.go (t2 := (1, [vR y, vI n, vI t, vI v, vI p, vU, vU, vU, vU, vU, vU, vU], [vI n], aq_h m s F c)) rfl rfl ?_
  refine am_E.go (t2 := (2, [vR y, vI n, vI t, vI v, vI p, vU, vU, vU, vU, vU, vU, vU], [vI t, vI n], aq_h m s F c)) rfl rfl ?_
  refine am_E.call rfl rfl rfl (Nat.le_of_ble_eq_true rfl) (qm_areHalves) ?_
  rintro r5 h5 ⟨rfl, v_1, rfl, hv_1⟩
  show am_E _ (5, [vR y, vI n, vI t, vI v, vI p, vU, vU, vU, vU, vU, vU, vU], [vI v_1], aq_h m s F c) _
  refine ae_if0 rfl (fun (q_2 : v_1 = 0) => ?_) (fun (q_2 : v_1 ≠ 0) => ?_)
  · refine am_E.go (t2 := (46, [vR y, vI n, vI t, vI v, vI p, vU, vU, vU, vU, vU, vU, vU], [vI (-1)], aq_h m s F c)) rfl rfl ?_
    refine am_E.ret rfl rfl ?_
    exact ⟨_, rfl, aq_smi (aq_sm0 (c := c) (S := mo_S y)) (fun a h => mo_Sa h), ⟨_, rfl⟩, mo_Ik hI (aq_sm0 (c := c) (S := mo_S y)) (mo_k0 (y := y) (c := c))⟩
  · refine am_E.go (t2 := (9, [vR y, vI n, vI t, vI v, vI p, vU, vU, vU, vU, vU, vU, vU], [vI v], aq_h m s F c)) rfl rfl ?_
    refine am_E.go (t2 := (10, [vR y, vI n, vI t, vI v, vI p, vU, vU, vU, vU, vU, vU, vU], [vL v], aq_h m s F c)) rfl rfl ?_
    refine am_E.go (t2 := (13, [vR y, vI n, vI t, vI v, vI p, vU, vU, vU, vU, vU, vU, vU], [vL (-1000), vL v], aq_h m s F c)) rfl rfl ?_
    refine am_E.go (t2 := (16, [vR y, vI n, vI t, vI v, vI p, vU, vU, vU, vU, vU, vU, vU], [vL 1000, vL (-1000), vL v], aq_h m s F c)) rfl rfl ?_
    refine am_E.call rfl rfl rfl (Nat.le_of_ble_eq_true rfl) (qm_in) ?_
    rintro r5 h5 ⟨rfl, v_3, rfl, hv_3⟩
    show am_E _ (19, [vR y, vI n, vI t, vI v, vI p, vU, vU, vU, vU, vU, vU, vU], [vI v_3], aq_h m s F c) _
    refine ae_if0 rfl (fun (q_4 : v_3 = 0) => ?_) (fun (q_4 : v_3 ≠ 0) => ?_)
    · refine am_E.go (t2 := (46, [vR y, vI n, vI t, vI v, vI p, vU, vU, vU, vU, vU, vU, vU], [vI (-1)], aq_h m s F c)) rfl rfl ?_
      refine am_E.ret rfl rfl ?_
      exact ⟨_, rfl, aq_smi (aq_sm0 (c := c) (S := mo_S y)) (fun a h => mo_Sa h), ⟨_, rfl⟩, mo_Ik hI (aq_sm0 (c := c) (S := mo_S y)) (mo_k0 (y := y) (c := c))⟩
    · refine am_E.go (t2 := (24, [vR y, vI n, vI t, vI v, vI p, vU, vU, vU, vU, vU, vU, vU], [vI p], aq_h m s F c)) rfl rfl ?_
      refine am_E.go (t2 := (25, [vR y, vI n, vI t, vI v, vI p, vU, vU, vU, vU, vU, vU, vU], [vL p], aq_h m s F c)) rfl rfl ?_
      refine am_E.go (t2 := (28, [vR y, vI n, vI t, vI v, vI p, vU, vU, vU, vU, vU, vU, vU], [vL 2, vL p], aq_h m s F c)) rfl rfl ?_
      refine am_E.go (t2 := (31, [vR y, vI n, vI t, vI v, vI p, vU, vU, vU, vU, vU, vU, vU], [vL 997, vL 2, vL p], aq_h m s F c)) rfl rfl ?_
      refine am_E.call rfl rfl rfl (Nat.le_of_ble_eq_true rfl) (qm_in) ?_
      rintro r5 h5 ⟨rfl, v_5, rfl, hv_5⟩
      show am_E _ (34, [vR y, vI n, vI t, vI v, vI p, vU, vU, vU, vU, vU, vU, vU], [vI v_5], aq_h m s F c) _
      refine ae_if0 rfl (fun (q_6 : v_5 = 0) => ?_) (fun (q_6 : v_5 ≠ 0) => ?_)
      · refine am_E.go (t2 := (46, [vR y, vI n, vI t, vI v, vI p, vU, vU, vU, vU, vU, vU, vU], [vI (-1)], aq_h m s F c)) rfl rfl ?_
        refine am_E.ret rfl rfl ?_
        exact ⟨_, rfl, aq_smi (aq_sm0 (c := c) (S := mo_S y)) (fun a h => mo_Sa h), ⟨_, rfl⟩, mo_Ik hI (aq_sm0 (c := c) (S := mo_S y)) (mo_k0 (y := y) (c := c))⟩
      · refine am_E.go (t2 := (39, [vR y, vI n, vI t, vI v, vI p, vU, vU, vU, vU, vU, vU, vU], [vI p], aq_h m s F c)) rfl rfl ?_
        refine am_E.call rfl rfl rfl (Nat.le_of_ble_eq_true rfl) (qm_isPrime (by omega) (by omega)) ?_
        rintro r5 h5 ⟨rfl, v_p, rfl, hv_p⟩
        show am_E _ (42, [vR y, vI n, vI t, vI v, vI p, vU, vU, vU, vU, vU, vU, vU], [vI v_p], aq_h m s F c) _
        refine ae_if0 rfl (fun (q_7 : v_p ≠ 0) => ?_) (fun (q_7 : v_p = 0) => ?_)
        · refine am_E.go (t2 := (48, [vR y, vI n, vI t, vI v, vI p, vU, vU, vU, vU, vU, vU, vU], [vR y], aq_h m s F c)) rfl rfl ?_
          refine am_E.go (t2 := (49, [vR y, vI n, vI t, vI v, vI p, vU, vU, vU, vU, vU, vU, vU], [vI n, vR y], aq_h m s F c)) rfl rfl ?_
          refine am_E.go (t2 := (50, [vR y, vI n, vI t, vI v, vI p, vU, vU, vU, vU, vU, vU, vU], [vI t, vI n, vR y], aq_h m s F c)) rfl rfl ?_
          refine am_E.go (t2 := (51, [vR y, vI n, vI t, vI v, vI p, vU, vU, vU, vU, vU, vU, vU], [vI (-1), vI t, vI n, vR y], aq_h m s F c)) rfl rfl ?_
          refine am_E.go (t2 := (52, [vR y, vI n, vI t, vI v, vI p, vU, vU, vU, vU, vU, vU, vU], [vR y, vI (-1), vI t, vI n, vR y], aq_h m s F c)) rfl rfl ?_
          refine aq_gf (v := vR (y + 18)) rfl (by omega) hFo (by decide) rfl ?_
          show am_E _ (55, [vR y, vI n, vI t, vI v, vI p, vU, vU, vU, vU, vU, vU, vU], [vR (y + 18), vI (-1), vI t, vI n, vR y], aq_h m s F c) _
          refine aq_callv (y := 5) (as2 := [vI n, vI t, vI (-1), vR (y + 18)]) (rest := []) rfl rfl (by decide) (Nat.le_of_ble_eq_true rfl) rfl rfl (Nat.le_of_ble_eq_true rfl) (by omega) hFo rfl (Nat.le_of_ble_eq_true rfl) (qm_lay (y := y) (a := y + 18) (by omega) hFo (by omega) hG18 (n := n) (t := t) (by omega) (by omega) (by omega) (by omega) (Or.inl rfl)) ?_
          rintro r5 h5 ⟨c_8, rfl, sc_8, vc_8, rfl, hmc_8, hdc_8⟩
          show am_E _ (58, [vR y, vI n, vI t, vI v, vI p, vU, vU, vU, vU, vU, vU, vU], [vI vc_8], aq_h m s F c_8) _
          have hm5 := hmc_8 rfl
          have hNb := hv_Nb n t
          have hPp : nm_P p := by rcases hv_p with h | h; exact absurd h (by omega); exact h.2
          refine am_E.go (t2 := (60, [vR y, vI n, vI t, vI v, vI p, vI vc_8, vU, vU, vU, vU, vU, vU], [], aq_h m s F c_8)) rfl rfl ?_
          refine am_E.go (t2 := (61, [vR y, vI n, vI t, vI v, vI p, vI vc_8, vU, vU, vU, vU, vU, vU], [vI v], aq_h m s F c_8)) rfl rfl ?_
          refine am_E.go (t2 := (63, [vR y, vI n, vI t, vI v, vI p, vI vc_8, vU, vU, vU, vU, vU, vU], [vI p, vI v], aq_h m s F c_8)) rfl rfl ?_
          have e_tm := nm_tm (v := v) (p := p) (by omega)
          refine ae_bin (z := v.tmod p) rfl rfl (am_rem_s (by omega)) ?_
          generalize v.tmod p = vt at e_tm ⊢
          refine am_E.go (t2 := (66, [vR y, vI n, vI t, vI v, vI p, vI vc_8, vU, vU, vU, vU, vU, vU], [vI p, vI vt], aq_h m s F c_8)) rfl rfl ?_
          refine ae_add rfl (am_ri (by omega) (by omega)) ?_
          show am_E _ (67, [vR y, vI n, vI t, vI v, vI p, vI vc_8, vU, vU, vU, vU, vU, vU], [vI (vt + p)], aq_h m s F c_8) _
          refine am_E.go (t2 := (69, [vR y, vI n, vI t, vI v, vI p, vI vc_8, vU, vU, vU, vU, vU, vU], [vI p, vI (vt + p)], aq_h m s F c_8)) rfl rfl ?_
          have eu_9 := nm_em (a := (vt + p)) (p := p) (by omega)
          refine ae_bin (z := (vt + p) % p) rfl rfl (am_rem_e (by omega) (by omega)) ?_
          generalize (vt + p) % p = u_9 at eu_9 ⊢
          refine am_E.go (t2 := (72, [vR y, vI n, vI t, vI v, vI p, vI vc_8, vI u_9, vU, vU, vU, vU, vU], [], aq_h m s F c_8)) rfl rfl ?_
          refine am_E.go (t2 := (73, [vR y, vI n, vI t, vI v, vI p, vI vc_8, vI u_9, vU, vU, vU, vU, vU], [vI 0], aq_h m s F c_8)) rfl rfl ?_
          refine am_E.go (t2 := (75, [vR y, vI n, vI t, vI v, vI p, vI vc_8, vI u_9, vI 0, vU, vU, vU, vU], [], aq_h m s F c_8)) rfl rfl ?_
          exact qm_free_i ⟨hm, hFo, hG5, hG6, hG7, hG8, hG9, hG10, hG11, hG12, hG13, hG14, hG15, hG16, hG17, hG18, hG19, hG20, hG21, hG22, hG23⟩ hI (by omega) (by omega) (by omega) (by omega) (by omega) (by omega) hPp (by omega) (by omega) (by omega) (by omega) 8 0 (vU) (vU) (vU) (vU) c_8 (aq_smt (aq_sm0 (c := c) (S := mo_S y)) (aq_smi sc_8 (fun a h => by unfold mo_S; omega))) (by omega) (by omega) (mo_ks (mo_k0 (y := y) (c := c)) sc_8 (by omega)) (fun a b a1 a2 a3 a4 => absurd a4 (by omega)) (by omega)
        · refine am_E.go (t2 := (46, [vR y, vI n, vI t, vI v, vI p, vU, vU, vU, vU, vU, vU, vU], [vI (-1)], aq_h m s F c)) rfl rfl ?_
          refine am_E.ret rfl rfl ?_
          exact ⟨_, rfl, aq_smi (aq_sm0 (c := c) (S := mo_S y)) (fun a h => mo_Sa h), ⟨_, rfl⟩, mo_Ik hI (aq_sm0 (c := c) (S := mo_S y)) (mo_k0 (y := y) (c := c))⟩
