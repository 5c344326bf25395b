
theorem mx_sy (T : Int → Int → Int) (N a b i j : Int) : mx_s T N a b i j = mx_s T N b a i j := by
  unfold mx_s
  by_cases e : 0 ≤ j ∧ j < N
  · rw [if_pos e, if_pos e]
    by_cases ea : i = a
    · by_cases eb : i = b
      · rw [if_pos ea, if_pos eb, ← ea, ← eb]
      · rw [if_pos ea, if_neg eb, if_pos ea]
    · by_cases eb : i = b
      · rw [if_neg ea, if_pos eb, if_pos eb]
      · rw [if_neg ea, if_neg eb, if_neg eb, if_neg ea]
  · rw [if_neg e, if_neg e]
theorem mx_sk {T : Int → Int → Int} {N a b c : Int} (h : 0 ≤ c ∧ c < N) : mx_s T N a b b c = T a c := by
  unfold mx_s
  rw [if_pos h]
  by_cases z : b = a
  · rw [if_pos z, z]
  · rw [if_neg z, if_pos rfl]
theorem mx_rr {N p i q w : Int} {f : Int → Int → Int} (hp : 0 < p) (h : ∀ a b, 0 ≤ a → a < N → 0 ≤ b → b < N → 0 ≤ f a b ∧ f a b < p) : ∀ a b, 0 ≤ a → a < N → 0 ≤ b → b < N → 0 ≤ mx_r f N p i q w a b ∧ mx_r f N p i q w a b < p := by
  intro a b a0 a1 b0 b1
  unfold mx_r
  split
  · exact nm_em hp
  · exact h a b a0 a1 b0 b1
theorem iv_b {v p : Int} (hv0 : 1 ≤ v) (hvp : v < p) (hp : p ≤ 997) (hP : nm_P p) : 1 ≤ iv_ v p 1000 1 ∧ iv_ v p 1000 1 < p := by
  obtain ⟨w0, a, b, h⟩ := nm_inv hv0 hvp hP
  have k := iv_e a h 1000 1 (by omega) a (by omega)
  exact ⟨k.2.1, by omega⟩
theorem sw_e {c : aq_C} {k : Nat} {A : Int → Int → Int} {mn rk rw_ q : Int} (hV : ∀ a b : Int, 0 ≤ a → a < mn → 0 ≤ b → b < mn → c k (6 * a + b) = if b < q then (if a = rk then A rw_ b else if a = rw_ then A rk b else A a b) else A a b) (hq : q = mn) : ∀ a b : Int, 0 ≤ a → a < mn → 0 ≤ b → b < mn → c k (6 * a + b) = mx_s A mn rw_ rk a b := by
  intro a b a0 a1 b0 b1
  rw [hV a b a0 a1 b0 b1, mx_sy]
  unfold mx_s
  rw [if_pos (show b < q by omega), if_pos (show 0 ≤ b ∧ b < mn from ⟨b0, b1⟩)]

theorem qx_isPrime5_l {m s : Nat} {F : aq_F} {c : aq_C} {p : Int} (hp0 : 2 ≤ p) (hp1 : p ≤ 997) {R : Int} : ∀ (d : Nat) (is : Int) (d5 : Int) (h0 : 2 ≤ d5) (h1 : d5 ≤ 32) (hi : (is = 0 ∧ R = 0) ∨ (is = 1 ∧ ip_ p d d5 = R)) (hd : 32 - d5 < (d : Int)), am_E ac_X5_isPrime (13, [vI p, vI is, vI d5], [], aq_h m s F c) (aq_P m s F c (fun r => r = some (vI R)))
  | 0, is, d5, h0, h1, hi, hd => by exfalso; omega
  | d + 1, is, d5, h0, h1, hi, hd => by
    have e1 : d5 = 32 → d5 * d5 = 1024 := by intro h; rw [h]; rfl
    have e2 := am_sq h0 h1
    refine am_E.go (t2 := (14, [vI p, vI is, vI d5], [vI d5], aq_h m s F c)) rfl rfl ?_
    refine am_E.go (t2 := (15, [vI p, vI is, vI d5], [vI d5, vI d5], aq_h m s F c)) rfl rfl ?_
    refine ae_mul rfl (am_ri (by omega) (by omega)) ?_
    show am_E _ (16, [vI p, vI is, vI d5], [vI (d5 * d5)], aq_h m s F c) _
    refine am_E.go (t2 := (17, [vI p, vI is, vI d5], [vI p, vI (d5 * d5)], aq_h m s F c)) rfl rfl ?_
    refine ae_icmp rfl (fun (q_1 : p < (d5 * d5)) => ?_) (fun (q_1 : (d5 * d5) ≤ p) => ?_)
    · refine am_E.go (t2 := (43, [vI p, vI is, vI d5], [vI is], aq_h m s F c)) rfl rfl ?_
      refine ae_retb rfl (by omega) ?_
      refine ⟨rfl, ?_⟩
      rcases hi with ⟨h, h9⟩ | ⟨h, h9⟩
      · rw [h, h9]
      · first | (exfalso; omega) | (rw [ip_, if_neg (show ¬ d5 * d5 ≤ p by omega)] at h9; rw [h, ← h9])
    · refine am_E.go (t2 := (21, [vI p, vI is, vI d5], [vI is], aq_h m s F c)) rfl rfl ?_
      refine ae_if0 rfl (fun (q_2 : is = 0) => ?_) (fun (q_2 : is ≠ 0) => ?_)
      · refine am_E.go (t2 := (43, [vI p, vI is, vI d5], [vI is], aq_h m s F c)) rfl rfl ?_
        refine ae_retb rfl (by omega) ?_
        refine ⟨rfl, ?_⟩
        rcases hi with ⟨h, h9⟩ | ⟨h, h9⟩
        · rw [h, h9]
        · first | (exfalso; omega) | (rw [ip_, if_neg (show ¬ d5 * d5 ≤ p by omega)] at h9; rw [h, ← h9])
      · refine am_E.go (t2 := (25, [vI p, vI is, vI d5], [vI p], aq_h m s F c)) rfl rfl ?_
        refine am_E.go (t2 := (26, [vI p, vI is, vI d5], [vI d5, vI p], aq_h m s F c)) rfl rfl ?_
        refine ae_bin (z := p % d5) rfl rfl (am_rem_e (by omega) (by omega)) ?_
        show am_E _ (27, [vI p, vI is, vI d5], [vI (p % d5)], aq_h m s F c) _
        refine ae_if0 rfl (fun (q_3 : (p % d5) = 0) => ?_) (fun (q_3 : (p % d5) ≠ 0) => ?_)
        · refine am_E.go (t2 := (35, [vI p, vI is, vI d5], [vI 0], aq_h m s F c)) rfl rfl ?_
          refine am_E.go (t2 := (36, [vI p, vI 0, vI d5], [], aq_h m s F c)) rfl rfl ?_
          refine ae_iinc rfl rfl (am_ri (by omega) (by omega)) ?_
          show am_E _ (39, [vI p, vI 0, vI (d5 + 1)], [], aq_h m s F c) _
          refine am_E.go (t2 := (13, [vI p, vI 0, vI (d5 + 1)], [], aq_h m s F c)) rfl rfl ?_
          exact qx_isPrime5_l hp0 hp1 d 0 (d5 + 1) (by omega) (by omega) (by rcases hi with ⟨h, _⟩ | ⟨_, h⟩; exact absurd h (by omega); rw [ip_, if_pos (show d5 * d5 ≤ p by omega), if_pos (show p % d5 = 0 by omega)] at h; exact Or.inl ⟨rfl, h.symm⟩) (by omega)
        · refine am_E.go (t2 := (31, [vI p, vI is, vI d5], [vI 1], aq_h m s F c)) rfl rfl ?_
          refine am_E.go (t2 := (35, [vI p, vI is, vI d5], [vI 1], aq_h m s F c)) rfl rfl ?_
          refine am_E.go (t2 := (36, [vI p, vI 1, vI d5], [], aq_h m s F c)) rfl rfl ?_
          refine ae_iinc rfl rfl (am_ri (by omega) (by omega)) ?_
          show am_E _ (39, [vI p, vI 1, vI (d5 + 1)], [], aq_h m s F c) _
          refine am_E.go (t2 := (13, [vI p, vI 1, vI (d5 + 1)], [], aq_h m s F c)) rfl rfl ?_
          exact qx_isPrime5_l hp0 hp1 d 1 (d5 + 1) (by omega) (by omega) (by rcases hi with ⟨h, _⟩ | ⟨_, h⟩; exact absurd h (by omega); rw [ip_, if_pos (show d5 * d5 ≤ p by omega), if_neg (show ¬ p % d5 = 0 by omega)] at h; exact Or.inr ⟨rfl, h⟩) (by omega)

theorem qx_isPrime5 {m s : Nat} {F : aq_F} {c : aq_C} {p : Int} (hp0 : 2 ≤ p) (hp1 : p ≤ 997) : am_E ac_X5_isPrime (0, [vI p, vU, vU], [], aq_h m s F c) (aq_P m s F c (fun r => r = some (vI (ip_ p 32 2)))) := by
  refine am_E.go (t2 := (1, [vI p, vU, vU], [vI p], aq_h m s F c)) rfl rfl ?_
  refine am_E.go (t2 := (2, [vI p, vU, vU], [vI 1, vI p], aq_h m s F c)) rfl rfl ?_
  refine ae_icmp rfl (fun (q_1 : p ≤ 1) => ?_) (fun (q_1 : 1 < p) => ?_)
  · refine am_E.go (t2 := (10, [vI p, vU, vU], [vI 0], aq_h m s F c)) rfl rfl ?_
    refine am_E.go (t2 := (11, [vI p, vI 0, vU], [], aq_h m s F c)) rfl rfl ?_
    refine am_E.go (t2 := (12, [vI p, vI 0, vU], [vI 2], aq_h m s F c)) rfl rfl ?_
    refine am_E.go (t2 := (13, [vI p, vI 0, vI 2], [], aq_h m s F c)) rfl rfl ?_
    exact qx_isPrime5_l hp0 hp1 32 0 2 (by omega) (by omega) (by exfalso; omega) (by omega)
  · refine am_E.go (t2 := (6, [vI p, vU, vU], [vI 1], aq_h m s F c)) rfl rfl ?_
    refine am_E.go (t2 := (10, [vI p, vU, vU], [vI 1], aq_h m s F c)) rfl rfl ?_
    refine am_E.go (t2 := (11, [vI p, vI 1, vU], [], aq_h m s F c)) rfl rfl ?_
    refine am_E.go (t2 := (12, [vI p, vI 1, vU], [vI 2], aq_h m s F c)) rfl rfl ?_
    refine am_E.go (t2 := (13, [vI p, vI 1, vI 2], [], aq_h m s F c)) rfl rfl ?_
    exact qx_isPrime5_l hp0 hp1 32 1 2 (by omega) (by omega) (Or.inr ⟨rfl, rfl⟩) (by omega)

theorem qx_inverse_l {m s : Nat} {F : aq_F} {c : aq_C} {v p w0 : Int} (hv0 : 1 ≤ v) (hvp : v < p) (hp : p ≤ 997) (hw0 : 1 ≤ w0) (hw1 : w0 < p) (hw : (v * w0) % p = 1) {R : Int} : ∀ (d : Nat) (w : Int) (h0 : 1 ≤ w) (h1 : w ≤ w0) (hT : iv_ v p d w = R) (hd : w0 - w < (d : Int)), am_E ac_X5_inverse (2, [vI v, vI p, vI w], [], aq_h m s F c) (aq_P m s F c (fun r => r = some (vI R)))
  | 0, w, h0, h1, hT, hd => by exfalso; omega
  | d + 1, w, h0, h1, hT, hd => by
    have e2 := nm_mul (a := v) (b := w) (by omega) (by omega) (by omega) (by omega)
    refine am_E.go (t2 := (3, [vI v, vI p, vI w], [vI v], aq_h m s F c)) rfl rfl ?_
    refine am_E.go (t2 := (4, [vI v, vI p, vI w], [vI w, vI v], aq_h m s F c)) rfl rfl ?_
    refine ae_mul rfl (am_ri (by omega) (by omega)) ?_
    show am_E _ (5, [vI v, vI p, vI w], [vI (v * w)], aq_h m s F c) _
    refine am_E.go (t2 := (6, [vI v, vI p, vI w], [vI p, vI (v * w)], aq_h m s F c)) rfl rfl ?_
    refine ae_bin (z := (v * w) % p) rfl rfl (am_rem_e (by omega) (by omega)) ?_
    show am_E _ (7, [vI v, vI p, vI w], [vI ((v * w) % p)], aq_h m s F c) _
    refine am_E.go (t2 := (8, [vI v, vI p, vI w], [vI 1, vI ((v * w) % p)], aq_h m s F c)) rfl rfl ?_
    refine ae_icmp rfl (fun (q_1 : ((v * w) % p) = 1) => ?_) (fun (q_1 : ((v * w) % p) ≠ 1) => ?_)
    · refine am_E.go (t2 := (18, [vI v, vI p, vI w], [vI w], aq_h m s F c)) rfl rfl ?_
      refine am_E.ret rfl rfl ?_
      refine ⟨rfl, ?_⟩
      rw [← hT, iv_, if_pos (show v * w % p = 1 by omega)]
    · refine ae_iinc rfl rfl (am_ri (by omega) (by omega)) ?_
      show am_E _ (14, [vI v, vI p, vI (w + 1)], [], aq_h m s F c) _
      refine am_E.go (t2 := (2, [vI v, vI p, vI (w + 1)], [], aq_h m s F c)) rfl rfl ?_
      exact qx_inverse_l hv0 hvp hp hw0 hw1 hw d (w + 1) (by omega) (by by_cases e : w = w0; (subst e; exfalso; omega); omega) (by rw [← hT, iv_, if_neg (show ¬ v * w % p = 1 by omega)]) (by omega)

theorem qx_inverse {m s : Nat} {F : aq_F} {c : aq_C} {v p : Int} (hv0 : 1 ≤ v) (hvp : v < p) (hp : p ≤ 997) (hP : nm_P p) : am_E ac_X5_inverse (0, [vI v, vI p, vU], [], aq_h m s F c) (aq_P m s F c (fun r => r = some (vI (iv_ v p 1000 1)))) := by
  obtain ⟨w0, hw0, hw1, hw⟩ := nm_inv hv0 hvp hP
  refine am_E.go (t2 := (1, [vI v, vI p, vU], [vI 1], aq_h m s F c)) rfl rfl ?_
  refine am_E.go (t2 := (2, [vI v, vI p, vI 1], [], aq_h m s F c)) rfl rfl ?_
  exact qx_inverse_l hv0 hvp hp hw0 hw1 hw 1000 1 (by omega) (by omega) rfl (by omega)

theorem qx_reduce_i {m s : Nat} {F : aq_F} {c0 : aq_C} {y : Nat} (hO : mo_0 m F y) {mn rk rw_ cc p : Int} (hp0 : 2 ≤ p) (hp1 : p ≤ 997) (hmn : mn ≤ 6) (hk0 : 0 ≤ rk) (hk1 : rk < mn) (hw0 : 0 ≤ rw_) (hw1 : rw_ < mn) (hc0 : 0 ≤ cc) (hc1 : cc < mn) {by_ i tm : Int} {B : Int → Int → Int} (hi0 : rk < i) (hi1 : i < mn) (ht0 : 0 ≤ tm) (ht1 : tm < p) (hBr : ∀ b, 0 ≤ b → b < mn → (0 ≤ B i b ∧ B i b < p) ∧ 0 ≤ B rk b ∧ B rk b < p) {Z : Option am_V → am_H → Prop} : ∀ (d : Nat) (j : Int) (c : aq_C) (hs : aq_sm (fun a => a = y + 20) c0 c) (h0 : 0 ≤ j) (h1 : j ≤ mn) (hV : ∀ a b : Int, 0 ≤ a → a < mn → 0 ≤ b → b < mn → c (y + 20) (6 * a + b) = if a = i ∧ b < j then (B i b + (p - tm) * B rk b) % p else B a b) (hd : mn - j < (d : Int)) (K0 : ∀ (j2 : Int) (c2 : aq_C) (hs2 : aq_sm (fun a => a = y + 20) c0 c2) (hV2 : ∀ a b : Int, 0 ≤ a → a < mn → 0 ≤ b → b < mn → c2 (y + 20) (6 * a + b) = if a = i ∧ b < mn then (B i b + (p - tm) * B rk b) % p else B a b), am_E ac_X5_reduce (181, [vR y, vI mn, vI rk, vI rw_, vI cc, vI p, vI by_, vI i, vI tm, vI j2], [], aq_h m s F c2) Z), am_E ac_X5_reduce (121, [vR y, vI mn, vI rk, vI rw_, vI cc, vI p, vI by_, vI i, vI tm, vI j], [], aq_h m s F c) Z
  | 0, j, c, hs, h0, h1, hV, hd, K0 => by exfalso; omega
  | d + 1, j, c, hs, h0, h1, hV, hd, K0 => by
    obtain ⟨hm, hFo, hG5, hG6, hG7, hG8, hG9, hG10, hG11, hG12, hG13, hG14, hG15, hG16, hG17, hG18, hG19, hG20, hG21, hG22, hG23⟩ := hO
    refine am_E.go (t2 := (123, [vR y, vI mn, vI rk, vI rw_, vI cc, vI p, vI by_, vI i, vI tm, vI j], [vI j], aq_h m s F c)) rfl rfl ?_
    refine am_E.go (t2 := (124, [vR y, vI mn, vI rk, vI rw_, vI cc, vI p, vI by_, vI i, vI tm, vI j], [vI mn, vI j], aq_h m s F c)) rfl rfl ?_
    refine ae_icmp rfl (fun (q_1 : mn ≤ j) => ?_) (fun (q_1 : j < mn) => ?_)
    · exact K0 j c hs (fun a b a0 a1 b0 b1 => by rw [hV a b a0 a1 b0 b1, show j = mn by omega])
    · refine am_E.go (t2 := (128, [vR y, vI mn, vI rk, vI rw_, vI cc, vI p, vI by_, vI i, vI tm, vI j], [vR y], aq_h m s F c)) rfl rfl ?_
      refine aq_gf (v := vR (y + 20)) rfl (by omega) hFo (by decide) rfl ?_
      show am_E _ (131, [vR y, vI mn, vI rk, vI rw_, vI cc, vI p, vI by_, vI i, vI tm, vI j], [vR (y + 20)], aq_h m s F c) _
      refine am_E.go (t2 := (133, [vR y, vI mn, vI rk, vI rw_, vI cc, vI p, vI by_, vI i, vI tm, vI j], [vI 6, vR (y + 20)], aq_h m s F c)) rfl rfl ?_
      refine am_E.go (t2 := (135, [vR y, vI mn, vI rk, vI rw_, vI cc, vI p, vI by_, vI i, vI tm, vI j], [vI i, vI 6, vR (y + 20)], aq_h m s F c)) rfl rfl ?_
      refine ae_mul rfl (am_ri (by omega) (by omega)) ?_
      show am_E _ (136, [vR y, vI mn, vI rk, vI rw_, vI cc, vI p, vI by_, vI i, vI tm, vI j], [vI (6 * i), vR (y + 20)], aq_h m s F c) _
      refine am_E.go (t2 := (138, [vR y, vI mn, vI rk, vI rw_, vI cc, vI p, vI by_, vI i, vI tm, vI j], [vI j, vI (6 * i), vR (y + 20)], aq_h m s F c)) rfl rfl ?_
      refine ae_add rfl (am_ri (by omega) (by omega)) ?_
      show am_E _ (139, [vR y, vI mn, vI rk, vI rw_, vI cc, vI p, vI by_, vI i, vI tm, vI j], [vI ((6 * i) + j), vR (y + 20)], aq_h m s F c) _
      refine am_E.go (t2 := (140, [vR y, vI mn, vI rk, vI rw_, vI cc, vI p, vI by_, vI i, vI tm, vI j], [vR y, vI ((6 * i) + j), vR (y + 20)], aq_h m s F c)) rfl rfl ?_
      refine aq_gf (v := vR (y + 20)) rfl (by omega) hFo (by decide) rfl ?_
      show am_E _ (143, [vR y, vI mn, vI rk, vI rw_, vI cc, vI p, vI by_, vI i, vI tm, vI j], [vR (y + 20), vI ((6 * i) + j), vR (y + 20)], aq_h m s F c) _
      refine am_E.go (t2 := (145, [vR y, vI mn, vI rk, vI rw_, vI cc, vI p, vI by_, vI i, vI tm, vI j], [vI 6, vR (y + 20), vI ((6 * i) + j), vR (y + 20)], aq_h m s F c)) rfl rfl ?_
      refine am_E.go (t2 := (147, [vR y, vI mn, vI rk, vI rw_, vI cc, vI p, vI by_, vI i, vI tm, vI j], [vI i, vI 6, vR (y + 20), vI ((6 * i) + j), vR (y + 20)], aq_h m s F c)) rfl rfl ?_
      refine ae_mul rfl (am_ri (by omega) (by omega)) ?_
      show am_E _ (148, [vR y, vI mn, vI rk, vI rw_, vI cc, vI p, vI by_, vI i, vI tm, vI j], [vI (6 * i), vR (y + 20), vI ((6 * i) + j), vR (y + 20)], aq_h m s F c) _
      refine am_E.go (t2 := (150, [vR y, vI mn, vI rk, vI rw_, vI cc, vI p, vI by_, vI i, vI tm, vI j], [vI j, vI (6 * i), vR (y + 20), vI ((6 * i) + j), vR (y + 20)], aq_h m s F c)) rfl rfl ?_
      refine ae_add rfl (am_ri (by omega) (by omega)) ?_
      show am_E _ (151, [vR y, vI mn, vI rk, vI rw_, vI cc, vI p, vI by_, vI i, vI tm, vI j], [vI ((6 * i) + j), vR (y + 20), vI ((6 * i) + j), vR (y + 20)], aq_h m s F c) _
      refine aq_al (ok := fun k => k == 0) (v := vI (c (y + 20) ((6 * i) + j))) rfl rfl (by omega) hG20 rfl (by omega) (by omega) rfl ?_
      show am_E _ (152, [vR y, vI mn, vI rk, vI rw_, vI cc, vI p, vI by_, vI i, vI tm, vI j], [vI (c (y + 20) ((6 * i) + j)), vI ((6 * i) + j), vR (y + 20)], aq_h m s F c) _
      have f_2 := hV i j (by omega) (by omega) (by omega) (by omega)
      rw [if_neg (by omega)] at f_2
      rw [show c (y + 20) (6 * i + j) = B i j from by assumption]
      refine am_E.go (t2 := (154, [vR y, vI mn, vI rk, vI rw_, vI cc, vI p, vI by_, vI i, vI tm, vI j], [vI p, vI (B i j), vI ((6 * i) + j), vR (y + 20)], aq_h m s F c)) rfl rfl ?_
      refine am_E.go (t2 := (156, [vR y, vI mn, vI rk, vI rw_, vI cc, vI p, vI by_, vI i, vI tm, vI j], [vI tm, vI p, vI (B i j), vI ((6 * i) + j), vR (y + 20)], aq_h m s F c)) rfl rfl ?_
      refine ae_sub rfl (am_ri (by omega) (by omega)) ?_
      show am_E _ (157, [vR y, vI mn, vI rk, vI rw_, vI cc, vI p, vI by_, vI i, vI tm, vI j], [vI (p - tm), vI (B i j), vI ((6 * i) + j), vR (y + 20)], aq_h m s F c) _
      refine am_E.go (t2 := (158, [vR y, vI mn, vI rk, vI rw_, vI cc, vI p, vI by_, vI i, vI tm, vI j], [vR y, vI (p - tm), vI (B i j), vI ((6 * i) + j), vR (y + 20)], aq_h m s F c)) rfl rfl ?_
      refine aq_gf (v := vR (y + 20)) rfl (by omega) hFo (by decide) rfl ?_
      show am_E _ (161, [vR y, vI mn, vI rk, vI rw_, vI cc, vI p, vI by_, vI i, vI tm, vI j], [vR (y + 20), vI (p - tm), vI (B i j), vI ((6 * i) + j), vR (y + 20)], aq_h m s F c) _
      refine am_E.go (t2 := (163, [vR y, vI mn, vI rk, vI rw_, vI cc, vI p, vI by_, vI i, vI tm, vI j], [vI 6, vR (y + 20), vI (p - tm), vI (B i j), vI ((6 * i) + j), vR (y + 20)], aq_h m s F c)) rfl rfl ?_
      refine am_E.go (t2 := (164, [vR y, vI mn, vI rk, vI rw_, vI cc, vI p, vI by_, vI i, vI tm, vI j], [vI rk, vI 6, vR (y + 20), vI (p - tm), vI (B i j), vI ((6 * i) + j), vR (y + 20)], aq_h m s F c)) rfl rfl ?_
      refine ae_mul rfl (am_ri (by omega) (by omega)) ?_
      show am_E _ (165, [vR y, vI mn, vI rk, vI rw_, vI cc, vI p, vI by_, vI i, vI tm, vI j], [vI (6 * rk), vR (y + 20), vI (p - tm), vI (B i j), vI ((6 * i) + j), vR (y + 20)], aq_h m s F c) _
      refine am_E.go (t2 := (167, [vR y, vI mn, vI rk, vI rw_, vI cc, vI p, vI by_, vI i, vI tm, vI j], [vI j, vI (6 * rk), vR (y + 20), vI (p - tm), vI (B i j), vI ((6 * i) + j), vR (y + 20)], aq_h m s F c)) rfl rfl ?_
      refine ae_add rfl (am_ri (by omega) (by omega)) ?_
      show am_E _ (168, [vR y, vI mn, vI rk, vI rw_, vI cc, vI p, vI by_, vI i, vI tm, vI j], [vI ((6 * rk) + j), vR (y + 20), vI (p - tm), vI (B i j), vI ((6 * i) + j), vR (y + 20)], aq_h m s F c) _
      refine aq_al (ok := fun k => k == 0) (v := vI (c (y + 20) ((6 * rk) + j))) rfl rfl (by omega) hG20 rfl (by omega) (by omega) rfl ?_
      show am_E _ (169, [vR y, vI mn, vI rk, vI rw_, vI cc, vI p, vI by_, vI i, vI tm, vI j], [vI (c (y + 20) ((6 * rk) + j)), vI (p - tm), vI (B i j), vI ((6 * i) + j), vR (y + 20)], aq_h m s F c) _
      have f_3 := hV rk j (by omega) (by omega) (by omega) (by omega)
      rw [if_neg (by omega)] at f_3
      rw [show c (y + 20) (6 * rk + j) = B rk j from by assumption]
      have k1 := hBr j (by omega) (by omega)
      have k2 := nm_mul (a := (p - tm)) (b := B rk j) (by omega) (by omega) (by omega) (by omega)
      refine ae_mul rfl (am_ri (by omega) (by omega)) ?_
      show am_E _ (170, [vR y, vI mn, vI rk, vI rw_, vI cc, vI p, vI by_, vI i, vI tm, vI j], [vI ((p - tm) * (B rk j)), vI (B i j), vI ((6 * i) + j), vR (y + 20)], aq_h m s F c) _
      refine ae_add rfl (am_ri (by omega) (by omega)) ?_
      show am_E _ (171, [vR y, vI mn, vI rk, vI rw_, vI cc, vI p, vI by_, vI i, vI tm, vI j], [vI ((B i j) + ((p - tm) * (B rk j))), vI ((6 * i) + j), vR (y + 20)], aq_h m s F c) _
      refine am_E.go (t2 := (173, [vR y, vI mn, vI rk, vI rw_, vI cc, vI p, vI by_, vI i, vI tm, vI j], [vI p, vI ((B i j) + ((p - tm) * (B rk j))), vI ((6 * i) + j), vR (y + 20)], aq_h m s F c)) rfl rfl ?_
      refine ae_bin (z := ((B i j) + ((p - tm) * (B rk j))) % p) rfl rfl (am_rem_e (by omega) (by omega)) ?_
      show am_E _ (174, [vR y, vI mn, vI rk, vI rw_, vI cc, vI p, vI by_, vI i, vI tm, vI j], [vI (((B i j) + ((p - tm) * (B rk j))) % p), vI ((6 * i) + j), vR (y + 20)], aq_h m s F c) _
      refine aq_as (kd := 0) rfl rfl (by omega) hG20 (by omega) (by omega) rfl rfl ?_
      show am_E _ (175, [vR y, vI mn, vI rk, vI rw_, vI cc, vI p, vI by_, vI i, vI tm, vI j], [], aq_h m s F (aq_u c (y + 20) ((6 * i) + j) (((B i j) + ((p - tm) * (B rk j))) % p))) _
      generalize hdc_4 : aq_u c (y + 20) ((6 * i) + j) (((B i j) + ((p - tm) * (B rk j))) % p) = c_4
      have sc_4 := aq_smu hs hdc_4 rfl
      refine ae_iinc rfl rfl (am_ri (by omega) (by omega)) ?_
      show am_E _ (178, [vR y, vI mn, vI rk, vI rw_, vI cc, vI p, vI by_, vI i, vI tm, vI (j + 1)], [], aq_h m s F c_4) _
      refine am_E.go (t2 := (121, [vR y, vI mn, vI rk, vI rw_, vI cc, vI p, vI by_, vI i, vI tm, vI (j + 1)], [], aq_h m s F c_4)) rfl rfl ?_
      exact qx_reduce_i ⟨hm, hFo, hG5, hG6, hG7, hG8, hG9, hG10, hG11, hG12, hG13, hG14, hG15, hG16, hG17, hG18, hG19, hG20, hG21, hG22, hG23⟩ hp0 hp1 hmn hk0 hk1 hw0 hw1 hc0 hc1 hi0 hi1 ht0 ht1 hBr d (j + 1) c_4 sc_4 (by omega) (by omega) (fun a b a0 a1 b0 b1 => by
        by_cases e : a = i ∧ b = j
        · rw [e.1, e.2, ← hdc_4, aq_us, if_pos ⟨rfl, by omega⟩]
        · rw [← hdc_4, aq_un (Or.inr (by omega)), hV a b a0 a1 b0 b1]
          by_cases e2 : a = i ∧ b < j
          · rw [if_pos e2, if_pos (by omega)]
          · rw [if_neg e2, if_neg (by omega)]) (by omega) K0

theorem qx_reduce_o {m s : Nat} {F : aq_F} {c0 : aq_C} {y : Nat} (hO : mo_0 m F y) {mn rk rw_ cc p : Int} (hp0 : 2 ≤ p) (hp1 : p ≤ 997) (hmn : mn ≤ 6) (hk0 : 0 ≤ rk) (hk1 : rk < mn) (hw0 : 0 ≤ rw_) (hw1 : rw_ < mn) (hc0 : 0 ≤ cc) (hc1 : cc < mn) {by_ : Int} {A : Int → Int → Int} (hb0 : 1 ≤ by_) (hb1 : by_ < p) (hA : ∀ a b : Int, 0 ≤ a → a < mn → 0 ≤ b → b < mn → 0 ≤ A a b ∧ A a b < p) : ∀ (d : Nat) (i : Int) (v8 : am_V) (v9 : am_V) (c : aq_C) (hs : aq_sm (fun a => a = y + 20) c0 c) (h0 : rk < i) (h1 : i ≤ mn) (hV : ∀ a b : Int, 0 ≤ a → a < mn → 0 ≤ b → b < mn → c (y + 20) (6 * a + b) = if (rk < a ∧ a < i) ∧ b < mn then (A a b + (p - A a cc * by_ % p) * A rk b) % p else A a b) (hd : mn - i < (d : Int)), am_E ac_X5_reduce (91, [vR y, vI mn, vI rk, vI rw_, vI cc, vI p, vI by_, vI i, v8, v9], [], aq_h m s F c) (aq_Z m s F (fun a => a = y + 20) c0 (fun r d => r = none ∧ ∀ a b : Int, 0 ≤ a → a < mn → 0 ≤ b → b < mn → d (y + 20) (6 * a + b) = mx_r A mn p rk cc by_ a b))
  | 0, i, v8, v9, c, hs, h0, h1, hV, hd => by exfalso; omega
  | d + 1, i, v8, v9, c, hs, h0, h1, hV, hd => by
    obtain ⟨hm, hFo, hG5, hG6, hG7, hG8, hG9, hG10, hG11, hG12, hG13, hG14, hG15, hG16, hG17, hG18, hG19, hG20, hG21, hG22, hG23⟩ := hO
    refine am_E.go (t2 := (93, [vR y, vI mn, vI rk, vI rw_, vI cc, vI p, vI by_, vI i, v8, v9], [vI i], aq_h m s F c)) rfl rfl ?_
    refine am_E.go (t2 := (94, [vR y, vI mn, vI rk, vI rw_, vI cc, vI p, vI by_, vI i, v8, v9], [vI mn, vI i], aq_h m s F c)) rfl rfl ?_
    refine ae_icmp rfl (fun (q_1 : mn ≤ i) => ?_) (fun (q_1 : i < mn) => ?_)
    · refine am_E.ret rfl rfl ?_
      refine ⟨_, rfl, hs, rfl, fun a b a0 a1 b0 b1 => ?_⟩
      rw [hV a b a0 a1 b0 b1]
      unfold mx_r
      by_cases e : (rk < a ∧ a < mn) ∧ 0 ≤ b ∧ b < mn
      · rw [if_pos e, if_pos (by omega)]
      · rw [if_neg e, if_neg (by omega)]
    · refine am_E.go (t2 := (98, [vR y, vI mn, vI rk, vI rw_, vI cc, vI p, vI by_, vI i, v8, v9], [vR y], aq_h m s F c)) rfl rfl ?_
      refine aq_gf (v := vR (y + 20)) rfl (by omega) hFo (by decide) rfl ?_
      show am_E _ (101, [vR y, vI mn, vI rk, vI rw_, vI cc, vI p, vI by_, vI i, v8, v9], [vR (y + 20)], aq_h m s F c) _
      refine am_E.go (t2 := (103, [vR y, vI mn, vI rk, vI rw_, vI cc, vI p, vI by_, vI i, v8, v9], [vI 6, vR (y + 20)], aq_h m s F c)) rfl rfl ?_
      refine am_E.go (t2 := (105, [vR y, vI mn, vI rk, vI rw_, vI cc, vI p, vI by_, vI i, v8, v9], [vI i, vI 6, vR (y + 20)], aq_h m s F c)) rfl rfl ?_
      refine ae_mul rfl (am_ri (by omega) (by omega)) ?_
      show am_E _ (106, [vR y, vI mn, vI rk, vI rw_, vI cc, vI p, vI by_, vI i, v8, v9], [vI (6 * i), vR (y + 20)], aq_h m s F c) _
      refine am_E.go (t2 := (108, [vR y, vI mn, vI rk, vI rw_, vI cc, vI p, vI by_, vI i, v8, v9], [vI cc, vI (6 * i), vR (y + 20)], aq_h m s F c)) rfl rfl ?_
      refine ae_add rfl (am_ri (by omega) (by omega)) ?_
      show am_E _ (109, [vR y, vI mn, vI rk, vI rw_, vI cc, vI p, vI by_, vI i, v8, v9], [vI ((6 * i) + cc), vR (y + 20)], aq_h m s F c) _
      refine aq_al (ok := fun k => k == 0) (v := vI (c (y + 20) ((6 * i) + cc))) rfl rfl (by omega) hG20 rfl (by omega) (by omega) rfl ?_
      show am_E _ (110, [vR y, vI mn, vI rk, vI rw_, vI cc, vI p, vI by_, vI i, v8, v9], [vI (c (y + 20) ((6 * i) + cc))], aq_h m s F c) _
      have f_2 := hV i cc (by omega) (by omega) (by omega) (by omega)
      rw [if_neg (by omega)] at f_2
      rw [show c (y + 20) (6 * i + cc) = A i cc from by assumption]
      have kq := hA i cc (by omega) (by omega) (by omega) (by omega)
      have k2 := nm_mul (a := A i cc) (b := by_) (by omega) (by omega) (by omega) (by omega)
      have kt := nm_em (a := A i cc * by_) (p := p) (by omega)
      refine am_E.go (t2 := (112, [vR y, vI mn, vI rk, vI rw_, vI cc, vI p, vI by_, vI i, v8, v9], [vI by_, vI (A i cc)], aq_h m s F c)) rfl rfl ?_
      refine ae_mul rfl (am_ri (by omega) (by omega)) ?_
      show am_E _ (113, [vR y, vI mn, vI rk, vI rw_, vI cc, vI p, vI by_, vI i, v8, v9], [vI ((A i cc) * by_)], aq_h m s F c) _
      refine am_E.go (t2 := (115, [vR y, vI mn, vI rk, vI rw_, vI cc, vI p, vI by_, vI i, v8, v9], [vI p, vI ((A i cc) * by_)], aq_h m s F c)) rfl rfl ?_
      refine ae_bin (z := ((A i cc) * by_) % p) rfl rfl (am_rem_e (by omega) (by omega)) ?_
      show am_E _ (116, [vR y, vI mn, vI rk, vI rw_, vI cc, vI p, vI by_, vI i, v8, v9], [vI (((A i cc) * by_) % p)], aq_h m s F c) _
      refine am_E.go (t2 := (118, [vR y, vI mn, vI rk, vI rw_, vI cc, vI p, vI by_, vI i, vI (((A i cc) * by_) % p), v9], [], aq_h m s F c)) rfl rfl ?_
      refine am_E.go (t2 := (119, [vR y, vI mn, vI rk, vI rw_, vI cc, vI p, vI by_, vI i, vI (((A i cc) * by_) % p), v9], [vI 0], aq_h m s F c)) rfl rfl ?_
      refine am_E.go (t2 := (121, [vR y, vI mn, vI rk, vI rw_, vI cc, vI p, vI by_, vI i, vI (((A i cc) * by_) % p), vI 0], [], aq_h m s F c)) rfl rfl ?_
      refine qx_reduce_i ⟨hm, hFo, hG5, hG6, hG7, hG8, hG9, hG10, hG11, hG12, hG13, hG14, hG15, hG16, hG17, hG18, hG19, hG20, hG21, hG22, hG23⟩ hp0 hp1 hmn hk0 hk1 hw0 hw1 hc0 hc1 (B := (fun a b => if (rk < a ∧ a < i) ∧ b < mn then (A a b + (p - A a cc * by_ % p) * A rk b) % p else A a b)) (by omega) (by omega) (by omega) (by omega) (fun b b0 b1 => by rw [if_neg (by omega), if_neg (by omega)]; exact ⟨hA i b (by omega) (by omega) b0 b1, hA rk b (by omega) (by omega) b0 b1⟩) 8 0 c hs (by omega) (by omega) (fun a b a0 a1 b0 b1 => by rw [if_neg (by omega)]; exact hV a b a0 a1 b0 b1) (by omega) ?_
      · intro j2_121 c_3 sc_3 hV2_121
        refine ae_iinc rfl rfl (am_ri (by omega) (by omega)) ?_
        show am_E _ (184, [vR y, vI mn, vI rk, vI rw_, vI cc, vI p, vI by_, vI (i + 1), vI (((A i cc) * by_) % p), vI j2_121], [], aq_h m s F c_3) _
        refine am_E.go (t2 := (91, [vR y, vI mn, vI rk, vI rw_, vI cc, vI p, vI by_, vI (i + 1), vI (((A i cc) * by_) % p), vI j2_121], [], aq_h m s F c_3)) rfl rfl ?_
        exact qx_reduce_o ⟨hm, hFo, hG5, hG6, hG7, hG8, hG9, hG10, hG11, hG12, hG13, hG14, hG15, hG16, hG17, hG18, hG19, hG20, hG21, hG22, hG23⟩ hp0 hp1 hmn hk0 hk1 hw0 hw1 hc0 hc1 hb0 hb1 hA d (i + 1) (vI (((A i cc) * by_) % p)) (vI j2_121) c_3 sc_3 (by omega) (by omega) (fun a b a0 a1 b0 b1 => by
          rw [hV2_121 a b a0 a1 b0 b1]
          by_cases e : a = i ∧ b < mn
          · rw [if_pos e, if_pos (show (rk < a ∧ a < i + 1) ∧ b < mn by omega), e.1]
            rw [if_neg (show ¬ ((rk < i ∧ i < i) ∧ b < mn) by omega), if_neg (show ¬ ((rk < rk ∧ rk < i) ∧ b < mn) by omega)]
          · rw [if_neg e]
            by_cases e2 : (rk < a ∧ a < i) ∧ b < mn
            · rw [if_pos e2, if_pos (show (rk < a ∧ a < i + 1) ∧ b < mn by omega)]
            · rw [if_neg e2, if_neg (show ¬ ((rk < a ∧ a < i + 1) ∧ b < mn) by omega)]) (by omega)

theorem qx_reduce_s {m s : Nat} {F : aq_F} {c0 : aq_C} {y : Nat} (hO : mo_0 m F y) {mn rk rw_ cc p : Int} (hp0 : 2 ≤ p) (hp1 : p ≤ 997) (hmn : mn ≤ 6) (hk0 : 0 ≤ rk) (hk1 : rk < mn) (hw0 : 0 ≤ rw_) (hw1 : rw_ < mn) (hc0 : 0 ≤ cc) (hc1 : cc < mn) (hP : nm_P p) {A : Int → Int → Int} (hA : ∀ a b : Int, 0 ≤ a → a < mn → 0 ≤ b → b < mn → 0 ≤ A a b ∧ A a b < p) (hnz : A rw_ cc ≠ 0) : ∀ (d : Nat) (q : Int) (v7 : am_V) (v8 : am_V) (v9 : am_V) (c : aq_C) (hs : aq_sm (fun a => a = y + 20) c0 c) (h0 : 0 ≤ q) (h1 : q ≤ mn) (hV : ∀ a b : Int, 0 ≤ a → a < mn → 0 ≤ b → b < mn → c (y + 20) (6 * a + b) = if b < q then (if a = rk then A rw_ b else if a = rw_ then A rk b else A a b) else A a b) (hd : mn - q < (d : Int)), am_E ac_X5_reduce (3, [vR y, vI mn, vI rk, vI rw_, vI cc, vI p, vI q, v7, v8, v9], [], aq_h m s F c) (aq_Z m s F (fun a => a = y + 20) c0 (fun r d => r = none ∧ ∀ a b : Int, 0 ≤ a → a < mn → 0 ≤ b → b < mn → d (y + 20) (6 * a + b) = mx_r (mx_s A mn rw_ rk) mn p rk cc (iv_ (mx_s A mn rw_ rk rk cc) p 1000 1) a b))
  | 0, q, v7, v8, v9, c, hs, h0, h1, hV, hd => by exfalso; omega
  | d + 1, q, v7, v8, v9, c, hs, h0, h1, hV, hd => by
    obtain ⟨hm, hFo, hG5, hG6, hG7, hG8, hG9, hG10, hG11, hG12, hG13, hG14, hG15, hG16, hG17, hG18, hG19, hG20, hG21, hG22, hG23⟩ := hO
    refine am_E.go (t2 := (5, [vR y, vI mn, vI rk, vI rw_, vI cc, vI p, vI q, v7, v8, v9], [vI q], aq_h m s F c)) rfl rfl ?_
    refine am_E.go (t2 := (6, [vR y, vI mn, vI rk, vI rw_, vI cc, vI p, vI q, v7, v8, v9], [vI mn, vI q], aq_h m s F c)) rfl rfl ?_
    refine ae_icmp rfl (fun (q_1 : mn ≤ q) => ?_) (fun (q_1 : q < mn) => ?_)
    · have hM := sw_e hV (show q = mn by omega)
      have hSr := mx_sr (f := A) hA (i := rw_) (j := rk) hw0 hw1 hk0 hk1
      have hvk := mx_sk (T := A) (N := mn) (a := rw_) (b := rk) (c := cc) ⟨hc0, hc1⟩
      have hvA := hA rw_ cc hw0 hw1 hc0 hc1
      refine am_E.go (t2 := (68, [vR y, vI mn, vI rk, vI rw_, vI cc, vI p, vI q, v7, v8, v9], [vR y], aq_h m s F c)) rfl rfl ?_
      refine aq_gf (v := vR (y + 20)) rfl (by omega) hFo (by decide) rfl ?_
      show am_E _ (71, [vR y, vI mn, vI rk, vI rw_, vI cc, vI p, vI q, v7, v8, v9], [vR (y + 20)], aq_h m s F c) _
      refine am_E.go (t2 := (73, [vR y, vI mn, vI rk, vI rw_, vI cc, vI p, vI q, v7, v8, v9], [vI 6, vR (y + 20)], aq_h m s F c)) rfl rfl ?_
      refine am_E.go (t2 := (74, [vR y, vI mn, vI rk, vI rw_, vI cc, vI p, vI q, v7, v8, v9], [vI rk, vI 6, vR (y + 20)], aq_h m s F c)) rfl rfl ?_
      refine ae_mul rfl (am_ri (by omega) (by omega)) ?_
      show am_E _ (75, [vR y, vI mn, vI rk, vI rw_, vI cc, vI p, vI q, v7, v8, v9], [vI (6 * rk), vR (y + 20)], aq_h m s F c) _
      refine am_E.go (t2 := (77, [vR y, vI mn, vI rk, vI rw_, vI cc, vI p, vI q, v7, v8, v9], [vI cc, vI (6 * rk), vR (y + 20)], aq_h m s F c)) rfl rfl ?_
      refine ae_add rfl (am_ri (by omega) (by omega)) ?_
      show am_E _ (78, [vR y, vI mn, vI rk, vI rw_, vI cc, vI p, vI q, v7, v8, v9], [vI ((6 * rk) + cc), vR (y + 20)], aq_h m s F c) _
      refine aq_al (ok := fun k => k == 0) (v := vI (c (y + 20) ((6 * rk) + cc))) rfl rfl (by omega) hG20 rfl (by omega) (by omega) rfl ?_
      show am_E _ (79, [vR y, vI mn, vI rk, vI rw_, vI cc, vI p, vI q, v7, v8, v9], [vI (c (y + 20) ((6 * rk) + cc))], aq_h m s F c) _
      have f_2 := hM rk cc hk0 hk1 hc0 hc1
      rw [show c (y + 20) (6 * rk + cc) = mx_s A mn rw_ rk rk cc from by assumption]
      refine am_E.go (t2 := (81, [vR y, vI mn, vI rk, vI rw_, vI cc, vI p, vI q, v7, v8, v9], [vI p, vI (mx_s A mn rw_ rk rk cc)], aq_h m s F c)) rfl rfl ?_
      refine am_E.call rfl rfl rfl (Nat.le_of_ble_eq_true rfl) (qx_inverse (by omega) (by omega) hp1 hP) ?_
      rintro r5 h5 ⟨rfl, rfl⟩
      show am_E _ (84, [vR y, vI mn, vI rk, vI rw_, vI cc, vI p, vI q, v7, v8, v9], [vI (iv_ (mx_s A mn rw_ rk rk cc) p 1000 1)], aq_h m s F c) _
      have hib := iv_b (v := mx_s A mn rw_ rk rk cc) (p := p) (by omega) (by omega) hp1 hP
      refine am_E.go (t2 := (86, [vR y, vI mn, vI rk, vI rw_, vI cc, vI p, vI (iv_ (mx_s A mn rw_ rk rk cc) p 1000 1), v7, v8, v9], [], aq_h m s F c)) rfl rfl ?_
      refine am_E.go (t2 := (87, [vR y, vI mn, vI rk, vI rw_, vI cc, vI p, vI (iv_ (mx_s A mn rw_ rk rk cc) p 1000 1), v7, v8, v9], [vI rk], aq_h m s F c)) rfl rfl ?_
      refine am_E.go (t2 := (88, [vR y, vI mn, vI rk, vI rw_, vI cc, vI p, vI (iv_ (mx_s A mn rw_ rk rk cc) p 1000 1), v7, v8, v9], [vI 1, vI rk], aq_h m s F c)) rfl rfl ?_
      refine ae_add rfl (am_ri (by omega) (by omega)) ?_
      show am_E _ (89, [vR y, vI mn, vI rk, vI rw_, vI cc, vI p, vI (iv_ (mx_s A mn rw_ rk rk cc) p 1000 1), v7, v8, v9], [vI (rk + 1)], aq_h m s F c) _
      refine am_E.go (t2 := (91, [vR y, vI mn, vI rk, vI rw_, vI cc, vI p, vI (iv_ (mx_s A mn rw_ rk rk cc) p 1000 1), vI (rk + 1), v8, v9], [], aq_h m s F c)) rfl rfl ?_
      exact qx_reduce_o ⟨hm, hFo, hG5, hG6, hG7, hG8, hG9, hG10, hG11, hG12, hG13, hG14, hG15, hG16, hG17, hG18, hG19, hG20, hG21, hG22, hG23⟩ hp0 hp1 hmn hk0 hk1 hw0 hw1 hc0 hc1 (A := mx_s A mn rw_ rk) (by omega) (by omega) hSr 8 (rk + 1) (v8) (v9) c hs (by omega) (by omega) (fun a b a0 a1 b0 b1 => by rw [if_neg (by omega)]; exact hM a b a0 a1 b0 b1) (by omega)
    · refine am_E.go (t2 := (10, [vR y, vI mn, vI rk, vI rw_, vI cc, vI p, vI q, v7, v8, v9], [vR y], aq_h m s F c)) rfl rfl ?_
      refine aq_gf (v := vR (y + 20)) rfl (by omega) hFo (by decide) rfl ?_
      show am_E _ (13, [vR y, vI mn, vI rk, vI rw_, vI cc, vI p, vI q, v7, v8, v9], [vR (y + 20)], aq_h m s F c) _
      refine am_E.go (t2 := (15, [vR y, vI mn, vI rk, vI rw_, vI cc, vI p, vI q, v7, v8, v9], [vI 6, vR (y + 20)], aq_h m s F c)) rfl rfl ?_
      refine am_E.go (t2 := (16, [vR y, vI mn, vI rk, vI rw_, vI cc, vI p, vI q, v7, v8, v9], [vI rk, vI 6, vR (y + 20)], aq_h m s F c)) rfl rfl ?_
      refine ae_mul rfl (am_ri (by omega) (by omega)) ?_
      show am_E _ (17, [vR y, vI mn, vI rk, vI rw_, vI cc, vI p, vI q, v7, v8, v9], [vI (6 * rk), vR (y + 20)], aq_h m s F c) _
      refine am_E.go (t2 := (19, [vR y, vI mn, vI rk, vI rw_, vI cc, vI p, vI q, v7, v8, v9], [vI q, vI (6 * rk), vR (y + 20)], aq_h m s F c)) rfl rfl ?_
      refine ae_add rfl (am_ri (by omega) (by omega)) ?_
      show am_E _ (20, [vR y, vI mn, vI rk, vI rw_, vI cc, vI p, vI q, v7, v8, v9], [vI ((6 * rk) + q), vR (y + 20)], aq_h m s F c) _
      refine aq_al (ok := fun k => k == 0) (v := vI (c (y + 20) ((6 * rk) + q))) rfl rfl (by omega) hG20 rfl (by omega) (by omega) rfl ?_
      show am_E _ (21, [vR y, vI mn, vI rk, vI rw_, vI cc, vI p, vI q, v7, v8, v9], [vI (c (y + 20) ((6 * rk) + q))], aq_h m s F c) _
      refine am_E.go (t2 := (23, [vR y, vI mn, vI rk, vI rw_, vI cc, vI p, vI q, vI (c (y + 20) ((6 * rk) + q)), v8, v9], [], aq_h m s F c)) rfl rfl ?_
      refine am_E.go (t2 := (24, [vR y, vI mn, vI rk, vI rw_, vI cc, vI p, vI q, vI (c (y + 20) ((6 * rk) + q)), v8, v9], [vR y], aq_h m s F c)) rfl rfl ?_
      refine aq_gf (v := vR (y + 20)) rfl (by omega) hFo (by decide) rfl ?_
      show am_E _ (27, [vR y, vI mn, vI rk, vI rw_, vI cc, vI p, vI q, vI (c (y + 20) ((6 * rk) + q)), v8, v9], [vR (y + 20)], aq_h m s F c) _
      refine am_E.go (t2 := (29, [vR y, vI mn, vI rk, vI rw_, vI cc, vI p, vI q, vI (c (y + 20) ((6 * rk) + q)), v8, v9], [vI 6, vR (y + 20)], aq_h m s F c)) rfl rfl ?_
      refine am_E.go (t2 := (30, [vR y, vI mn, vI rk, vI rw_, vI cc, vI p, vI q, vI (c (y + 20) ((6 * rk) + q)), v8, v9], [vI rk, vI 6, vR (y + 20)], aq_h m s F c)) rfl rfl ?_
      refine ae_mul rfl (am_ri (by omega) (by omega)) ?_
      show am_E _ (31, [vR y, vI mn, vI rk, vI rw_, vI cc, vI p, vI q, vI (c (y + 20) ((6 * rk) + q)), v8, v9], [vI (6 * rk), vR (y + 20)], aq_h m s F c) _
      refine am_E.go (t2 := (33, [vR y, vI mn, vI rk, vI rw_, vI cc, vI p, vI q, vI (c (y + 20) ((6 * rk) + q)), v8, v9], [vI q, vI (6 * rk), vR (y + 20)], aq_h m s F c)) rfl rfl ?_
      refine ae_add rfl (am_ri (by omega) (by omega)) ?_
      show am_E _ (34, [vR y, vI mn, vI rk, vI rw_, vI cc, vI p, vI q, vI (c (y + 20) ((6 * rk) + q)), v8, v9], [vI ((6 * rk) + q), vR (y + 20)], aq_h m s F c) _
      refine am_E.go (t2 := (35, [vR y, vI mn, vI rk, vI rw_, vI cc, vI p, vI q, vI (c (y + 20) ((6 * rk) + q)), v8, v9], [vR y, vI ((6 * rk) + q), vR (y + 20)], aq_h m s F c)) rfl rfl ?_
      refine aq_gf (v := vR (y + 20)) rfl (by omega) hFo (by decide) rfl ?_
      show am_E _ (38, [vR y, vI mn, vI rk, vI rw_, vI cc, vI p, vI q, vI (c (y + 20) ((6 * rk) + q)), v8, v9], [vR (y + 20), vI ((6 * rk) + q), vR (y + 20)], aq_h m s F c) _
      refine am_E.go (t2 := (40, [vR y, vI mn, vI rk, vI rw_, vI cc, vI p, vI q, vI (c (y + 20) ((6 * rk) + q)), v8, v9], [vI 6, vR (y + 20), vI ((6 * rk) + q), vR (y + 20)], aq_h m s F c)) rfl rfl ?_
      refine am_E.go (t2 := (41, [vR y, vI mn, vI rk, vI rw_, vI cc, vI p, vI q, vI (c (y + 20) ((6 * rk) + q)), v8, v9], [vI rw_, vI 6, vR (y + 20), vI ((6 * rk) + q), vR (y + 20)], aq_h m s F c)) rfl rfl ?_
      refine ae_mul rfl (am_ri (by omega) (by omega)) ?_
      show am_E _ (42, [vR y, vI mn, vI rk, vI rw_, vI cc, vI p, vI q, vI (c (y + 20) ((6 * rk) + q)), v8, v9], [vI (6 * rw_), vR (y + 20), vI ((6 * rk) + q), vR (y + 20)], aq_h m s F c) _
      refine am_E.go (t2 := (44, [vR y, vI mn, vI rk, vI rw_, vI cc, vI p, vI q, vI (c (y + 20) ((6 * rk) + q)), v8, v9], [vI q, vI (6 * rw_), vR (y + 20), vI ((6 * rk) + q), vR (y + 20)], aq_h m s F c)) rfl rfl ?_
      refine ae_add rfl (am_ri (by omega) (by omega)) ?_
      show am_E _ (45, [vR y, vI mn, vI rk, vI rw_, vI cc, vI p, vI q, vI (c (y + 20) ((6 * rk) + q)), v8, v9], [vI ((6 * rw_) + q), vR (y + 20), vI ((6 * rk) + q), vR (y + 20)], aq_h m s F c) _
      refine aq_al (ok := fun k => k == 0) (v := vI (c (y + 20) ((6 * rw_) + q))) rfl rfl (by omega) hG20 rfl (by omega) (by omega) rfl ?_
      show am_E _ (46, [vR y, vI mn, vI rk, vI rw_, vI cc, vI p, vI q, vI (c (y + 20) ((6 * rk) + q)), v8, v9], [vI (c (y + 20) ((6 * rw_) + q)), vI ((6 * rk) + q), vR (y + 20)], aq_h m s F c) _
      refine aq_as (kd := 0) rfl rfl (by omega) hG20 (by omega) (by omega) rfl rfl ?_
      show am_E _ (47, [vR y, vI mn, vI rk, vI rw_, vI cc, vI p, vI q, vI (c (y + 20) ((6 * rk) + q)), v8, v9], [], aq_h m s F (aq_u c (y + 20) ((6 * rk) + q) (c (y + 20) ((6 * rw_) + q)))) _
      generalize hdc_5 : aq_u c (y + 20) ((6 * rk) + q) (c (y + 20) ((6 * rw_) + q)) = c_5
      have sc_5 := aq_smu hs hdc_5 rfl
      refine am_E.go (t2 := (48, [vR y, vI mn, vI rk, vI rw_, vI cc, vI p, vI q, vI (c (y + 20) ((6 * rk) + q)), v8, v9], [vR y], aq_h m s F c_5)) rfl rfl ?_
      refine aq_gf (v := vR (y + 20)) rfl (by omega) hFo (by decide) rfl ?_
      show am_E _ (51, [vR y, vI mn, vI rk, vI rw_, vI cc, vI p, vI q, vI (c (y + 20) ((6 * rk) + q)), v8, v9], [vR (y + 20)], aq_h m s F c_5) _
      refine am_E.go (t2 := (53, [vR y, vI mn, vI rk, vI rw_, vI cc, vI p, vI q, vI (c (y + 20) ((6 * rk) + q)), v8, v9], [vI 6, vR (y + 20)], aq_h m s F c_5)) rfl rfl ?_
      refine am_E.go (t2 := (54, [vR y, vI mn, vI rk, vI rw_, vI cc, vI p, vI q, vI (c (y + 20) ((6 * rk) + q)), v8, v9], [vI rw_, vI 6, vR (y + 20)], aq_h m s F c_5)) rfl rfl ?_
      refine ae_mul rfl (am_ri (by omega) (by omega)) ?_
      show am_E _ (55, [vR y, vI mn, vI rk, vI rw_, vI cc, vI p, vI q, vI (c (y + 20) ((6 * rk) + q)), v8, v9], [vI (6 * rw_), vR (y + 20)], aq_h m s F c_5) _
      refine am_E.go (t2 := (57, [vR y, vI mn, vI rk, vI rw_, vI cc, vI p, vI q, vI (c (y + 20) ((6 * rk) + q)), v8, v9], [vI q, vI (6 * rw_), vR (y + 20)], aq_h m s F c_5)) rfl rfl ?_
      refine ae_add rfl (am_ri (by omega) (by omega)) ?_
      show am_E _ (58, [vR y, vI mn, vI rk, vI rw_, vI cc, vI p, vI q, vI (c (y + 20) ((6 * rk) + q)), v8, v9], [vI ((6 * rw_) + q), vR (y + 20)], aq_h m s F c_5) _
      refine am_E.go (t2 := (60, [vR y, vI mn, vI rk, vI rw_, vI cc, vI p, vI q, vI (c (y + 20) ((6 * rk) + q)), v8, v9], [vI (c (y + 20) ((6 * rk) + q)), vI ((6 * rw_) + q), vR (y + 20)], aq_h m s F c_5)) rfl rfl ?_
      refine aq_as (kd := 0) rfl rfl (by omega) hG20 (by omega) (by omega) rfl rfl ?_
      show am_E _ (61, [vR y, vI mn, vI rk, vI rw_, vI cc, vI p, vI q, vI (c (y + 20) ((6 * rk) + q)), v8, v9], [], aq_h m s F (aq_u c_5 (y + 20) ((6 * rw_) + q) (c (y + 20) ((6 * rk) + q)))) _
      generalize hdc_6 : aq_u c_5 (y + 20) ((6 * rw_) + q) (c (y + 20) ((6 * rk) + q)) = c_6
      have sc_6 := aq_smu sc_5 hdc_6 rfl
      refine ae_iinc rfl rfl (am_ri (by omega) (by omega)) ?_
      show am_E _ (64, [vR y, vI mn, vI rk, vI rw_, vI cc, vI p, vI (q + 1), vI (c (y + 20) ((6 * rk) + q)), v8, v9], [], aq_h m s F c_6) _
      refine am_E.go (t2 := (3, [vR y, vI mn, vI rk, vI rw_, vI cc, vI p, vI (q + 1), vI (c (y + 20) ((6 * rk) + q)), v8, v9], [], aq_h m s F c_6)) rfl rfl ?_
      exact qx_reduce_s ⟨hm, hFo, hG5, hG6, hG7, hG8, hG9, hG10, hG11, hG12, hG13, hG14, hG15, hG16, hG17, hG18, hG19, hG20, hG21, hG22, hG23⟩ hp0 hp1 hmn hk0 hk1 hw0 hw1 hc0 hc1 hP hA hnz d (q + 1) (vI (c (y + 20) ((6 * rk) + q))) (v8) (v9) c_6 sc_6 (by omega) (by omega) (fun a b a0 a1 b0 b1 => by
        have g1 := hV a b a0 a1 b0 b1
        have g2 := hV rw_ q (by omega) (by omega) (by omega) (by omega)
        have g3 := hV rk q (by omega) (by omega) (by omega) (by omega)
        rw [if_neg (by omega)] at g2 g3
        by_cases eb : b = q
        · rw [eb, if_pos (show q < q + 1 by omega)]
          by_cases ei : a = rk
          · rw [if_pos ei, ei]
            by_cases ij : rk = rw_
            · rw [ij, ← hdc_6, aq_us, ← ij, g3]
            · rw [← hdc_6, aq_un (Or.inr (by omega)), ← hdc_5, aq_us, g2]
          · rw [if_neg ei]
            by_cases ej : a = rw_
            · rw [if_pos ej, ej, ← hdc_6, aq_us, g3]
            · rw [if_neg ej, ← hdc_6, aq_un (Or.inr (by omega)), ← hdc_5, aq_un (Or.inr (by omega)), ← eb, g1, if_neg (show ¬ b < q by omega)]
        · rw [← hdc_6, aq_un (Or.inr (by omega)), ← hdc_5, aq_un (Or.inr (by omega)), g1]
          by_cases e2 : b < q
          · rw [if_pos e2, if_pos (show b < q + 1 by omega)]
          · rw [if_neg e2, if_neg (show ¬ b < q + 1 by omega)]) (by omega)

theorem qx_reduce {m s : Nat} {F : aq_F} {c : aq_C} {y : Nat} (hO : mo_0 m F y) {mn rk rw_ cc p : Int} (hp0 : 2 ≤ p) (hp1 : p ≤ 997) (hmn : mn ≤ 6) (hk0 : 0 ≤ rk) (hk1 : rk < mn) (hw0 : 0 ≤ rw_) (hw1 : rw_ < mn) (hc0 : 0 ≤ cc) (hc1 : cc < mn) (hP : nm_P p) {A : Int → Int → Int} (hA : ∀ a b : Int, 0 ≤ a → a < mn → 0 ≤ b → b < mn → 0 ≤ A a b ∧ A a b < p) (hnz : A rw_ cc ≠ 0) (hV0 : ∀ a b : Int, 0 ≤ a → a < mn → 0 ≤ b → b < mn → c (y + 20) (6 * a + b) = A a b) : am_E ac_X5_reduce (0, [vR y, vI mn, vI rk, vI rw_, vI cc, vI p, vU, vU, vU, vU], [], aq_h m s F c) (aq_Z m s F (fun a => a = y + 20) c (fun r d => r = none ∧ ∀ a b : Int, 0 ≤ a → a < mn → 0 ≤ b → b < mn → d (y + 20) (6 * a + b) = mx_r (mx_s A mn rw_ rk) mn p rk cc (iv_ (mx_s A mn rw_ rk rk cc) p 1000 1) a b)) := by
  obtain ⟨hm, hFo, hG5, hG6, hG7, hG8, hG9, hG10, hG11, hG12, hG13, hG14, hG15, hG16, hG17, hG18, hG19, hG20, hG21, hG22, hG23⟩ := hO
  refine am_E.go (t2 := (1, [vR y, vI mn, vI rk, vI rw_, vI cc, vI p, vU, vU, vU, vU], [vI 0], aq_h m s F c)) rfl rfl ?_
  refine am_E.go (t2 := (3, [vR y, vI mn, vI rk, vI rw_, vI cc, vI p, vI 0, vU, vU, vU], [], aq_h m s F c)) rfl rfl ?_
  exact qx_reduce_s ⟨hm, hFo, hG5, hG6, hG7, hG8, hG9, hG10, hG11, hG12, hG13, hG14, hG15, hG16, hG17, hG18, hG19, hG20, hG21, hG22, hG23⟩ hp0 hp1 hmn hk0 hk1 hw0 hw1 hc0 hc1 hP hA hnz 8 0 (vU) (vU) (vU) c (aq_sm0 (c := c) (S := (fun a => a = y + 20))) (by omega) (by omega) (fun a b a0 a1 b0 b1 => by rw [if_neg (by omega)]; exact hV0 a b a0 a1 b0 b1) (by omega)
