
/-- a ring of the closed box, as the reference goes -/
def rz_ (n : Int) (f : Int → Int) (m : Int) : Nat → Int → (Int → Int) → Int → Int
  | 0, _, w => w
  | d + 1, p, w => if ac_ n (f p) = m then dc_u (dc_u w (p % n)) (f p % n) else rz_ n f m d (ac_ n (f p)) (dc_u (dc_u w (p % n)) (f p % n))
def ry_ (n : Int) (f : Int → Int) : Nat → Int → Int → (Int → Int) → Int
  | 0, _, x, _ => x
  | d + 1, k, x, w => if k < n then (if w k = 0 then ry_ n f d (k + 1) (x + 1) (rz_ n f k 4 k w) else ry_ n f d (k + 1) x w) else x
theorem ry_1 : ∀ b : Nat, b < 1 → ry_ 1 (prt 1 b) 6 0 0 (fun _ => 0) = rg_ 1 b := by decide +kernel
theorem ry_2 : ∀ b : Nat, b < 3 → ry_ 2 (prt 2 b) 6 0 0 (fun _ => 0) = rg_ 2 b := by decide +kernel
theorem ry_3 : ∀ b : Nat, b < 15 → ry_ 3 (prt 3 b) 6 0 0 (fun _ => 0) = rg_ 3 b := by decide +kernel
theorem ry_4 : ∀ b : Nat, b < 105 → ry_ 4 (prt 4 b) 6 0 0 (fun _ => 0) = rg_ 4 b := by decide +kernel
theorem ry_e {n x : Int} (h1 : 1 ≤ n) (h4 : n ≤ 4) (x0 : 0 ≤ x) (xK : x < bx_K n) : ry_ n (prt n x) 6 0 0 (fun _ => 0) = rg_ n x := by
  have ex : ((x.toNat : Nat) : Int) = x := Int.toNat_of_nonneg x0
  have h : n = 1 ∨ n = 2 ∨ n = 3 ∨ n = 4 := by omega
  rcases h with h | h | h | h <;> subst h
  · have g : bx_K 1 = 1 := by decide
    have := ry_1 x.toNat (by omega)
    rw [ex] at this
    exact this
  · have g : bx_K 2 = 3 := by decide
    have := ry_2 x.toNat (by omega)
    rw [ex] at this
    exact this
  · have g : bx_K 3 = 15 := by decide
    have := ry_3 x.toNat (by omega)
    rw [ex] at this
    exact this
  · have g : bx_K 4 = 105 := by decide
    have := ry_4 x.toNat (by omega)
    rw [ex] at this
    exact this
theorem qy_rings_3 {m s : Nat} {F : aq_F} {c0 : aq_C} {S : Nat → Prop} {y : Nat} (hO : mo_0 m F y) (hS13 : S (y + 13)) {tbl : Int → Int} (hT : mo_T F y tbl) {n bb : Int} (hn1 : 1 ≤ n) (hn4 : n ≤ 4) (hb0 : 0 ≤ bb) (hb1 : bb < bx_K n) {xa : Int} (hxa : xa = 8 * (mo_f n + bb)) {T : Int} {Wd : Int → Int} : ∀ (d : Nat) (w : Int → Int) (x : Int) (k : Int) (p : Int) (v8 : am_V) (c : aq_C) (hs : aq_sm S c0 c) (h0 : 0 ≤ p) (h1 : p < 2 * n) (hw : ∀ q, 0 ≤ q → q < 4 → c (y + 13) q = w q) (he : rc_d n bb k d p) (ht : rz_ n (prt n bb) k d p w = Wd) (K0 : ∀ (p2 : Int) (v82 : am_V) (c2 : aq_C) (hs2 : aq_sm S c0 c2) (hw2 : ∀ q, 0 ≤ q → q < 4 → c2 (y + 13) q = Wd q), am_E ac_X5_ringsClosed (133, [vR y, vI n, vI bb, vI xa, vI x, vI k, vI p2, vI 0, v82], [], aq_h m s F c2) (aq_Z m s F S c0 (fun r d => r = some (vI T)))), am_E ac_X5_ringsClosed (61, [vR y, vI n, vI bb, vI xa, vI x, vI k, vI p, vI 1, v8], [], aq_h m s F c) (aq_Z m s F S c0 (fun r d => r = some (vI T)))
  | 0, w, x, k, p, v8, c, hs, h0, h1, hw, he, ht, K0 => he.elim
  | d + 1, w, x, k, p, v8, c, hs, h0, h1, hw, he, ht, K0 => by
    obtain ⟨hm, hFo, hG5, hG6, hG7, hG8, hG9, hG10, hG11, hG12, hG13, hG14, hG15, hG16, hG17, hG18, hG19, hG20, hG21, hG22, hG23⟩ := hO
    obtain ⟨hT1, hTt⟩ := hT
    have hfs := mo_fs n
    have hfi := pr_fi hn1 hn4 hb0 hb1
    refine am_E.go (t2 := (63, [vR y, vI n, vI bb, vI xa, vI x, vI k, vI p, vI 1, v8], [vI 1], aq_h m s F c)) rfl rfl ?_
    refine am_E.go (t2 := (66, [vR y, vI n, vI bb, vI xa, vI x, vI k, vI p, vI 1, v8], [], aq_h m s F c)) rfl rfl ?_
    refine am_E.go (t2 := (67, [vR y, vI n, vI bb, vI xa, vI x, vI k, vI p, vI 1, v8], [vR y], aq_h m s F c)) rfl rfl ?_
    refine aq_gf (v := vR (y + 13)) rfl (by omega) hFo (by decide) rfl ?_
    show am_E _ (70, [vR y, vI n, vI bb, vI xa, vI x, vI k, vI p, vI 1, v8], [vR (y + 13)], aq_h m s F c) _
    refine am_E.go (t2 := (72, [vR y, vI n, vI bb, vI xa, vI x, vI k, vI p, vI 1, v8], [vI p, vR (y + 13)], aq_h m s F c)) rfl rfl ?_
    refine am_E.go (t2 := (73, [vR y, vI n, vI bb, vI xa, vI x, vI k, vI p, vI 1, v8], [vI n, vI p, vR (y + 13)], aq_h m s F c)) rfl rfl ?_
    have g_1a := Int.emod_nonneg p (show n ≠ 0 by omega)
    have g_1b := Int.emod_lt_of_pos p (show 0 < n by omega)
    refine ae_bin (z := p % n) rfl rfl (am_rem_e (by omega) (by omega)) ?_
    refine am_E.go (t2 := (75, [vR y, vI n, vI bb, vI xa, vI x, vI k, vI p, vI 1, v8], [vI 1, vI (p % n), vR (y + 13)], aq_h m s F c)) rfl rfl ?_
    refine aq_as (kd := 1) rfl rfl (by omega) hG13 (by omega) (by omega) rfl rfl ?_
    show am_E _ (76, [vR y, vI n, vI bb, vI xa, vI x, vI k, vI p, vI 1, v8], [], aq_h m s F (aq_u c (y + 13) (p % n) 1)) _
    generalize hdc_2 : aq_u c (y + 13) (p % n) 1 = c_2
    have sc_2 := aq_smu hs hdc_2 hS13
    have wc_2 := dc_ac2 hw hdc_2
    refine am_E.go (t2 := (77, [vR y, vI n, vI bb, vI xa, vI x, vI k, vI p, vI 1, v8], [vR y], aq_h m s F c_2)) rfl rfl ?_
    refine aq_gf (v := vR (y + 1)) rfl (by omega) hFo (by decide) rfl ?_
    show am_E _ (80, [vR y, vI n, vI bb, vI xa, vI x, vI k, vI p, vI 1, v8], [vR (y + 1)], aq_h m s F c_2) _
    refine am_E.go (t2 := (81, [vR y, vI n, vI bb, vI xa, vI x, vI k, vI p, vI 1, v8], [vI xa, vR (y + 1)], aq_h m s F c_2)) rfl rfl ?_
    refine am_E.go (t2 := (83, [vR y, vI n, vI bb, vI xa, vI x, vI k, vI p, vI 1, v8], [vI p, vI xa, vR (y + 1)], aq_h m s F c_2)) rfl rfl ?_
    refine ae_add rfl (am_ri (by omega) (by omega)) ?_
    show am_E _ (84, [vR y, vI n, vI bb, vI xa, vI x, vI k, vI p, vI 1, v8], [vI (xa + p), vR (y + 1)], aq_h m s F c_2) _
    have e_t0 := hTt n bb p (by omega) (by omega) (by omega) (by omega) (by omega) (by omega)
    have e_f0 := hfi p (by omega) (by omega)
    refine aq_alt (ok := fun k => k == 0) rfl rfl (by omega) hT1 rfl (by omega) (by omega) ?_
    rw [hxa, e_t0, ← hxa]
    show am_E _ (85, [vR y, vI n, vI bb, vI xa, vI x, vI k, vI p, vI 1, v8], [vI (prt n bb p)], aq_h m s F c_2) _
    refine am_E.go (t2 := (87, [vR y, vI n, vI bb, vI xa, vI x, vI k, vI p, vI 1, vI (prt n bb p)], [], aq_h m s F c_2)) rfl rfl ?_
    refine am_E.go (t2 := (88, [vR y, vI n, vI bb, vI xa, vI x, vI k, vI p, vI 1, vI (prt n bb p)], [vR y], aq_h m s F c_2)) rfl rfl ?_
    refine aq_gf (v := vR (y + 13)) rfl (by omega) hFo (by decide) rfl ?_
    show am_E _ (91, [vR y, vI n, vI bb, vI xa, vI x, vI k, vI p, vI 1, vI (prt n bb p)], [vR (y + 13)], aq_h m s F c_2) _
    refine am_E.go (t2 := (93, [vR y, vI n, vI bb, vI xa, vI x, vI k, vI p, vI 1, vI (prt n bb p)], [vI (prt n bb p), vR (y + 13)], aq_h m s F c_2)) rfl rfl ?_
    refine am_E.go (t2 := (94, [vR y, vI n, vI bb, vI xa, vI x, vI k, vI p, vI 1, vI (prt n bb p)], [vI n, vI (prt n bb p), vR (y + 13)], aq_h m s F c_2)) rfl rfl ?_
    have g_3a := Int.emod_nonneg (prt n bb p) (show n ≠ 0 by omega)
    have g_3b := Int.emod_lt_of_pos (prt n bb p) (show 0 < n by omega)
    refine ae_bin (z := (prt n bb p) % n) rfl rfl (am_rem_e (by omega) (by omega)) ?_
    refine am_E.go (t2 := (96, [vR y, vI n, vI bb, vI xa, vI x, vI k, vI p, vI 1, vI (prt n bb p)], [vI 1, vI ((prt n bb p) % n), vR (y + 13)], aq_h m s F c_2)) rfl rfl ?_
    refine aq_as (kd := 1) rfl rfl (by omega) hG13 (by omega) (by omega) rfl rfl ?_
    show am_E _ (97, [vR y, vI n, vI bb, vI xa, vI x, vI k, vI p, vI 1, vI (prt n bb p)], [], aq_h m s F (aq_u c_2 (y + 13) ((prt n bb p) % n) 1)) _
    generalize hdc_4 : aq_u c_2 (y + 13) ((prt n bb p) % n) 1 = c_4
    have sc_4 := aq_smu sc_2 hdc_4 hS13
    have wc_4 := dc_ac2 wc_2 hdc_4
    refine am_E.go (t2 := (99, [vR y, vI n, vI bb, vI xa, vI x, vI k, vI p, vI 1, vI (prt n bb p)], [vI (prt n bb p)], aq_h m s F c_4)) rfl rfl ?_
    refine am_E.go (t2 := (100, [vR y, vI n, vI bb, vI xa, vI x, vI k, vI p, vI 1, vI (prt n bb p)], [vI n, vI (prt n bb p)], aq_h m s F c_4)) rfl rfl ?_
    refine ae_icmp rfl (fun (q_5 : n ≤ (prt n bb p)) => ?_) (fun (q_5 : (prt n bb p) < n) => ?_)
    · refine am_E.go (t2 := (112, [vR y, vI n, vI bb, vI xa, vI x, vI k, vI p, vI 1, vI (prt n bb p)], [vI (prt n bb p)], aq_h m s F c_4)) rfl rfl ?_
      refine am_E.go (t2 := (113, [vR y, vI n, vI bb, vI xa, vI x, vI k, vI p, vI 1, vI (prt n bb p)], [vI n, vI (prt n bb p)], aq_h m s F c_4)) rfl rfl ?_
      refine ae_sub rfl (am_ri (by omega) (by omega)) ?_
      show am_E _ (114, [vR y, vI n, vI bb, vI xa, vI x, vI k, vI p, vI 1, vI (prt n bb p)], [vI ((prt n bb p) - n)], aq_h m s F c_4) _
      refine am_E.go (t2 := (116, [vR y, vI n, vI bb, vI xa, vI x, vI k, vI ((prt n bb p) - n), vI 1, vI (prt n bb p)], [], aq_h m s F c_4)) rfl rfl ?_
      refine am_E.go (t2 := (118, [vR y, vI n, vI bb, vI xa, vI x, vI k, vI ((prt n bb p) - n), vI 1, vI (prt n bb p)], [vI ((prt n bb p) - n)], aq_h m s F c_4)) rfl rfl ?_
      refine am_E.go (t2 := (120, [vR y, vI n, vI bb, vI xa, vI x, vI k, vI ((prt n bb p) - n), vI 1, vI (prt n bb p)], [vI k, vI ((prt n bb p) - n)], aq_h m s F c_4)) rfl rfl ?_
      refine ae_icmp rfl (fun (q_6 : ((prt n bb p) - n) = k) => ?_) (fun (q_6 : ((prt n bb p) - n) ≠ k) => ?_)
      · refine am_E.go (t2 := (128, [vR y, vI n, vI bb, vI xa, vI x, vI k, vI ((prt n bb p) - n), vI 1, vI (prt n bb p)], [vI 0], aq_h m s F c_4)) rfl rfl ?_
        refine am_E.go (t2 := (130, [vR y, vI n, vI bb, vI xa, vI x, vI k, vI ((prt n bb p) - n), vI 0, vI (prt n bb p)], [], aq_h m s F c_4)) rfl rfl ?_
        refine am_E.go (t2 := (61, [vR y, vI n, vI bb, vI xa, vI x, vI k, vI ((prt n bb p) - n), vI 0, vI (prt n bb p)], [], aq_h m s F c_4)) rfl rfl ?_
        refine am_E.go (t2 := (63, [vR y, vI n, vI bb, vI xa, vI x, vI k, vI ((prt n bb p) - n), vI 0, vI (prt n bb p)], [vI 0], aq_h m s F c_4)) rfl rfl ?_
        refine am_E.go (t2 := (133, [vR y, vI n, vI bb, vI xa, vI x, vI k, vI ((prt n bb p) - n), vI 0, vI (prt n bb p)], [], aq_h m s F c_4)) rfl rfl ?_
        exact K0 ((prt n bb p) - n) (vI (prt n bb p)) c_4 sc_4 (by rw [← ht, rz_, if_pos (by rw [← show ((prt n bb p) - n) = ac_ n (prt n bb p) from (by unfold ac_; first | (rw [if_pos (by omega)]) | (rw [if_neg (by omega)]))]; omega)]; exact wc_4)
      · refine am_E.go (t2 := (124, [vR y, vI n, vI bb, vI xa, vI x, vI k, vI ((prt n bb p) - n), vI 1, vI (prt n bb p)], [vI 1], aq_h m s F c_4)) rfl rfl ?_
        refine am_E.go (t2 := (128, [vR y, vI n, vI bb, vI xa, vI x, vI k, vI ((prt n bb p) - n), vI 1, vI (prt n bb p)], [vI 1], aq_h m s F c_4)) rfl rfl ?_
        refine am_E.go (t2 := (130, [vR y, vI n, vI bb, vI xa, vI x, vI k, vI ((prt n bb p) - n), vI 1, vI (prt n bb p)], [], aq_h m s F c_4)) rfl rfl ?_
        refine am_E.go (t2 := (61, [vR y, vI n, vI bb, vI xa, vI x, vI k, vI ((prt n bb p) - n), vI 1, vI (prt n bb p)], [], aq_h m s F c_4)) rfl rfl ?_
        exact qy_rings_3 ⟨hm, hFo, hG5, hG6, hG7, hG8, hG9, hG10, hG11, hG12, hG13, hG14, hG15, hG16, hG17, hG18, hG19, hG20, hG21, hG22, hG23⟩ hS13 ⟨hT1, hTt⟩ hn1 hn4 hb0 hb1 hxa d (dc_u (dc_u w (p % n)) ((prt n bb p) % n)) x k ((prt n bb p) - n) (vI (prt n bb p)) c_4 sc_4 (by omega) (by omega) wc_4 (by have e9 := he (by unfold rc_s; first | (rw [if_pos (by omega)]; omega) | (rw [if_neg (by omega)]; omega)); unfold rc_s at e9; first | (rw [if_pos (by omega)] at e9; exact e9) | (rw [if_neg (by omega)] at e9; exact e9)) (by rw [show ((prt n bb p) - n) = ac_ n (prt n bb p) from (by unfold ac_; first | (rw [if_pos (by omega)]) | (rw [if_neg (by omega)])), ← ht, rz_, if_neg (by rw [← show ((prt n bb p) - n) = ac_ n (prt n bb p) from (by unfold ac_; first | (rw [if_pos (by omega)]) | (rw [if_neg (by omega)]))]; omega)]) K0
    · refine am_E.go (t2 := (105, [vR y, vI n, vI bb, vI xa, vI x, vI k, vI p, vI 1, vI (prt n bb p)], [vI (prt n bb p)], aq_h m s F c_4)) rfl rfl ?_
      refine am_E.go (t2 := (106, [vR y, vI n, vI bb, vI xa, vI x, vI k, vI p, vI 1, vI (prt n bb p)], [vI n, vI (prt n bb p)], aq_h m s F c_4)) rfl rfl ?_
      refine ae_add rfl (am_ri (by omega) (by omega)) ?_
      show am_E _ (107, [vR y, vI n, vI bb, vI xa, vI x, vI k, vI p, vI 1, vI (prt n bb p)], [vI ((prt n bb p) + n)], aq_h m s F c_4) _
      refine am_E.go (t2 := (114, [vR y, vI n, vI bb, vI xa, vI x, vI k, vI p, vI 1, vI (prt n bb p)], [vI ((prt n bb p) + n)], aq_h m s F c_4)) rfl rfl ?_
      refine am_E.go (t2 := (116, [vR y, vI n, vI bb, vI xa, vI x, vI k, vI ((prt n bb p) + n), vI 1, vI (prt n bb p)], [], aq_h m s F c_4)) rfl rfl ?_
      refine am_E.go (t2 := (118, [vR y, vI n, vI bb, vI xa, vI x, vI k, vI ((prt n bb p) + n), vI 1, vI (prt n bb p)], [vI ((prt n bb p) + n)], aq_h m s F c_4)) rfl rfl ?_
      refine am_E.go (t2 := (120, [vR y, vI n, vI bb, vI xa, vI x, vI k, vI ((prt n bb p) + n), vI 1, vI (prt n bb p)], [vI k, vI ((prt n bb p) + n)], aq_h m s F c_4)) rfl rfl ?_
      refine ae_icmp rfl (fun (q_7 : ((prt n bb p) + n) = k) => ?_) (fun (q_7 : ((prt n bb p) + n) ≠ k) => ?_)
      · refine am_E.go (t2 := (128, [vR y, vI n, vI bb, vI xa, vI x, vI k, vI ((prt n bb p) + n), vI 1, vI (prt n bb p)], [vI 0], aq_h m s F c_4)) rfl rfl ?_
        refine am_E.go (t2 := (130, [vR y, vI n, vI bb, vI xa, vI x, vI k, vI ((prt n bb p) + n), vI 0, vI (prt n bb p)], [], aq_h m s F c_4)) rfl rfl ?_
        refine am_E.go (t2 := (61, [vR y, vI n, vI bb, vI xa, vI x, vI k, vI ((prt n bb p) + n), vI 0, vI (prt n bb p)], [], aq_h m s F c_4)) rfl rfl ?_
        refine am_E.go (t2 := (63, [vR y, vI n, vI bb, vI xa, vI x, vI k, vI ((prt n bb p) + n), vI 0, vI (prt n bb p)], [vI 0], aq_h m s F c_4)) rfl rfl ?_
        refine am_E.go (t2 := (133, [vR y, vI n, vI bb, vI xa, vI x, vI k, vI ((prt n bb p) + n), vI 0, vI (prt n bb p)], [], aq_h m s F c_4)) rfl rfl ?_
        exact K0 ((prt n bb p) + n) (vI (prt n bb p)) c_4 sc_4 (by rw [← ht, rz_, if_pos (by rw [← show ((prt n bb p) + n) = ac_ n (prt n bb p) from (by unfold ac_; first | (rw [if_pos (by omega)]) | (rw [if_neg (by omega)]))]; omega)]; exact wc_4)
      · refine am_E.go (t2 := (124, [vR y, vI n, vI bb, vI xa, vI x, vI k, vI ((prt n bb p) + n), vI 1, vI (prt n bb p)], [vI 1], aq_h m s F c_4)) rfl rfl ?_
        refine am_E.go (t2 := (128, [vR y, vI n, vI bb, vI xa, vI x, vI k, vI ((prt n bb p) + n), vI 1, vI (prt n bb p)], [vI 1], aq_h m s F c_4)) rfl rfl ?_
        refine am_E.go (t2 := (130, [vR y, vI n, vI bb, vI xa, vI x, vI k, vI ((prt n bb p) + n), vI 1, vI (prt n bb p)], [], aq_h m s F c_4)) rfl rfl ?_
        refine am_E.go (t2 := (61, [vR y, vI n, vI bb, vI xa, vI x, vI k, vI ((prt n bb p) + n), vI 1, vI (prt n bb p)], [], aq_h m s F c_4)) rfl rfl ?_
        exact qy_rings_3 ⟨hm, hFo, hG5, hG6, hG7, hG8, hG9, hG10, hG11, hG12, hG13, hG14, hG15, hG16, hG17, hG18, hG19, hG20, hG21, hG22, hG23⟩ hS13 ⟨hT1, hTt⟩ hn1 hn4 hb0 hb1 hxa d (dc_u (dc_u w (p % n)) ((prt n bb p) % n)) x k ((prt n bb p) + n) (vI (prt n bb p)) c_4 sc_4 (by omega) (by omega) wc_4 (by have e9 := he (by unfold rc_s; first | (rw [if_pos (by omega)]; omega) | (rw [if_neg (by omega)]; omega)); unfold rc_s at e9; first | (rw [if_pos (by omega)] at e9; exact e9) | (rw [if_neg (by omega)] at e9; exact e9)) (by rw [show ((prt n bb p) + n) = ac_ n (prt n bb p) from (by unfold ac_; first | (rw [if_pos (by omega)]) | (rw [if_neg (by omega)])), ← ht, rz_, if_neg (by rw [← show ((prt n bb p) + n) = ac_ n (prt n bb p) from (by unfold ac_; first | (rw [if_pos (by omega)]) | (rw [if_neg (by omega)]))]; omega)]) K0

theorem qy_rings_2 {m s : Nat} {F : aq_F} {c0 : aq_C} {S : Nat → Prop} {y : Nat} (hO : mo_0 m F y) (hS13 : S (y + 13)) {tbl : Int → Int} (hT : mo_T F y tbl) {n bb : Int} (hn1 : 1 ≤ n) (hn4 : n ≤ 4) (hb0 : 0 ≤ bb) (hb1 : bb < bx_K n) {xa : Int} (hxa : xa = 8 * (mo_f n + bb)) {T : Int} : ∀ (d : Nat) (w : Int → Int) (x : Int) (k : Int) (v6 : am_V) (v7 : am_V) (v8 : am_V) (c : aq_C) (hs : aq_sm S c0 c) (h0 : 0 ≤ k) (h1 : k ≤ n) (h2 : 0 ≤ x) (h3 : x ≤ k) (hw : ∀ q, 0 ≤ q → q < 4 → c (y + 13) q = w q) (ht : ry_ n (prt n bb) d k x w = T) (hd : n - k < (d : Int)), am_E ac_X5_ringsClosed (35, [vR y, vI n, vI bb, vI xa, vI x, vI k, v6, v7, v8], [], aq_h m s F c) (aq_Z m s F S c0 (fun r d => r = some (vI T)))
  | 0, w, x, k, v6, v7, v8, c, hs, h0, h1, h2, h3, hw, ht, hd => by exfalso; omega
  | d + 1, w, x, k, v6, v7, v8, c, hs, h0, h1, h2, h3, hw, ht, hd => by
    obtain ⟨hm, hFo, hG5, hG6, hG7, hG8, hG9, hG10, hG11, hG12, hG13, hG14, hG15, hG16, hG17, hG18, hG19, hG20, hG21, hG22, hG23⟩ := hO
    obtain ⟨hT1, hTt⟩ := hT
    have hfs := mo_fs n
    have hfi := pr_fi hn1 hn4 hb0 hb1
    refine am_E.go (t2 := (37, [vR y, vI n, vI bb, vI xa, vI x, vI k, v6, v7, v8], [vI k], aq_h m s F c)) rfl rfl ?_
    refine am_E.go (t2 := (38, [vR y, vI n, vI bb, vI xa, vI x, vI k, v6, v7, v8], [vI n, vI k], aq_h m s F c)) rfl rfl ?_
    refine ae_icmp rfl (fun (q_1 : n ≤ k) => ?_) (fun (q_1 : k < n) => ?_)
    · refine am_E.go (t2 := (141, [vR y, vI n, vI bb, vI xa, vI x, vI k, v6, v7, v8], [vI x], aq_h m s F c)) rfl rfl ?_
      refine am_E.ret rfl rfl ?_
      refine ⟨_, rfl, hs, ?_⟩
      rw [← ht, ry_, if_neg (by omega)]
    · refine am_E.go (t2 := (42, [vR y, vI n, vI bb, vI xa, vI x, vI k, v6, v7, v8], [vR y], aq_h m s F c)) rfl rfl ?_
      refine aq_gf (v := vR (y + 13)) rfl (by omega) hFo (by decide) rfl ?_
      show am_E _ (45, [vR y, vI n, vI bb, vI xa, vI x, vI k, v6, v7, v8], [vR (y + 13)], aq_h m s F c) _
      refine am_E.go (t2 := (47, [vR y, vI n, vI bb, vI xa, vI x, vI k, v6, v7, v8], [vI k, vR (y + 13)], aq_h m s F c)) rfl rfl ?_
      refine aq_al (ok := fun k => k == 1) (v := vI (c (y + 13) k)) rfl rfl (by omega) hG13 rfl (by omega) (by omega) rfl ?_
      show am_E _ (48, [vR y, vI n, vI bb, vI xa, vI x, vI k, v6, v7, v8], [vI (c (y + 13) k)], aq_h m s F c) _
      have f_2 := hw k (by omega) (by omega)
      refine ae_if0 rfl (fun (q_3 : (c (y + 13) k) ≠ 0) => ?_) (fun (q_3 : (c (y + 13) k) = 0) => ?_)
      · refine ae_iinc rfl rfl (am_ri (by omega) (by omega)) ?_
        show am_E _ (136, [vR y, vI n, vI bb, vI xa, vI x, vI (k + 1), v6, v7, v8], [], aq_h m s F c) _
        refine am_E.go (t2 := (35, [vR y, vI n, vI bb, vI xa, vI x, vI (k + 1), v6, v7, v8], [], aq_h m s F c)) rfl rfl ?_
        exact qy_rings_2 ⟨hm, hFo, hG5, hG6, hG7, hG8, hG9, hG10, hG11, hG12, hG13, hG14, hG15, hG16, hG17, hG18, hG19, hG20, hG21, hG22, hG23⟩ hS13 ⟨hT1, hTt⟩ hn1 hn4 hb0 hb1 hxa d w x (k + 1) (v6) (v7) (v8) c hs (by omega) (by omega) (by omega) (by omega) hw (by rw [← ht, ry_, if_pos (by omega)]; first | rw [if_neg (by omega)] | rw [if_pos (by omega)]) (by omega)
      · refine ae_iinc rfl rfl (am_ri (by omega) (by omega)) ?_
        show am_E _ (54, [vR y, vI n, vI bb, vI xa, vI (x + 1), vI k, v6, v7, v8], [], aq_h m s F c) _
        refine am_E.go (t2 := (56, [vR y, vI n, vI bb, vI xa, vI (x + 1), vI k, v6, v7, v8], [vI k], aq_h m s F c)) rfl rfl ?_
        refine am_E.go (t2 := (58, [vR y, vI n, vI bb, vI xa, vI (x + 1), vI k, vI k, v7, v8], [], aq_h m s F c)) rfl rfl ?_
        refine am_E.go (t2 := (59, [vR y, vI n, vI bb, vI xa, vI (x + 1), vI k, vI k, v7, v8], [vI 1], aq_h m s F c)) rfl rfl ?_
        refine am_E.go (t2 := (61, [vR y, vI n, vI bb, vI xa, vI (x + 1), vI k, vI k, vI 1, v8], [], aq_h m s F c)) rfl rfl ?_
        refine qy_rings_3 ⟨hm, hFo, hG5, hG6, hG7, hG8, hG9, hG10, hG11, hG12, hG13, hG14, hG15, hG16, hG17, hG18, hG19, hG20, hG21, hG22, hG23⟩ hS13 ⟨hT1, hTt⟩ hn1 hn4 hb0 hb1 hxa 4 w (x + 1) k k (v8) c hs (by omega) (by omega) hw (rc_dn (rc_n hn1 hn4 hb0 hb1 h0 (by omega))) rfl ?_
        · intro p2_61 v82_61 c_4 sc_4 hw2_61
          refine ae_iinc rfl rfl (am_ri (by omega) (by omega)) ?_
          show am_E _ (136, [vR y, vI n, vI bb, vI xa, vI (x + 1), vI (k + 1), vI p2_61, vI 0, v82_61], [], aq_h m s F c_4) _
          refine am_E.go (t2 := (35, [vR y, vI n, vI bb, vI xa, vI (x + 1), vI (k + 1), vI p2_61, vI 0, v82_61], [], aq_h m s F c_4)) rfl rfl ?_
          exact qy_rings_2 ⟨hm, hFo, hG5, hG6, hG7, hG8, hG9, hG10, hG11, hG12, hG13, hG14, hG15, hG16, hG17, hG18, hG19, hG20, hG21, hG22, hG23⟩ hS13 ⟨hT1, hTt⟩ hn1 hn4 hb0 hb1 hxa d (rz_ n (prt n bb) k 4 k w) (x + 1) (k + 1) (vI p2_61) (vI 0) (v82_61) c_4 sc_4 (by omega) (by omega) (by omega) (by omega) hw2_61 (by rw [← ht, ry_, if_pos (by omega)]; first | rw [if_neg (by omega)] | rw [if_pos (by omega)]) (by omega)

theorem qy_rings_1 {m s : Nat} {F : aq_F} {c0 : aq_C} {S : Nat → Prop} {y : Nat} (hO : mo_0 m F y) (hS13 : S (y + 13)) {tbl : Int → Int} (hT : mo_T F y tbl) {n bb : Int} (hn1 : 1 ≤ n) (hn4 : n ≤ 4) (hb0 : 0 ≤ bb) (hb1 : bb < bx_K n) {xa : Int} (hxa : xa = 8 * (mo_f n + bb)) {T : Int} (hTW : ry_ n (prt n bb) 6 0 0 (fun _ => 0) = T) : ∀ (d : Nat) (k : Int) (v5 : am_V) (v6 : am_V) (v7 : am_V) (v8 : am_V) (c : aq_C) (hs : aq_sm S c0 c) (h0 : 0 ≤ k) (h1 : k ≤ 4) (hz : ∀ i, 0 ≤ i → i < k → c (y + 13) i = (fun _ => 0) i) (hd : 4 - k < (d : Int)), am_E ac_X5_ringsClosed (9, [vR y, vI n, vI bb, vI xa, vI k, v5, v6, v7, v8], [], aq_h m s F c) (aq_Z m s F S c0 (fun r d => r = some (vI T)))
  | 0, k, v5, v6, v7, v8, c, hs, h0, h1, hz, hd => by exfalso; omega
  | d + 1, k, v5, v6, v7, v8, c, hs, h0, h1, hz, hd => by
    obtain ⟨hm, hFo, hG5, hG6, hG7, hG8, hG9, hG10, hG11, hG12, hG13, hG14, hG15, hG16, hG17, hG18, hG19, hG20, hG21, hG22, hG23⟩ := hO
    obtain ⟨hT1, hTt⟩ := hT
    have hfs := mo_fs n
    have hfi := pr_fi hn1 hn4 hb0 hb1
    refine am_E.go (t2 := (11, [vR y, vI n, vI bb, vI xa, vI k, v5, v6, v7, v8], [vI k], aq_h m s F c)) rfl rfl ?_
    refine am_E.go (t2 := (12, [vR y, vI n, vI bb, vI xa, vI k, v5, v6, v7, v8], [vI 4, vI k], aq_h m s F c)) rfl rfl ?_
    refine ae_icmp rfl (fun (q_1 : 4 ≤ k) => ?_) (fun (q_1 : k < 4) => ?_)
    · refine am_E.go (t2 := (30, [vR y, vI n, vI bb, vI xa, vI k, v5, v6, v7, v8], [vI 0], aq_h m s F c)) rfl rfl ?_
      refine am_E.go (t2 := (32, [vR y, vI n, vI bb, vI xa, vI 0, v5, v6, v7, v8], [], aq_h m s F c)) rfl rfl ?_
      refine am_E.go (t2 := (33, [vR y, vI n, vI bb, vI xa, vI 0, v5, v6, v7, v8], [vI 0], aq_h m s F c)) rfl rfl ?_
      refine am_E.go (t2 := (35, [vR y, vI n, vI bb, vI xa, vI 0, vI 0, v6, v7, v8], [], aq_h m s F c)) rfl rfl ?_
      exact qy_rings_2 ⟨hm, hFo, hG5, hG6, hG7, hG8, hG9, hG10, hG11, hG12, hG13, hG14, hG15, hG16, hG17, hG18, hG19, hG20, hG21, hG22, hG23⟩ hS13 ⟨hT1, hTt⟩ hn1 hn4 hb0 hb1 hxa 6 (fun _ => 0) 0 0 (v6) (v7) (v8) c hs (by omega) (by omega) (by omega) (by omega) (fun q q0 q1 => hz q q0 (by omega)) hTW (by omega)
    · refine am_E.go (t2 := (16, [vR y, vI n, vI bb, vI xa, vI k, v5, v6, v7, v8], [vR y], aq_h m s F c)) rfl rfl ?_
      refine aq_gf (v := vR (y + 13)) rfl (by omega) hFo (by decide) rfl ?_
      show am_E _ (19, [vR y, vI n, vI bb, vI xa, vI k, v5, v6, v7, v8], [vR (y + 13)], aq_h m s F c) _
      refine am_E.go (t2 := (21, [vR y, vI n, vI bb, vI xa, vI k, v5, v6, v7, v8], [vI k, vR (y + 13)], aq_h m s F c)) rfl rfl ?_
      refine am_E.go (t2 := (22, [vR y, vI n, vI bb, vI xa, vI k, v5, v6, v7, v8], [vI 0, vI k, vR (y + 13)], aq_h m s F c)) rfl rfl ?_
      refine aq_as (kd := 1) rfl rfl (by omega) hG13 (by omega) (by omega) rfl rfl ?_
      show am_E _ (23, [vR y, vI n, vI bb, vI xa, vI k, v5, v6, v7, v8], [], aq_h m s F (aq_u c (y + 13) k 0)) _
      generalize hdc_2 : aq_u c (y + 13) k 0 = c_2
      have sc_2 := aq_smu hs hdc_2 hS13
      refine ae_iinc rfl rfl (am_ri (by omega) (by omega)) ?_
      show am_E _ (26, [vR y, vI n, vI bb, vI xa, vI (k + 1), v5, v6, v7, v8], [], aq_h m s F c_2) _
      refine am_E.go (t2 := (9, [vR y, vI n, vI bb, vI xa, vI (k + 1), v5, v6, v7, v8], [], aq_h m s F c_2)) rfl rfl ?_
      exact qy_rings_1 ⟨hm, hFo, hG5, hG6, hG7, hG8, hG9, hG10, hG11, hG12, hG13, hG14, hG15, hG16, hG17, hG18, hG19, hG20, hG21, hG22, hG23⟩ hS13 ⟨hT1, hTt⟩ hn1 hn4 hb0 hb1 hxa hTW d (k + 1) (v5) (v6) (v7) (v8) c_2 sc_2 (by omega) (by omega) (aq_fl hz hdc_2 rfl) (by omega)

theorem qy_mrings {m s : Nat} {F : aq_F} {c : aq_C} {S : Nat → Prop} {y : Nat} (hO : mo_0 m F y) (hS13 : S (y + 13)) {tbl : Int → Int} (hT : mo_T F y tbl) {n bb : Int} (hn1 : 1 ≤ n) (hn4 : n ≤ 4) (hb0 : 0 ≤ bb) (hb1 : bb < bx_K n) : am_E ac_X5_ringsClosed (0, [vR y, vI n, vI bb, vU, vU, vU, vU, vU, vU], [], aq_h m s F c) (aq_Z m s F S c (fun r d => r = some (vI (ry_ n (prt n bb) 6 0 0 (fun _ => 0))))) := by
  obtain ⟨hm, hFo, hG5, hG6, hG7, hG8, hG9, hG10, hG11, hG12, hG13, hG14, hG15, hG16, hG17, hG18, hG19, hG20, hG21, hG22, hG23⟩ := hO
  obtain ⟨hT1, hTt⟩ := hT
  have hfs := mo_fs n
  have hfi := pr_fi hn1 hn4 hb0 hb1
  refine am_E.go (t2 := (1, [vR y, vI n, vI bb, vU, vU, vU, vU, vU, vU], [vI n], aq_h m s F c)) rfl rfl ?_
  refine am_E.go (t2 := (2, [vR y, vI n, vI bb, vU, vU, vU, vU, vU, vU], [vI bb, vI n], aq_h m s F c)) rfl rfl ?_
  refine am_E.call rfl rfl rfl (Nat.le_of_ble_eq_true rfl) (qm_at (by omega) (by omega)) ?_
  rintro r5 h5 ⟨rfl, xa, rfl, hxa⟩
  show am_E _ (5, [vR y, vI n, vI bb, vU, vU, vU, vU, vU, vU], [vI xa], aq_h m s F c) _
  refine am_E.go (t2 := (6, [vR y, vI n, vI bb, vI xa, vU, vU, vU, vU, vU], [], aq_h m s F c)) rfl rfl ?_
  refine am_E.go (t2 := (7, [vR y, vI n, vI bb, vI xa, vU, vU, vU, vU, vU], [vI 0], aq_h m s F c)) rfl rfl ?_
  refine am_E.go (t2 := (9, [vR y, vI n, vI bb, vI xa, vI 0, vU, vU, vU, vU], [], aq_h m s F c)) rfl rfl ?_
  exact qy_rings_1 ⟨hm, hFo, hG5, hG6, hG7, hG8, hG9, hG10, hG11, hG12, hG13, hG14, hG15, hG16, hG17, hG18, hG19, hG20, hG21, hG22, hG23⟩ hS13 ⟨hT1, hTt⟩ hn1 hn4 hb0 hb1 hxa rfl 6 0 (vU) (vU) (vU) (vU) c aq_sm0 (by omega) (by omega) (fun i h1 h2 => absurd h2 (by omega)) (by omega)
/-- a sum: size, boxes, powers, factors -/
abbrev sm_ : Type := Int × (Int → Int) × (Int → Int) × (Int → Int)
/-- the first place whose term is not less than (b, p) -/
def sm_p (B P : Int → Int) (z b p : Int) : Nat → Int → Int
  | 0, i => i
  | d + 1, i => if i < z ∧ (B i < b ∨ (B i = b ∧ P i < p)) then sm_p B P z b p d (i + 1) else i
def sm_i (f : Int → Int) (k x : Int) : Int → Int := fun i => if i < k then f i else if i = k then x else f (i - 1)
def sm_d (f : Int → Int) (k : Int) : Int → Int := fun i => if i < k then f i else f (i + 1)
def sm_s (f : Int → Int) (k x : Int) : Int → Int := fun i => if i = k then x else f i
abbrev sm_ok (f : Int) : Prop := -1000000000000 ≤ f ∧ f ≤ 1000000000000
/-- join: none where the document says HIGH -/
def sm_j (t : sm_) (b p f : Int) : Option sm_ :=
  let k := sm_p t.2.1 t.2.2.1 t.1 b p 41 0
  if k < t.1 ∧ t.2.1 k = b ∧ t.2.2.1 k = p then
    (if sm_ok (t.2.2.2 k + f) then (if t.2.2.2 k + f = 0 then some (t.1 - 1, sm_d t.2.1 k, sm_d t.2.2.1 k, sm_d t.2.2.2 k) else some (t.1, t.2.1, t.2.2.1, sm_s t.2.2.2 k (t.2.2.2 k + f))) else none)
  else if f = 0 then some t
  else if 40 ≤ t.1 then none
  else some (t.1 + 1, sm_i t.2.1 k b, sm_i t.2.2.1 k p, sm_i t.2.2.2 k f)
/-- the same sum -/
def sm_e (t u : sm_) : Prop := t.1 = u.1 ∧ ∀ i, 0 ≤ i → i < t.1 → t.2.1 i = u.2.1 i ∧ t.2.2.1 i = u.2.2.1 i ∧ t.2.2.2 i = u.2.2.2 i
/-- well made: in order, no factor 0 -/
def sm_w (K : Int) (t : sm_) : Prop := 0 ≤ t.1 ∧ t.1 ≤ 40 ∧ (∀ i, 0 ≤ i → i < t.1 → (0 ≤ t.2.1 i ∧ t.2.1 i < K) ∧ (0 ≤ t.2.2.1 i ∧ t.2.2.1 i ≤ 20) ∧ sm_ok (t.2.2.2 i) ∧ t.2.2.2 i ≠ 0) ∧ ∀ i, 0 ≤ i → i + 1 < t.1 → t.2.1 i < t.2.1 (i + 1) ∨ (t.2.1 i = t.2.1 (i + 1) ∧ t.2.2.1 i < t.2.2.1 (i + 1))
theorem sm_pb {B P : Int → Int} {z b p : Int} : ∀ (d : Nat) (i : Int), i ≤ z → i ≤ sm_p B P z b p d i ∧ sm_p B P z b p d i ≤ z
  | 0, i, h => ⟨Int.le_refl _, h⟩
  | d + 1, i, h => by
    rw [sm_p]
    split
    · rename_i e
      have := sm_pb (B := B) (P := P) (z := z) (b := b) (p := p) d (i + 1) (by omega)
      omega
    · omega
/-- all before the place are less; the one at the place is not -/
theorem sm_pl {B P : Int → Int} {z b p : Int} : ∀ (d : Nat) (i : Int), i ≤ z → z - i < (d : Int) → (∀ j, i ≤ j → j < sm_p B P z b p d i → B j < b ∨ (B j = b ∧ P j < p)) ∧ (sm_p B P z b p d i < z → ¬ (B (sm_p B P z b p d i) < b ∨ (B (sm_p B P z b p d i) = b ∧ P (sm_p B P z b p d i) < p)))
  | 0, i, h, hd => by exfalso; omega
  | d + 1, i, h, hd => by
    rw [sm_p]
    by_cases e : i < z ∧ (B i < b ∨ (B i = b ∧ P i < p))
    · rw [if_pos e]
      have k := sm_pl (B := B) (P := P) (z := z) (b := b) (p := p) d (i + 1) (by omega) (by omega)
      refine ⟨fun j j0 j1 => ?_, k.2⟩
      by_cases ej : j = i
      · rw [ej]; exact e.2
      · exact k.1 j (by omega) j1
    · rw [if_neg e]
      exact ⟨fun j j0 j1 => absurd j1 (by omega), fun q q2 => e ⟨q, q2⟩⟩
theorem sm_pc {B P B2 P2 : Int → Int} {z b p : Int} (h : ∀ i, 0 ≤ i → i < z → B i = B2 i ∧ P i = P2 i) : ∀ (d : Nat) (i : Int), 0 ≤ i → sm_p B P z b p d i = sm_p B2 P2 z b p d i
  | 0, i, _ => rfl
  | d + 1, i, h0 => by
    rw [sm_p, sm_p]
    by_cases e : i < z
    · have k := h i h0 e
      rw [k.1, k.2, sm_pc h d (i + 1) (by omega)]
    · rw [if_neg (fun q => e q.1), if_neg (fun q => e q.1)]
/-- joining to the same sum gives the same -/
theorem sm_jc {t u : sm_} {b p f : Int} (h : sm_e t u) (h0 : 0 ≤ t.1) : (sm_j t b p f = none ↔ sm_j u b p f = none) ∧ ∀ t2 u2, sm_j t b p f = some t2 → sm_j u b p f = some u2 → sm_e t2 u2 := by
  obtain ⟨z, B, P, Q⟩ := t
  obtain ⟨z2, B2, P2, Q2⟩ := u
  obtain ⟨hz, hh⟩ := h
  simp only at hz hh h0
  subst hz
  have ek : sm_p B P z b p 41 0 = sm_p B2 P2 z b p 41 0 := sm_pc (fun i i0 i1 => ⟨(hh i i0 i1).1, (hh i i0 i1).2.1⟩) 41 0 (by omega)
  have kb := sm_pb (B := B2) (P := P2) (z := z) (b := b) (p := p) 41 0 h0
  unfold sm_j
  simp only [ek]
  generalize sm_p B2 P2 z b p 41 0 = k at kb ⊢
  by_cases e : k < z
  · have q := hh k kb.1 e
    rw [q.1, q.2.1, q.2.2]
    refine ⟨by (repeat' split) <;> simp, fun t2 u2 e1 e2 => ?_⟩
    by_cases c1 : k < z ∧ B2 k = b ∧ P2 k = p
    · rw [if_pos c1] at e1 e2
      by_cases c2 : sm_ok (Q2 k + f)
      · rw [if_pos c2] at e1 e2
        by_cases c3 : Q2 k + f = 0
        · rw [if_pos c3] at e1 e2
          obtain rfl := Option.some.inj e1
          obtain rfl := Option.some.inj e2
          refine ⟨rfl, fun i i0 i1 => ?_⟩
          simp only at i1
          unfold sm_d
          simp only
          split
          · exact hh i i0 (by omega)
          · exact hh (i + 1) (by omega) (by omega)
        · rw [if_neg c3] at e1 e2
          obtain rfl := Option.some.inj e1
          obtain rfl := Option.some.inj e2
          refine ⟨rfl, fun i i0 i1 => ?_⟩
          have := hh i i0 i1
          unfold sm_s
          simp only
          refine ⟨this.1, this.2.1, ?_⟩
          split
          · rfl
          · exact this.2.2
      · rw [if_neg c2] at e1
        exact absurd e1 (by simp)
    · rw [if_neg c1] at e1 e2
      by_cases c4 : f = 0
      · rw [if_pos c4] at e1 e2
        obtain rfl := Option.some.inj e1
        obtain rfl := Option.some.inj e2
        exact ⟨rfl, hh⟩
      · rw [if_neg c4] at e1 e2
        by_cases c5 : 40 ≤ z
        · rw [if_pos c5] at e1
          exact absurd e1 (by simp)
        · rw [if_neg c5] at e1 e2
          obtain rfl := Option.some.inj e1
          obtain rfl := Option.some.inj e2
          refine ⟨rfl, fun i i0 i1 => ?_⟩
          simp only at i1
          unfold sm_i
          simp only
          split
          · exact hh i i0 (by omega)
          · split
            · exact ⟨rfl, rfl, rfl⟩
            · exact hh (i - 1) (by omega) (by omega)
  · have c1 : ¬ (k < z ∧ B k = b ∧ P k = p) := fun q => e q.1
    have c1' : ¬ (k < z ∧ B2 k = b ∧ P2 k = p) := fun q => e q.1
    rw [if_neg c1, if_neg c1']
    refine ⟨by (repeat' split) <;> simp, fun t2 u2 e1 e2 => ?_⟩
    by_cases c4 : f = 0
    · rw [if_pos c4] at e1 e2
      obtain rfl := Option.some.inj e1
      obtain rfl := Option.some.inj e2
      exact ⟨rfl, hh⟩
    · rw [if_neg c4] at e1 e2
      by_cases c5 : 40 ≤ z
      · rw [if_pos c5] at e1
        exact absurd e1 (by simp)
      · rw [if_neg c5] at e1 e2
        obtain rfl := Option.some.inj e1
        obtain rfl := Option.some.inj e2
        refine ⟨rfl, fun i i0 i1 => ?_⟩
        simp only at i1
        unfold sm_i
        simp only
        split
        · exact hh i i0 (by omega)
        · split
          · exact ⟨rfl, rfl, rfl⟩
          · exact hh (i - 1) (by omega) (by omega)
/-- less, in the order of terms -/
def sm_l (b p b2 p2 : Int) : Prop := b < b2 ∨ (b = b2 ∧ p < p2)
theorem sm_mono {K : Int} {t : sm_} (h : sm_w K t) : ∀ (d : Nat) (i : Int), 0 ≤ i → i + 1 + (d : Int) < t.1 → sm_l (t.2.1 i) (t.2.2.1 i) (t.2.1 (i + 1 + (d : Int))) (t.2.2.1 (i + 1 + (d : Int)))
  | 0, i, i0, i1 => by
    have := h.2.2.2 i i0 (by omega)
    rw [show i + 1 + ((0 : Nat) : Int) = i + 1 by omega]
    exact this
  | d + 1, i, i0, i1 => by
    have a := sm_mono h d i i0 (by omega)
    have b := h.2.2.2 (i + 1 + (d : Int)) (by omega) (by omega)
    rw [show i + 1 + ((d + 1 : Nat) : Int) = i + 1 + (d : Int) + 1 by omega]
    unfold sm_l at *
    omega
theorem sm_lt {K : Int} {t : sm_} (h : sm_w K t) {i j : Int} (i0 : 0 ≤ i) (ij : i < j) (j1 : j < t.1) : sm_l (t.2.1 i) (t.2.2.1 i) (t.2.1 j) (t.2.2.1 j) := by
  have := sm_mono h (j - i - 1).toNat i i0 (by omega)
  rw [show i + 1 + (((j - i - 1).toNat : Nat) : Int) = j by omega] at this
  exact this
theorem sm_jw {K b p f : Int} {t t2 : sm_} (hw : sm_w K t) (hb0 : 0 ≤ b) (hbK : b < K) (hp0 : 0 ≤ p) (hp1 : p ≤ 20) (hf : sm_ok f) (h : sm_j t b p f = some t2) : sm_w K t2 := by
  obtain ⟨z, B, P, Q⟩ := t
  have kb := sm_pb (B := B) (P := P) (z := z) (b := b) (p := p) 41 0 hw.1
  have kl := sm_pl (B := B) (P := P) (z := z) (b := b) (p := p) 41 0 hw.1 (by have := hw.2.1; simp only at this; omega)
  have hlt : ∀ i j, 0 ≤ i → i < j → j < z → sm_l (B i) (P i) (B j) (P j) := fun i j i0 ij j1 => sm_lt hw i0 ij j1
  obtain ⟨w1, w2, w3, w4⟩ := hw
  simp only at w1 w2 w3 w4
  unfold sm_j at h
  simp only at h
  generalize sm_p B P z b p 41 0 = k at kb kl h
  by_cases c1 : k < z ∧ B k = b ∧ P k = p
  · rw [if_pos c1] at h
    by_cases c2 : sm_ok (Q k + f)
    · rw [if_pos c2] at h
      by_cases c3 : Q k + f = 0
      · rw [if_pos c3] at h
        obtain rfl := Option.some.inj h
        refine ⟨by show 0 ≤ z - 1; omega, by show z - 1 ≤ 40; omega, fun i i0 i1 => ?_, fun i i0 i1 => ?_⟩
        · simp only at i1 ⊢
          unfold sm_d
          split
          · exact w3 i i0 (by omega)
          · exact w3 (i + 1) (by omega) (by omega)
        · simp only at i1 ⊢
          unfold sm_d
          have a1 := hlt i (i + 1) i0 (by omega) (by omega)
          have a2 := hlt i (i + 1 + 1) i0 (by omega) (by omega)
          have a3 := hlt (i + 1) (i + 1 + 1) (by omega) (by omega) (by omega)
          unfold sm_l at a1 a2 a3
          (repeat' split) <;> omega
      · rw [if_neg c3] at h
        obtain rfl := Option.some.inj h
        refine ⟨w1, w2, fun i i0 i1 => ?_, w4⟩
        have := w3 i i0 i1
        simp only
        unfold sm_s
        refine ⟨this.1, this.2.1, ?_⟩
        split
        · exact ⟨c2, c3⟩
        · exact this.2.2
    · rw [if_neg c2] at h
      exact absurd h (by simp)
  · rw [if_neg c1] at h
    by_cases c4 : f = 0
    · rw [if_pos c4] at h
      obtain rfl := Option.some.inj h
      exact ⟨w1, w2, w3, w4⟩
    · rw [if_neg c4] at h
      by_cases c5 : 40 ≤ z
      · rw [if_pos c5] at h
        exact absurd h (by simp)
      · rw [if_neg c5] at h
        obtain rfl := Option.some.inj h
        refine ⟨by show 0 ≤ z + 1; omega, by show z + 1 ≤ 40; omega, fun i i0 i1 => ?_, fun i i0 i1 => ?_⟩
        · simp only at i1 ⊢
          unfold sm_i
          split
          · exact w3 i i0 (by omega)
          · split
            · exact ⟨⟨hb0, hbK⟩, ⟨hp0, hp1⟩, hf, c4⟩
            · exact w3 (i - 1) (by omega) (by omega)
        · simp only at i1 ⊢
          unfold sm_i
          by_cases e1 : i + 1 < k
          · rw [if_pos (show i < k by omega), if_pos e1, if_pos (show i < k by omega), if_pos e1]
            exact w4 i i0 (by omega)
          · by_cases e2 : i + 1 = k
            · rw [if_pos (show i < k by omega), if_neg e1, if_pos e2, if_pos (show i < k by omega), if_neg e1, if_pos e2]
              exact kl.1 i i0 (by omega)
            · by_cases e3 : i = k
              · rw [if_neg (show ¬ i < k by omega), if_pos e3, if_neg e1, if_neg e2, if_neg (show ¬ i < k by omega), if_pos e3, if_neg e1, if_neg e2, show i + 1 - 1 = k by omega]
                have a1 := kl.2 (by omega)
                omega
              · rw [if_neg (show ¬ i < k by omega), if_neg e3, if_neg e1, if_neg e2, if_neg (show ¬ i < k by omega), if_neg e3, if_neg e1, if_neg e2, show i + 1 - 1 = (i - 1) + 1 by omega]
                exact w4 (i - 1) (by omega) (by omega)
/-- the first i terms of a well made sum, and the next one: the first i + 1 -/
theorem sm_ja {K i : Int} {t u : sm_} (hw : sm_w K t) (i0 : 0 ≤ i) (i1 : i < t.1) (hu : u.1 = i) (he : ∀ j, 0 ≤ j → j < i → u.2.1 j = t.2.1 j ∧ u.2.2.1 j = t.2.2.1 j ∧ u.2.2.2 j = t.2.2.2 j) : ∃ u2, sm_j u (t.2.1 i) (t.2.2.1 i) (t.2.2.2 i) = some u2 ∧ u2.1 = i + 1 ∧ ∀ j, 0 ≤ j → j < i + 1 → u2.2.1 j = t.2.1 j ∧ u2.2.2.1 j = t.2.2.1 j ∧ u2.2.2.2 j = t.2.2.2 j := by
  obtain ⟨z, B, P, Q⟩ := u
  simp only at hu he
  subst hu
  have hz := hw.2.1
  have kb := sm_pb (B := B) (P := P) (z := z) (b := t.2.1 z) (p := t.2.2.1 z) 41 0 i0
  have kl := sm_pl (B := B) (P := P) (z := z) (b := t.2.1 z) (p := t.2.2.1 z) 41 0 i0 (by omega)
  unfold sm_j
  simp only
  generalize sm_p B P z (t.2.1 z) (t.2.2.1 z) 41 0 = k at kb kl ⊢
  have ek : k = z := by
    by_cases e : k < z
    · exfalso
      have a := sm_lt hw kb.1 e i1
      have q := he k kb.1 e
      have a2 := kl.2 e
      rw [q.1, q.2.1] at a2
      exact a2 a
    · omega
  have hn := (hw.2.2.1 z i0 i1).2.2.2
  rw [if_neg (fun q => by omega), if_neg hn, if_neg (by omega)]
  refine ⟨_, rfl, rfl, fun j j0 j1 => ?_⟩
  unfold sm_i
  simp only
  by_cases e : j < k
  · rw [if_pos e, if_pos e, if_pos e]
    exact he j j0 (by omega)
  · have ej : j = k := by omega
    rw [if_neg e, if_neg e, if_neg e, if_pos ej, if_pos ej, if_pos ej, ej, ek]
    exact ⟨rfl, rfl, rfl⟩

/-- the sum at a -/
def su_v (a : Nat) (c : aq_C) : sm_ := (c a 1, c (a + 1), c (a + 2), c (a + 3))

theorem qx_change {m s : Nat} {F : aq_F} {c : aq_C} {a : Nat} (hA : su_0 m F a) {i f : Int} (h0 : 0 ≤ i) (h1 : i < c a 1) (hk2 : c a 1 ≤ 40) : am_E ac_X3_change (0, [vR a, vI i, vL f, vU], [], aq_h m s F c) (aq_Z m s F (fun b => b = a ∨ b = a + 1 ∨ b = a + 2 ∨ b = a + 3) c (fun r d => ∃ v, r = some (vI v) ∧ d a 0 = c a 0 ∧ ((¬ sm_ok f ∧ v = 0 ∧ sm_e (su_v a c) (su_v a d)) ∨ (sm_ok f ∧ f = 0 ∧ v = 1 ∧ sm_e (c a 1 - 1, sm_d (c (a + 1)) i, sm_d (c (a + 2)) i, sm_d (c (a + 3)) i) (su_v a d)) ∨ (sm_ok f ∧ f ≠ 0 ∧ v = 1 ∧ sm_e (c a 1, c (a + 1), c (a + 2), sm_s (c (a + 3)) i f) (su_v a d))))) := by
  obtain ⟨hma, hFa, hFn, hFp, hFf⟩ := hA
  refine am_E.go (t2 := (1, [vR a, vI i, vL f, vU], [vL f], aq_h m s F c)) rfl rfl ?_
  refine am_E.call rfl rfl rfl (Nat.le_of_ble_eq_true rfl) (qn_X3_isFactor) ?_
  rintro r5 h5 ⟨rfl, v_1, rfl, hv_1⟩
  show am_E _ (4, [vR a, vI i, vL f, vU], [vI v_1], aq_h m s F c) _
  refine ae_if0 rfl (fun (q_2 : v_1 ≠ 0) => ?_) (fun (q_2 : v_1 = 0) => ?_)
  · refine am_E.go (t2 := (10, [vR a, vI i, vL f, vU], [vL f], aq_h m s F c)) rfl rfl ?_
    refine am_E.go (t2 := (11, [vR a, vI i, vL f, vU], [vL 0, vL f], aq_h m s F c)) rfl rfl ?_
    have ez_3 := am_lcf f 0
    refine am_E.go (t2 := (12, [vR a, vI i, vL f, vU], [vI (if f < 0 then -1 else if f = 0 then 0 else 1)], aq_h m s F c)) rfl rfl ?_
    generalize (if f < 0 then -1 else if f = 0 then 0 else 1) = z_3 at ez_3 ⊢
    refine ae_if0 rfl (fun (q_4 : z_3 ≠ 0) => ?_) (fun (q_4 : z_3 = 0) => ?_)
    · refine am_E.go (t2 := (37, [vR a, vI i, vL f, vU], [vR a], aq_h m s F c)) rfl rfl ?_
      refine aq_gf (v := vR (a + 3)) rfl (by omega) hFa (by decide) rfl ?_
      show am_E _ (40, [vR a, vI i, vL f, vU], [vR (a + 3)], aq_h m s F c) _
      refine am_E.go (t2 := (41, [vR a, vI i, vL f, vU], [vI i, vR (a + 3)], aq_h m s F c)) rfl rfl ?_
      refine am_E.go (t2 := (42, [vR a, vI i, vL f, vU], [vL f, vI i, vR (a + 3)], aq_h m s F c)) rfl rfl ?_
      refine aq_asl rfl rfl (by omega) hFf (by omega) (by omega) rfl ?_
      show am_E _ (43, [vR a, vI i, vL f, vU], [], aq_h m s F (aq_u c (a + 3) i f)) _
      generalize hdc_5 : aq_u c (a + 3) i f = c_5
      have sc_5 := aq_smu (aq_sm0 (S := (fun b => b = a ∨ b = a + 1 ∨ b = a + 2 ∨ b = a + 3))) hdc_5 (Or.inr (Or.inr (Or.inr rfl)))
      refine am_E.go (t2 := (44, [vR a, vI i, vL f, vU], [vI 1], aq_h m s F c_5)) rfl rfl ?_
      refine am_E.ret rfl rfl ?_
      refine ⟨_, rfl, sc_5, 1, rfl, by rw [← hdc_5, aq_un (Or.inl (by omega))], Or.inr (Or.inr ⟨by unfold sm_ok; omega, by omega, rfl, by show c a 1 = c_5 a 1; rw [← hdc_5, aq_un (Or.inl (by omega))], fun j j0 j1 => ?_⟩)⟩
      unfold su_v sm_s
      simp only
      rw [← hdc_5, aq_un (Or.inl (by omega)), aq_un (Or.inl (by omega))]
      refine ⟨rfl, rfl, ?_⟩
      by_cases e5 : j = i
      · rw [if_pos e5, e5, aq_us]
      · rw [if_neg e5, aq_un (Or.inr e5)]
    · refine am_E.go (t2 := (16, [vR a, vI i, vL f, vU], [vR a], aq_h m s F c)) rfl rfl ?_
      refine am_E.go (t2 := (17, [vR a, vI i, vL f, vU], [vI i, vR a], aq_h m s F c)) rfl rfl ?_
      refine am_E.go (t2 := (18, [vR a, vI i, vL f, vU], [vI 1, vI i, vR a], aq_h m s F c)) rfl rfl ?_
      refine ae_add rfl (am_ri (by omega) (by omega)) ?_
      show am_E _ (19, [vR a, vI i, vL f, vU], [vI (i + 1), vR a], aq_h m s F c) _
      refine am_E.go (t2 := (20, [vR a, vI i, vL f, vU], [vI i, vI (i + 1), vR a], aq_h m s F c)) rfl rfl ?_
      refine aq_callv (y := 3) (as2 := [vI (i + 1), vI i]) (rest := []) rfl rfl (by decide) (Nat.le_of_ble_eq_true rfl) rfl rfl (Nat.le_of_ble_eq_true rfl) (by omega) hFa rfl (Nat.le_of_ble_eq_true rfl) (qn_X3_moveTail ⟨hma, hFa, hFn, hFp, hFf⟩ (by omega) (by omega) (by omega) (by omega) (by omega)) ?_
      rintro r5 h5 ⟨c_mt, rfl, sc_mt, rfl, m1, m2, m3⟩
      show am_E _ (23, [vR a, vI i, vL f, vU], [], aq_h m s F c_mt) _
      refine am_E.go (t2 := (24, [vR a, vI i, vL f, vU], [vR a], aq_h m s F c_mt)) rfl rfl ?_
      refine am_E.go (t2 := (25, [vR a, vI i, vL f, vU], [vR a, vR a], aq_h m s F c_mt)) rfl rfl ?_
      refine aq_gf (v := vI (c_mt a 1)) rfl (by omega) hFa (by decide) rfl ?_
      show am_E _ (28, [vR a, vI i, vL f, vU], [vI (c_mt a 1), vR a], aq_h m s F c_mt) _
      have f_6 := sc_mt a (by omega) 1
      refine am_E.go (t2 := (29, [vR a, vI i, vL f, vU], [vI 1, vI (c_mt a 1), vR a], aq_h m s F c_mt)) rfl rfl ?_
      refine ae_sub rfl (am_ri (by omega) (by omega)) ?_
      show am_E _ (30, [vR a, vI i, vL f, vU], [vI ((c_mt a 1) - 1), vR a], aq_h m s F c_mt) _
      refine aq_pf rfl (by omega) hFa (by decide) rfl rfl ?_
      show am_E _ (33, [vR a, vI i, vL f, vU], [], aq_h m s F (aq_u c_mt a 1 ((c_mt a 1) - 1))) _
      generalize hdc_7 : aq_u c_mt a 1 ((c_mt a 1) - 1) = c_7
      have sc_7 := aq_smu (aq_smt (aq_sm0 (S := (fun b => b = a ∨ b = a + 1 ∨ b = a + 2 ∨ b = a + 3))) (aq_smi sc_mt (fun b h => Or.inr h))) hdc_7 (Or.inl rfl)
      refine am_E.go (t2 := (43, [vR a, vI i, vL f, vU], [], aq_h m s F c_7)) rfl rfl ?_
      refine am_E.go (t2 := (44, [vR a, vI i, vL f, vU], [vI 1], aq_h m s F c_7)) rfl rfl ?_
      refine am_E.ret rfl rfl ?_
      have g1 : c_7 a 1 = c a 1 - 1 := by rw [← hdc_7, aq_us, sc_mt a (by omega) 1]
      have g0 : c_7 a 0 = c a 0 := by rw [← hdc_7, aq_un (Or.inr (by omega)), sc_mt a (by omega) 0]
      refine ⟨_, rfl, sc_7, 1, rfl, g0, Or.inr (Or.inl ⟨by unfold sm_ok; omega, by omega, rfl, g1.symm, fun j j0 j1 => ?_⟩)⟩
      simp only at j1
      unfold su_v sm_d
      simp only
      have n1 : c_7 (a + 1) j = c_mt (a + 1) j := by rw [← hdc_7, aq_un (Or.inl (by omega))]
      have n2 : c_7 (a + 2) j = c_mt (a + 2) j := by rw [← hdc_7, aq_un (Or.inl (by omega))]
      have n3 : c_7 (a + 3) j = c_mt (a + 3) j := by rw [← hdc_7, aq_un (Or.inl (by omega))]
      rw [n1, n2, n3, m1 j, m2 j, m3 j, show i + 1 + (j - i) = j + 1 by omega]
      by_cases e5 : j < i
      · rw [if_pos e5, if_pos e5, if_pos e5, if_neg (by omega), if_neg (by omega), if_neg (by omega)]
        exact ⟨rfl, rfl, rfl⟩
      · rw [if_neg e5, if_neg e5, if_neg e5, if_pos (by omega), if_pos (by omega), if_pos (by omega)]
        exact ⟨rfl, rfl, rfl⟩
  · refine am_E.go (t2 := (8, [vR a, vI i, vL f, vU], [vI 0], aq_h m s F c)) rfl rfl ?_
    refine am_E.ret rfl rfl ?_
    exact ⟨_, rfl, (aq_sm0 (S := (fun b => b = a ∨ b = a + 1 ∨ b = a + 2 ∨ b = a + 3))), 0, rfl, rfl, Or.inl ⟨fun q5 => by unfold sm_ok at q5; omega, rfl, ⟨rfl, fun _ _ _ => ⟨rfl, rfl, rfl⟩⟩⟩⟩

theorem qx_insert {m s : Nat} {F : aq_F} {c : aq_C} {a : Nat} (hA : su_0 m F a) {i b p f : Int} (h0 : 0 ≤ i) (h1 : i ≤ c a 1) (hk2 : c a 1 ≤ 40) : am_E ac_X3_insert (0, [vR a, vI i, vI b, vI p, vL f, vU], [], aq_h m s F c) (aq_Z m s F (fun b => b = a ∨ b = a + 1 ∨ b = a + 2 ∨ b = a + 3) c (fun r d => ∃ v, r = some (vI v) ∧ d a 0 = c a 0 ∧ ((40 ≤ c a 1 ∧ v = 0 ∧ sm_e (su_v a c) (su_v a d)) ∨ (¬ 40 ≤ c a 1 ∧ v = 1 ∧ sm_e (c a 1 + 1, sm_i (c (a + 1)) i b, sm_i (c (a + 2)) i p, sm_i (c (a + 3)) i f) (su_v a d))))) := by
  obtain ⟨hma, hFa, hFn, hFp, hFf⟩ := hA
  refine am_E.go (t2 := (1, [vR a, vI i, vI b, vI p, vL f, vU], [vR a], aq_h m s F c)) rfl rfl ?_
  refine aq_gf (v := vI (c a 1)) rfl (by omega) hFa (by decide) rfl ?_
  show am_E _ (4, [vR a, vI i, vI b, vI p, vL f, vU], [vI (c a 1)], aq_h m s F c) _
  skip
  refine am_E.go (t2 := (6, [vR a, vI i, vI b, vI p, vL f, vU], [vI 40, vI (c a 1)], aq_h m s F c)) rfl rfl ?_
  refine ae_icmp rfl (fun (q_2 : (c a 1) < 40) => ?_) (fun (q_2 : 40 ≤ (c a 1)) => ?_)
  · refine am_E.go (t2 := (12, [vR a, vI i, vI b, vI p, vL f, vU], [vR a], aq_h m s F c)) rfl rfl ?_
    refine am_E.go (t2 := (13, [vR a, vI i, vI b, vI p, vL f, vU], [vI i, vR a], aq_h m s F c)) rfl rfl ?_
    refine am_E.go (t2 := (14, [vR a, vI i, vI b, vI p, vL f, vU], [vI i, vI i, vR a], aq_h m s F c)) rfl rfl ?_
    refine am_E.go (t2 := (15, [vR a, vI i, vI b, vI p, vL f, vU], [vI 1, vI i, vI i, vR a], aq_h m s F c)) rfl rfl ?_
    refine ae_add rfl (am_ri (by omega) (by omega)) ?_
    show am_E _ (16, [vR a, vI i, vI b, vI p, vL f, vU], [vI (i + 1), vI i, vR a], aq_h m s F c) _
    refine aq_callv (y := 3) (as2 := [vI i, vI (i + 1)]) (rest := []) rfl rfl (by decide) (Nat.le_of_ble_eq_true rfl) rfl rfl (Nat.le_of_ble_eq_true rfl) (by omega) hFa rfl (Nat.le_of_ble_eq_true rfl) (qn_X3_moveTail ⟨hma, hFa, hFn, hFp, hFf⟩ (by omega) (by omega) (by omega) (by omega) (by omega)) ?_
    rintro r5 h5 ⟨c_mt, rfl, sc_mt, rfl, m1, m2, m3⟩
    show am_E _ (19, [vR a, vI i, vI b, vI p, vL f, vU], [], aq_h m s F c_mt) _
    refine am_E.go (t2 := (20, [vR a, vI i, vI b, vI p, vL f, vU], [vR a], aq_h m s F c_mt)) rfl rfl ?_
    refine am_E.go (t2 := (21, [vR a, vI i, vI b, vI p, vL f, vU], [vR a, vR a], aq_h m s F c_mt)) rfl rfl ?_
    refine aq_gf (v := vI (c_mt a 1)) rfl (by omega) hFa (by decide) rfl ?_
    show am_E _ (24, [vR a, vI i, vI b, vI p, vL f, vU], [vI (c_mt a 1), vR a], aq_h m s F c_mt) _
    have f_3 := sc_mt a (by omega) 1
    refine am_E.go (t2 := (25, [vR a, vI i, vI b, vI p, vL f, vU], [vI 1, vI (c_mt a 1), vR a], aq_h m s F c_mt)) rfl rfl ?_
    refine ae_add rfl (am_ri (by omega) (by omega)) ?_
    show am_E _ (26, [vR a, vI i, vI b, vI p, vL f, vU], [vI ((c_mt a 1) + 1), vR a], aq_h m s F c_mt) _
    refine aq_pf rfl (by omega) hFa (by decide) rfl rfl ?_
    show am_E _ (29, [vR a, vI i, vI b, vI p, vL f, vU], [], aq_h m s F (aq_u c_mt a 1 ((c_mt a 1) + 1))) _
    generalize hdc_4 : aq_u c_mt a 1 ((c_mt a 1) + 1) = c_4
    have sc_4 := aq_smu (aq_smt (aq_sm0 (S := (fun b => b = a ∨ b = a + 1 ∨ b = a + 2 ∨ b = a + 3))) (aq_smi sc_mt (fun b h => Or.inr h))) hdc_4 (Or.inl rfl)
    refine am_E.go (t2 := (30, [vR a, vI i, vI b, vI p, vL f, vU], [vR a], aq_h m s F c_4)) rfl rfl ?_
    refine aq_gf (v := vR (a + 1)) rfl (by omega) hFa (by decide) rfl ?_
    show am_E _ (33, [vR a, vI i, vI b, vI p, vL f, vU], [vR (a + 1)], aq_h m s F c_4) _
    refine am_E.go (t2 := (34, [vR a, vI i, vI b, vI p, vL f, vU], [vI i, vR (a + 1)], aq_h m s F c_4)) rfl rfl ?_
    refine am_E.go (t2 := (35, [vR a, vI i, vI b, vI p, vL f, vU], [vI b, vI i, vR (a + 1)], aq_h m s F c_4)) rfl rfl ?_
    refine aq_as (kd := 0) rfl rfl (by omega) hFn (by omega) (by omega) rfl rfl ?_
    show am_E _ (36, [vR a, vI i, vI b, vI p, vL f, vU], [], aq_h m s F (aq_u c_4 (a + 1) i b)) _
    generalize hdc_5 : aq_u c_4 (a + 1) i b = c_5
    have sc_5 := aq_smu sc_4 hdc_5 (Or.inr (Or.inl rfl))
    refine am_E.go (t2 := (37, [vR a, vI i, vI b, vI p, vL f, vU], [vR a], aq_h m s F c_5)) rfl rfl ?_
    refine aq_gf (v := vR (a + 2)) rfl (by omega) hFa (by decide) rfl ?_
    show am_E _ (40, [vR a, vI i, vI b, vI p, vL f, vU], [vR (a + 2)], aq_h m s F c_5) _
    refine am_E.go (t2 := (41, [vR a, vI i, vI b, vI p, vL f, vU], [vI i, vR (a + 2)], aq_h m s F c_5)) rfl rfl ?_
    refine am_E.go (t2 := (42, [vR a, vI i, vI b, vI p, vL f, vU], [vI p, vI i, vR (a + 2)], aq_h m s F c_5)) rfl rfl ?_
    refine aq_as (kd := 0) rfl rfl (by omega) hFp (by omega) (by omega) rfl rfl ?_
    show am_E _ (43, [vR a, vI i, vI b, vI p, vL f, vU], [], aq_h m s F (aq_u c_5 (a + 2) i p)) _
    generalize hdc_6 : aq_u c_5 (a + 2) i p = c_6
    have sc_6 := aq_smu sc_5 hdc_6 (Or.inr (Or.inr (Or.inl rfl)))
    refine am_E.go (t2 := (44, [vR a, vI i, vI b, vI p, vL f, vU], [vR a], aq_h m s F c_6)) rfl rfl ?_
    refine aq_gf (v := vR (a + 3)) rfl (by omega) hFa (by decide) rfl ?_
    show am_E _ (47, [vR a, vI i, vI b, vI p, vL f, vU], [vR (a + 3)], aq_h m s F c_6) _
    refine am_E.go (t2 := (48, [vR a, vI i, vI b, vI p, vL f, vU], [vI i, vR (a + 3)], aq_h m s F c_6)) rfl rfl ?_
    refine am_E.go (t2 := (50, [vR a, vI i, vI b, vI p, vL f, vU], [vL f, vI i, vR (a + 3)], aq_h m s F c_6)) rfl rfl ?_
    refine aq_asl rfl rfl (by omega) hFf (by omega) (by omega) rfl ?_
    show am_E _ (51, [vR a, vI i, vI b, vI p, vL f, vU], [], aq_h m s F (aq_u c_6 (a + 3) i f)) _
    generalize hdc_7 : aq_u c_6 (a + 3) i f = c_7
    have sc_7 := aq_smu sc_6 hdc_7 (Or.inr (Or.inr (Or.inr rfl)))
    refine am_E.go (t2 := (52, [vR a, vI i, vI b, vI p, vL f, vU], [vI 1], aq_h m s F c_7)) rfl rfl ?_
    refine am_E.ret rfl rfl ?_
    have g1 : c_7 a 1 = c a 1 + 1 := by rw [← hdc_7, aq_un (Or.inl (by omega)), ← hdc_6, aq_un (Or.inl (by omega)), ← hdc_5, aq_un (Or.inl (by omega)), ← hdc_4, aq_us, sc_mt a (by omega) 1]
    have g0 : c_7 a 0 = c a 0 := by rw [← hdc_7, aq_un (Or.inl (by omega)), ← hdc_6, aq_un (Or.inl (by omega)), ← hdc_5, aq_un (Or.inl (by omega)), ← hdc_4, aq_un (Or.inr (by omega)), sc_mt a (by omega) 0]
    refine ⟨_, rfl, sc_7, 1, rfl, g0, Or.inr ⟨by omega, rfl, g1.symm, fun j j0 j1 => ?_⟩⟩
    simp only at j1
    have n1 : c_7 (a + 1) j = if j = i then b else c_mt (a + 1) j := by
      rw [← hdc_7, aq_un (Or.inl (by omega)), ← hdc_6, aq_un (Or.inl (by omega)), ← hdc_5]
      by_cases e : j = i
      · rw [e, aq_us, if_pos rfl]
      · rw [aq_un (Or.inr e), if_neg e, ← hdc_4, aq_un (Or.inl (by omega))]
    have n2 : c_7 (a + 2) j = if j = i then p else c_mt (a + 2) j := by
      rw [← hdc_7, aq_un (Or.inl (by omega)), ← hdc_6]
      by_cases e : j = i
      · rw [e, aq_us, if_pos rfl]
      · rw [aq_un (Or.inr e), if_neg e, ← hdc_5, aq_un (Or.inl (by omega)), ← hdc_4, aq_un (Or.inl (by omega))]
    have n3 : c_7 (a + 3) j = if j = i then f else c_mt (a + 3) j := by
      rw [← hdc_7]
      by_cases e : j = i
      · rw [e, aq_us, if_pos rfl]
      · rw [aq_un (Or.inr e), if_neg e, ← hdc_6, aq_un (Or.inl (by omega)), ← hdc_5, aq_un (Or.inl (by omega)), ← hdc_4, aq_un (Or.inl (by omega))]
    unfold su_v sm_i
    simp only
    rw [n1, n2, n3, m1 j, m2 j, m3 j, show i + (j - (i + 1)) = j - 1 by omega]
    by_cases e5 : j < i
    · rw [if_pos e5, if_pos e5, if_pos e5, if_neg (by omega), if_neg (by omega), if_neg (by omega), if_neg (by omega), if_neg (by omega), if_neg (by omega)]
      exact ⟨rfl, rfl, rfl⟩
    · by_cases e6 : j = i
      · rw [if_neg e5, if_neg e5, if_neg e5, if_pos e6, if_pos e6, if_pos e6, if_pos e6, if_pos e6, if_pos e6]
        exact ⟨rfl, rfl, rfl⟩
      · rw [if_neg e5, if_neg e5, if_neg e5, if_neg e6, if_neg e6, if_neg e6, if_neg e6, if_neg e6, if_neg e6, if_pos (by omega), if_pos (by omega), if_pos (by omega)]
        exact ⟨rfl, rfl, rfl⟩
  · refine am_E.go (t2 := (10, [vR a, vI i, vI b, vI p, vL f, vU], [vI 0], aq_h m s F c)) rfl rfl ?_
    refine am_E.ret rfl rfl ?_
    exact ⟨_, rfl, (aq_sm0 (S := (fun b => b = a ∨ b = a + 1 ∨ b = a + 2 ∨ b = a + 3))), 0, rfl, rfl, Or.inl ⟨by omega, rfl, ⟨rfl, fun _ _ _ => ⟨rfl, rfl, rfl⟩⟩⟩⟩

theorem qx_join_l {m s : Nat} {F : aq_F} {c : aq_C} {a : Nat} (hA : su_0 m F a) {b p f : Int} (hk1 : 0 ≤ c a 1) (hk2 : c a 1 ≤ 40) (hkf : ∀ i, 0 ≤ i → i < c a 1 → sm_ok (c (a + 3) i)) (hf : sm_ok f) {T : Int} {Z : Option am_V → am_H → Prop} : ∀ (d : Nat) (i : Int) (h0 : 0 ≤ i) (h1 : i ≤ c a 1) (hq : sm_p (c (a + 1)) (c (a + 2)) (c a 1) b p d i = T) (hd : c a 1 - i < (d : Int)) (K0 : ∀ (i2 : Int) (f1 : 0 ≤ i2) (f2 : i2 ≤ c a 1) (f3 : i2 = T), am_E ac_X3_join (66, [vR a, vI b, vI p, vL f, vU, vI i2], [], aq_h m s F c) Z), am_E ac_X3_join (18, [vR a, vI b, vI p, vL f, vU, vI i], [], aq_h m s F c) Z
  | 0, i, h0, h1, hq, hd, K0 => by exfalso; omega
  | d + 1, i, h0, h1, hq, hd, K0 => by
    obtain ⟨hma, hFa, hFn, hFp, hFf⟩ := hA
    refine am_E.go (t2 := (20, [vR a, vI b, vI p, vL f, vU, vI i], [vI i], aq_h m s F c)) rfl rfl ?_
    refine am_E.go (t2 := (21, [vR a, vI b, vI p, vL f, vU, vI i], [vR a, vI i], aq_h m s F c)) rfl rfl ?_
    refine aq_gf (v := vI (c a 1)) rfl (by omega) hFa (by decide) rfl ?_
    show am_E _ (24, [vR a, vI b, vI p, vL f, vU, vI i], [vI (c a 1), vI i], aq_h m s F c) _
    skip
    refine ae_icmp rfl (fun (q_2 : (c a 1) ≤ i) => ?_) (fun (q_2 : i < (c a 1)) => ?_)
    · exact K0 i (by omega) (by omega) (by rw [← hq, sm_p, if_neg (by omega)])
    · refine am_E.go (t2 := (28, [vR a, vI b, vI p, vL f, vU, vI i], [vR a], aq_h m s F c)) rfl rfl ?_
      refine aq_gf (v := vR (a + 1)) rfl (by omega) hFa (by decide) rfl ?_
      show am_E _ (31, [vR a, vI b, vI p, vL f, vU, vI i], [vR (a + 1)], aq_h m s F c) _
      refine am_E.go (t2 := (33, [vR a, vI b, vI p, vL f, vU, vI i], [vI i, vR (a + 1)], aq_h m s F c)) rfl rfl ?_
      refine aq_al (ok := fun k => k == 0) (v := vI (c (a + 1) i)) rfl rfl (by omega) hFn rfl (by omega) (by omega) rfl ?_
      show am_E _ (34, [vR a, vI b, vI p, vL f, vU, vI i], [vI (c (a + 1) i)], aq_h m s F c) _
      refine am_E.go (t2 := (35, [vR a, vI b, vI p, vL f, vU, vI i], [vI b, vI (c (a + 1) i)], aq_h m s F c)) rfl rfl ?_
      refine ae_icmp rfl (fun (q_3 : (c (a + 1) i) < b) => ?_) (fun (q_3 : b ≤ (c (a + 1) i)) => ?_)
      · refine ae_iinc rfl rfl (am_ri (by omega) (by omega)) ?_
        show am_E _ (63, [vR a, vI b, vI p, vL f, vU, vI (i + 1)], [], aq_h m s F c) _
        refine am_E.go (t2 := (18, [vR a, vI b, vI p, vL f, vU, vI (i + 1)], [], aq_h m s F c)) rfl rfl ?_
        exact qx_join_l ⟨hma, hFa, hFn, hFp, hFf⟩ hk1 hk2 hkf hf d (i + 1) (by omega) (by omega) (by rw [← hq, sm_p, if_pos (by omega)]) (by omega) K0
      · refine am_E.go (t2 := (39, [vR a, vI b, vI p, vL f, vU, vI i], [vR a], aq_h m s F c)) rfl rfl ?_
        refine aq_gf (v := vR (a + 1)) rfl (by omega) hFa (by decide) rfl ?_
        show am_E _ (42, [vR a, vI b, vI p, vL f, vU, vI i], [vR (a + 1)], aq_h m s F c) _
        refine am_E.go (t2 := (44, [vR a, vI b, vI p, vL f, vU, vI i], [vI i, vR (a + 1)], aq_h m s F c)) rfl rfl ?_
        refine aq_al (ok := fun k => k == 0) (v := vI (c (a + 1) i)) rfl rfl (by omega) hFn rfl (by omega) (by omega) rfl ?_
        show am_E _ (45, [vR a, vI b, vI p, vL f, vU, vI i], [vI (c (a + 1) i)], aq_h m s F c) _
        refine am_E.go (t2 := (46, [vR a, vI b, vI p, vL f, vU, vI i], [vI b, vI (c (a + 1) i)], aq_h m s F c)) rfl rfl ?_
        refine ae_icmp rfl (fun (q_4 : (c (a + 1) i) ≠ b) => ?_) (fun (q_4 : (c (a + 1) i) = b) => ?_)
        · exact K0 i (by omega) (by omega) (by rw [← hq, sm_p, if_neg (by omega)])
        · refine am_E.go (t2 := (50, [vR a, vI b, vI p, vL f, vU, vI i], [vR a], aq_h m s F c)) rfl rfl ?_
          refine aq_gf (v := vR (a + 2)) rfl (by omega) hFa (by decide) rfl ?_
          show am_E _ (53, [vR a, vI b, vI p, vL f, vU, vI i], [vR (a + 2)], aq_h m s F c) _
          refine am_E.go (t2 := (55, [vR a, vI b, vI p, vL f, vU, vI i], [vI i, vR (a + 2)], aq_h m s F c)) rfl rfl ?_
          refine aq_al (ok := fun k => k == 0) (v := vI (c (a + 2) i)) rfl rfl (by omega) hFp rfl (by omega) (by omega) rfl ?_
          show am_E _ (56, [vR a, vI b, vI p, vL f, vU, vI i], [vI (c (a + 2) i)], aq_h m s F c) _
          refine am_E.go (t2 := (57, [vR a, vI b, vI p, vL f, vU, vI i], [vI p, vI (c (a + 2) i)], aq_h m s F c)) rfl rfl ?_
          refine ae_icmp rfl (fun (q_5 : p ≤ (c (a + 2) i)) => ?_) (fun (q_5 : (c (a + 2) i) < p) => ?_)
          · exact K0 i (by omega) (by omega) (by rw [← hq, sm_p, if_neg (by omega)])
          · refine ae_iinc rfl rfl (am_ri (by omega) (by omega)) ?_
            show am_E _ (63, [vR a, vI b, vI p, vL f, vU, vI (i + 1)], [], aq_h m s F c) _
            refine am_E.go (t2 := (18, [vR a, vI b, vI p, vL f, vU, vI (i + 1)], [], aq_h m s F c)) rfl rfl ?_
            exact qx_join_l ⟨hma, hFa, hFn, hFp, hFf⟩ hk1 hk2 hkf hf d (i + 1) (by omega) (by omega) (by rw [← hq, sm_p, if_pos (by omega)]) (by omega) K0

theorem qx_join {m s : Nat} {F : aq_F} {c : aq_C} {a : Nat} (hA : su_0 m F a) {b p f : Int} (hk1 : 0 ≤ c a 1) (hk2 : c a 1 ≤ 40) (hkf : ∀ i, 0 ≤ i → i < c a 1 → sm_ok (c (a + 3) i)) (hf : sm_ok f) (hp : p ≤ 20) : am_E ac_X3_join (0, [vR a, vI b, vI p, vL f, vU, vU], [], aq_h m s F c) (aq_Z m s F (fun b => b = a ∨ b = a + 1 ∨ b = a + 2 ∨ b = a + 3) c (fun r d => ∃ v, r = some (vI v) ∧ d a 0 = c a 0 ∧ ((v = 0 ∧ sm_j (su_v a c) b p f = none ∧ sm_e (su_v a c) (su_v a d)) ∨ (v = 1 ∧ ∃ t2, sm_j (su_v a c) b p f = some t2 ∧ sm_e t2 (su_v a d))))) := by
  obtain ⟨hma, hFa, hFn, hFp, hFf⟩ := hA
  refine am_E.go (t2 := (1, [vR a, vI b, vI p, vL f, vU, vU], [vI p], aq_h m s F c)) rfl rfl ?_
  refine am_E.go (t2 := (3, [vR a, vI b, vI p, vL f, vU, vU], [vI 20, vI p], aq_h m s F c)) rfl rfl ?_
  refine ae_icmp rfl (fun (q_1 : 20 < p) => ?_) (fun (q_1 : p ≤ 20) => ?_)
  · refine am_E.go (t2 := (14, [vR a, vI b, vI p, vL f, vU, vU], [vI 0], aq_h m s F c)) rfl rfl ?_
    refine am_E.ret rfl rfl ?_
    exfalso
    unfold sm_ok at hf
    omega
  · refine am_E.go (t2 := (7, [vR a, vI b, vI p, vL f, vU, vU], [vL f], aq_h m s F c)) rfl rfl ?_
    refine am_E.call rfl rfl rfl (Nat.le_of_ble_eq_true rfl) (qn_X3_isFactor) ?_
    rintro r5 h5 ⟨rfl, v_2, rfl, hv_2⟩
    show am_E _ (10, [vR a, vI b, vI p, vL f, vU, vU], [vI v_2], aq_h m s F c) _
    refine ae_if0 rfl (fun (q_3 : v_2 ≠ 0) => ?_) (fun (q_3 : v_2 = 0) => ?_)
    · refine am_E.go (t2 := (16, [vR a, vI b, vI p, vL f, vU, vU], [vI 0], aq_h m s F c)) rfl rfl ?_
      refine am_E.go (t2 := (18, [vR a, vI b, vI p, vL f, vU, vI 0], [], aq_h m s F c)) rfl rfl ?_
      refine qx_join_l ⟨hma, hFa, hFn, hFp, hFf⟩ hk1 hk2 hkf hf 41 0 (by omega) (by omega) rfl (by omega) ?_
      · intro i2_18 f1_18 f2_18 f3_18
        refine am_E.go (t2 := (67, [vR a, vI b, vI p, vL f, vU, vI i2_18], [vR a], aq_h m s F c)) rfl rfl ?_
        refine am_E.go (t2 := (69, [vR a, vI b, vI p, vL f, vU, vI i2_18], [vI i2_18, vR a], aq_h m s F c)) rfl rfl ?_
        refine am_E.go (t2 := (70, [vR a, vI b, vI p, vL f, vU, vI i2_18], [vI b, vI i2_18, vR a], aq_h m s F c)) rfl rfl ?_
        refine am_E.go (t2 := (71, [vR a, vI b, vI p, vL f, vU, vI i2_18], [vI p, vI b, vI i2_18, vR a], aq_h m s F c)) rfl rfl ?_
        refine aq_callv (y := 4) (as2 := [vI i2_18, vI b, vI p]) (rest := []) rfl rfl (by decide) (Nat.le_of_ble_eq_true rfl) rfl rfl (Nat.le_of_ble_eq_true rfl) (by omega) hFa rfl (Nat.le_of_ble_eq_true rfl) (qn_X3_isAt (a := a) ⟨hma, hFa, hFn, hFp, hFf⟩ (by omega) (by omega)) ?_
        rintro r5 h5 ⟨rfl, v_5, rfl, hv_5⟩
        show am_E _ (74, [vR a, vI b, vI p, vL f, vU, vI i2_18], [vI v_5], aq_h m s F c) _
        refine ae_if0 rfl (fun (q_6 : v_5 = 0) => ?_) (fun (q_6 : v_5 ≠ 0) => ?_)
        · refine am_E.go (t2 := (94, [vR a, vI b, vI p, vL f, vU, vI i2_18], [vL f], aq_h m s F c)) rfl rfl ?_
          refine am_E.go (t2 := (95, [vR a, vI b, vI p, vL f, vU, vI i2_18], [vL 0, vL f], aq_h m s F c)) rfl rfl ?_
          have ez_7 := am_lcf f 0
          refine am_E.go (t2 := (96, [vR a, vI b, vI p, vL f, vU, vI i2_18], [vI (if f < 0 then -1 else if f = 0 then 0 else 1)], aq_h m s F c)) rfl rfl ?_
          generalize (if f < 0 then -1 else if f = 0 then 0 else 1) = z_7 at ez_7 ⊢
          refine ae_if0 rfl (fun (q_8 : z_7 ≠ 0) => ?_) (fun (q_8 : z_7 = 0) => ?_)
          · refine am_E.go (t2 := (102, [vR a, vI b, vI p, vL f, vU, vI i2_18], [vR a], aq_h m s F c)) rfl rfl ?_
            refine am_E.go (t2 := (104, [vR a, vI b, vI p, vL f, vU, vI i2_18], [vI i2_18, vR a], aq_h m s F c)) rfl rfl ?_
            refine am_E.go (t2 := (105, [vR a, vI b, vI p, vL f, vU, vI i2_18], [vI b, vI i2_18, vR a], aq_h m s F c)) rfl rfl ?_
            refine am_E.go (t2 := (106, [vR a, vI b, vI p, vL f, vU, vI i2_18], [vI p, vI b, vI i2_18, vR a], aq_h m s F c)) rfl rfl ?_
            refine am_E.go (t2 := (107, [vR a, vI b, vI p, vL f, vU, vI i2_18], [vL f, vI p, vI b, vI i2_18, vR a], aq_h m s F c)) rfl rfl ?_
            refine aq_callv (y := 5) (as2 := [vI i2_18, vI b, vI p, vL f]) (rest := []) rfl rfl (by decide) (Nat.le_of_ble_eq_true rfl) rfl rfl (Nat.le_of_ble_eq_true rfl) (by omega) hFa rfl (Nat.le_of_ble_eq_true rfl) (qx_insert ⟨hma, hFa, hFn, hFp, hFf⟩ (by omega) (by omega) hk2) ?_
            rintro r5 h5 ⟨c_j, rfl, sc_j, v_j, rfl, e_j, q_j⟩
            show am_E _ (110, [vR a, vI b, vI p, vL f, vU, vI i2_18], [vI v_j], aq_h m s F c_j) _
            refine ae_retb rfl (by omega) ?_
            obtain ⟨T_, eT⟩ : ∃ T_, T_ = sm_p (c (a + 1)) (c (a + 2)) (c a 1) b p 41 0 := ⟨_, rfl⟩
            have eI : i2_18 = T_ := by rw [eT]; assumption
            have ej : sm_j (su_v a c) b p f = (if T_ < c a 1 ∧ c (a + 1) T_ = b ∧ c (a + 2) T_ = p then (if sm_ok (c (a + 3) T_ + f) then (if c (a + 3) T_ + f = 0 then some (c a 1 - 1, sm_d (c (a + 1)) T_, sm_d (c (a + 2)) T_, sm_d (c (a + 3)) T_) else some (c a 1, c (a + 1), c (a + 2), sm_s (c (a + 3)) T_ (c (a + 3) T_ + f))) else none) else if f = 0 then some (su_v a c) else if 40 ≤ c a 1 then none else some (c a 1 + 1, sm_i (c (a + 1)) T_ b, sm_i (c (a + 2)) T_ p, sm_i (c (a + 3)) T_ f)) := by rw [eT]; rfl
            rw [if_neg (by rw [← eI]; omega), if_neg (by omega), ← eI] at ej
            refine ⟨_, rfl, (aq_smt (aq_sm0 (S := (fun b => b = a ∨ b = a + 1 ∨ b = a + 2 ∨ b = a + 3))) sc_j), v_j, rfl, e_j, ?_⟩
            rcases q_j with ⟨k1, k2, k3⟩ | ⟨k1, k2, k3⟩
            · exact Or.inl ⟨k2, by rw [ej, if_pos k1], k3⟩
            · exact Or.inr ⟨k2, _, by rw [ej, if_neg k1], k3⟩
          · refine am_E.go (t2 := (100, [vR a, vI b, vI p, vL f, vU, vI i2_18], [vI 1], aq_h m s F c)) rfl rfl ?_
            refine am_E.ret rfl rfl ?_
            obtain ⟨T_, eT⟩ : ∃ T_, T_ = sm_p (c (a + 1)) (c (a + 2)) (c a 1) b p 41 0 := ⟨_, rfl⟩
            have eI : i2_18 = T_ := by rw [eT]; assumption
            have ej : sm_j (su_v a c) b p f = (if T_ < c a 1 ∧ c (a + 1) T_ = b ∧ c (a + 2) T_ = p then (if sm_ok (c (a + 3) T_ + f) then (if c (a + 3) T_ + f = 0 then some (c a 1 - 1, sm_d (c (a + 1)) T_, sm_d (c (a + 2)) T_, sm_d (c (a + 3)) T_) else some (c a 1, c (a + 1), c (a + 2), sm_s (c (a + 3)) T_ (c (a + 3) T_ + f))) else none) else if f = 0 then some (su_v a c) else if 40 ≤ c a 1 then none else some (c a 1 + 1, sm_i (c (a + 1)) T_ b, sm_i (c (a + 2)) T_ p, sm_i (c (a + 3)) T_ f)) := by rw [eT]; rfl
            rw [if_neg (by rw [← eI]; omega), if_pos (by omega)] at ej
            exact ⟨_, rfl, (aq_sm0 (S := (fun b => b = a ∨ b = a + 1 ∨ b = a + 2 ∨ b = a + 3))), 1, rfl, rfl, Or.inr ⟨rfl, _, ej, ⟨rfl, fun _ _ _ => ⟨rfl, rfl, rfl⟩⟩⟩⟩
        · refine am_E.go (t2 := (78, [vR a, vI b, vI p, vL f, vU, vI i2_18], [vR a], aq_h m s F c)) rfl rfl ?_
          refine am_E.go (t2 := (80, [vR a, vI b, vI p, vL f, vU, vI i2_18], [vI i2_18, vR a], aq_h m s F c)) rfl rfl ?_
          refine am_E.go (t2 := (81, [vR a, vI b, vI p, vL f, vU, vI i2_18], [vR a, vI i2_18, vR a], aq_h m s F c)) rfl rfl ?_
          refine aq_gf (v := vR (a + 3)) rfl (by omega) hFa (by decide) rfl ?_
          show am_E _ (84, [vR a, vI b, vI p, vL f, vU, vI i2_18], [vR (a + 3), vI i2_18, vR a], aq_h m s F c) _
          refine am_E.go (t2 := (86, [vR a, vI b, vI p, vL f, vU, vI i2_18], [vI i2_18, vR (a + 3), vI i2_18, vR a], aq_h m s F c)) rfl rfl ?_
          refine aq_al (ok := fun k => k == 2) (v := vL (c (a + 3) i2_18)) rfl rfl (by omega) hFf rfl (by omega) (by omega) rfl ?_
          show am_E _ (87, [vR a, vI b, vI p, vL f, vU, vI i2_18], [vL (c (a + 3) i2_18), vI i2_18, vR a], aq_h m s F c) _
          refine am_E.go (t2 := (88, [vR a, vI b, vI p, vL f, vU, vI i2_18], [vL f, vL (c (a + 3) i2_18), vI i2_18, vR a], aq_h m s F c)) rfl rfl ?_
          refine ae_binl (z := (c (a + 3) i2_18) + f) rfl rfl (congrArg some (am_wl_id (by have h8 := hkf i2_18 (by omega) (by omega); unfold sm_ok at h8 hf; exact am_rl (by omega) (by omega)))) ?_
          show am_E _ (89, [vR a, vI b, vI p, vL f, vU, vI i2_18], [vL ((c (a + 3) i2_18) + f), vI i2_18, vR a], aq_h m s F c) _
          refine aq_callv (y := 3) (as2 := [vI i2_18, vL ((c (a + 3) i2_18) + f)]) (rest := []) rfl rfl (by decide) (Nat.le_of_ble_eq_true rfl) rfl rfl (Nat.le_of_ble_eq_true rfl) (by omega) hFa rfl (Nat.le_of_ble_eq_true rfl) (qx_change ⟨hma, hFa, hFn, hFp, hFf⟩ (by omega) (by omega) hk2) ?_
          rintro r5 h5 ⟨c_j, rfl, sc_j, v_j, rfl, e_j, q_j⟩
          show am_E _ (92, [vR a, vI b, vI p, vL f, vU, vI i2_18], [vI v_j], aq_h m s F c_j) _
          refine ae_retb rfl (by omega) ?_
          obtain ⟨T_, eT⟩ : ∃ T_, T_ = sm_p (c (a + 1)) (c (a + 2)) (c a 1) b p 41 0 := ⟨_, rfl⟩
          have eI : i2_18 = T_ := by rw [eT]; assumption
          have ej : sm_j (su_v a c) b p f = (if T_ < c a 1 ∧ c (a + 1) T_ = b ∧ c (a + 2) T_ = p then (if sm_ok (c (a + 3) T_ + f) then (if c (a + 3) T_ + f = 0 then some (c a 1 - 1, sm_d (c (a + 1)) T_, sm_d (c (a + 2)) T_, sm_d (c (a + 3)) T_) else some (c a 1, c (a + 1), c (a + 2), sm_s (c (a + 3)) T_ (c (a + 3) T_ + f))) else none) else if f = 0 then some (su_v a c) else if 40 ≤ c a 1 then none else some (c a 1 + 1, sm_i (c (a + 1)) T_ b, sm_i (c (a + 2)) T_ p, sm_i (c (a + 3)) T_ f)) := by rw [eT]; rfl
          rw [if_pos (by rw [← eI]; omega), ← eI] at ej
          refine ⟨_, rfl, (aq_smt (aq_sm0 (S := (fun b => b = a ∨ b = a + 1 ∨ b = a + 2 ∨ b = a + 3))) sc_j), v_j, rfl, e_j, ?_⟩
          rcases q_j with ⟨k1, k2, k3⟩ | ⟨k1, k2, k3, k4⟩ | ⟨k1, k2, k3, k4⟩
          · exact Or.inl ⟨k2, by rw [ej, if_neg k1], k3⟩
          · exact Or.inr ⟨k3, _, by rw [ej, if_pos k1, if_pos k2], k4⟩
          · exact Or.inr ⟨k3, _, by rw [ej, if_pos k1, if_neg k2], k4⟩
    · refine am_E.go (t2 := (14, [vR a, vI b, vI p, vL f, vU, vU], [vI 0], aq_h m s F c)) rfl rfl ?_
      refine am_E.ret rfl rfl ?_
      exfalso
      unfold sm_ok at hf
      omega

/-- the row that is worked on -/
def mr_v (y : Nat) (c : aq_C) : sm_ := (c y 17, c (y + 15), c (y + 16), c (y + 17))

theorem qx_comes_2 {m s : Nat} {F : aq_F} {c0 : aq_C} {y : Nat} (hO : mo_0 m F y) {b p f k sz : Int} {B P Q : Int → Int} (hsz : sz < 40) (hk0 : 0 ≤ k) : ∀ (d : Nat) (i : Int) (c : aq_C) (hs : aq_sm (fun a => a = y ∨ a = y + 15 ∨ a = y + 16 ∨ a = y + 17) c0 c) (hz : c y 17 = sz) (hq : mo_q y c0 c) (h0 : k ≤ i) (h1 : i ≤ sz) (hv : ∀ j, 0 ≤ j → j ≤ sz → c (y + 15) j = (if j < i then sm_d B k j else B j) ∧ c (y + 16) j = (if j < i then sm_d P k j else P j) ∧ c (y + 17) j = (if j < i then sm_d Q k j else Q j)) (hd : sz - i < (d : Int)), am_E ac_X5_comes (148, [vR y, vI b, vI p, vL f, vU, vI k, vI i], [], aq_h m s F c) (aq_Z m s F (fun a => a = y ∨ a = y + 15 ∨ a = y + 16 ∨ a = y + 17) c0 (fun r d => r = some (vI 1) ∧ mo_q y c0 d ∧ sm_e (sz, sm_d B k, sm_d P k, sm_d Q k) (mr_v y d)))
  | 0, i, c, hs, hz, hq, h0, h1, hv, hd => by exfalso; omega
  | d + 1, i, c, hs, hz, hq, h0, h1, hv, hd => by
    obtain ⟨hm, hFo, hG5, hG6, hG7, hG8, hG9, hG10, hG11, hG12, hG13, hG14, hG15, hG16, hG17, hG18, hG19, hG20, hG21, hG22, hG23⟩ := hO
    refine am_E.go (t2 := (150, [vR y, vI b, vI p, vL f, vU, vI k, vI i], [vI i], aq_h m s F c)) rfl rfl ?_
    refine am_E.go (t2 := (151, [vR y, vI b, vI p, vL f, vU, vI k, vI i], [vR y, vI i], aq_h m s F c)) rfl rfl ?_
    refine aq_gf (v := vI (c y 17)) rfl (by omega) hFo (by decide) rfl ?_
    show am_E _ (154, [vR y, vI b, vI p, vL f, vU, vI k, vI i], [vI (c y 17), vI i], aq_h m s F c) _
    have f_1 := hz
    refine ae_icmp rfl (fun (q_2 : (c y 17) ≤ i) => ?_) (fun (q_2 : i < (c y 17)) => ?_)
    · refine am_E.go (t2 := (174, [vR y, vI b, vI p, vL f, vU, vI k, vI i], [vI 1], aq_h m s F c)) rfl rfl ?_
      refine am_E.ret rfl rfl ?_
      refine ⟨_, rfl, hs, rfl, hq, hz.symm, fun j h5 h6 => ?_⟩
      simp only at h6
      have a1 := hv j h5 (by omega)
      rw [if_pos (by omega), if_pos (by omega), if_pos (by omega)] at a1
      exact ⟨a1.1.symm, a1.2.1.symm, a1.2.2.symm⟩
    · refine am_E.go (t2 := (158, [vR y, vI b, vI p, vL f, vU, vI k, vI i], [vR y], aq_h m s F c)) rfl rfl ?_
      refine am_E.go (t2 := (160, [vR y, vI b, vI p, vL f, vU, vI k, vI i], [vI i, vR y], aq_h m s F c)) rfl rfl ?_
      refine am_E.go (t2 := (162, [vR y, vI b, vI p, vL f, vU, vI k, vI i], [vI i, vI i, vR y], aq_h m s F c)) rfl rfl ?_
      refine am_E.go (t2 := (163, [vR y, vI b, vI p, vL f, vU, vI k, vI i], [vI 1, vI i, vI i, vR y], aq_h m s F c)) rfl rfl ?_
      refine ae_add rfl (am_ri (by omega) (by omega)) ?_
      show am_E _ (164, [vR y, vI b, vI p, vL f, vU, vI k, vI i], [vI (i + 1), vI i, vR y], aq_h m s F c) _
      refine aq_callv (y := 3) (as2 := [vI i, vI (i + 1)]) (rest := []) rfl rfl (by decide) (Nat.le_of_ble_eq_true rfl) rfl rfl (Nat.le_of_ble_eq_true rfl) (by omega) hFo rfl (Nat.le_of_ble_eq_true rfl) (qm_move ⟨hm, hFo, hG5, hG6, hG7, hG8, hG9, hG10, hG11, hG12, hG13, hG14, hG15, hG16, hG17, hG18, hG19, hG20, hG21, hG22, hG23⟩ (by omega) (by omega) (by omega) (by omega)) ?_
      rintro r5 h5 ⟨c_m, rfl, s_m, rfl, m15, m16, m17⟩
      show am_E _ (167, [vR y, vI b, vI p, vL f, vU, vI k, vI i], [], aq_h m s F c_m) _
      refine ae_iinc rfl rfl (am_ri (by omega) (by omega)) ?_
      show am_E _ (170, [vR y, vI b, vI p, vL f, vU, vI k, vI (i + 1)], [], aq_h m s F c_m) _
      refine am_E.go (t2 := (148, [vR y, vI b, vI p, vL f, vU, vI k, vI (i + 1)], [], aq_h m s F c_m)) rfl rfl ?_
      exact qx_comes_2 ⟨hm, hFo, hG5, hG6, hG7, hG8, hG9, hG10, hG11, hG12, hG13, hG14, hG15, hG16, hG17, hG18, hG19, hG20, hG21, hG22, hG23⟩ hsz hk0 d (i + 1) c_m (aq_smt hs (aq_smi s_m (fun a h => Or.inr h))) (by rw [s_m y (by omega) 17]; exact hz) (mo_qs hq s_m (by omega)) (by omega) (by omega) (fun j h5 h6 => by
        have a1 := hv j h5 h6
        have a2 := hv (i + 1) (by omega) (by omega)
        rw [m15 j, m16 j, m17 j]
        by_cases e : j = i
        · rw [if_pos e, if_pos e, if_pos e, if_pos (by omega), if_pos (by omega), if_pos (by omega), a2.1, a2.2.1, a2.2.2, if_neg (by omega), if_neg (by omega), if_neg (by omega), e]
          unfold sm_d
          rw [if_neg (by omega), if_neg (by omega), if_neg (by omega)]
          exact ⟨rfl, rfl, rfl⟩
        · rw [if_neg e, if_neg e, if_neg e, a1.1, a1.2.1, a1.2.2]
          by_cases e2 : j < i
          · rw [if_pos e2, if_pos e2, if_pos e2, if_pos (by omega), if_pos (by omega), if_pos (by omega)]
            exact ⟨rfl, rfl, rfl⟩
          · rw [if_neg e2, if_neg e2, if_neg e2, if_neg (by omega), if_neg (by omega), if_neg (by omega)]
            exact ⟨rfl, rfl, rfl⟩) (by omega)

theorem qx_comes_3 {m s : Nat} {F : aq_F} {c0 : aq_C} {y : Nat} (hO : mo_0 m F y) {b p f k sz : Int} {B P Q : Int → Int} (hsz : sz < 40) (hk0 : 0 ≤ k) : ∀ (d : Nat) (i : Int) (c : aq_C) (hs : aq_sm (fun a => a = y ∨ a = y + 15 ∨ a = y + 16 ∨ a = y + 17) c0 c) (hz : c y 17 = sz) (hq : mo_q y c0 c) (h0 : k ≤ i) (h1 : i ≤ sz) (hv : ∀ j, 0 ≤ j → j ≤ sz → (i < j → c (y + 15) j = B (j - 1) ∧ c (y + 16) j = P (j - 1) ∧ c (y + 17) j = Q (j - 1)) ∧ (j ≤ i → j < sz → c (y + 15) j = B j ∧ c (y + 16) j = P j ∧ c (y + 17) j = Q j)) (hd : i - k < (d : Int)), am_E ac_X5_comes (209, [vR y, vI b, vI p, vL f, vU, vI k, vI i], [], aq_h m s F c) (aq_Z m s F (fun a => a = y ∨ a = y + 15 ∨ a = y + 16 ∨ a = y + 17) c0 (fun r d => r = some (vI 1) ∧ mo_q y c0 d ∧ sm_e (sz + 1, sm_i B k b, sm_i P k p, sm_i Q k f) (mr_v y d)))
  | 0, i, c, hs, hz, hq, h0, h1, hv, hd => by exfalso; omega
  | d + 1, i, c, hs, hz, hq, h0, h1, hv, hd => by
    obtain ⟨hm, hFo, hG5, hG6, hG7, hG8, hG9, hG10, hG11, hG12, hG13, hG14, hG15, hG16, hG17, hG18, hG19, hG20, hG21, hG22, hG23⟩ := hO
    refine am_E.go (t2 := (211, [vR y, vI b, vI p, vL f, vU, vI k, vI i], [vI i], aq_h m s F c)) rfl rfl ?_
    refine am_E.go (t2 := (213, [vR y, vI b, vI p, vL f, vU, vI k, vI i], [vI k, vI i], aq_h m s F c)) rfl rfl ?_
    refine ae_icmp rfl (fun (q_1 : i ≤ k) => ?_) (fun (q_1 : k < i) => ?_)
    · refine am_E.go (t2 := (233, [vR y, vI b, vI p, vL f, vU, vI k, vI i], [vR y], aq_h m s F c)) rfl rfl ?_
      refine aq_gf (v := vR (y + 15)) rfl (by omega) hFo (by decide) rfl ?_
      show am_E _ (236, [vR y, vI b, vI p, vL f, vU, vI k, vI i], [vR (y + 15)], aq_h m s F c) _
      refine am_E.go (t2 := (238, [vR y, vI b, vI p, vL f, vU, vI k, vI i], [vI k, vR (y + 15)], aq_h m s F c)) rfl rfl ?_
      refine am_E.go (t2 := (239, [vR y, vI b, vI p, vL f, vU, vI k, vI i], [vI b, vI k, vR (y + 15)], aq_h m s F c)) rfl rfl ?_
      refine aq_as (kd := 0) rfl rfl (by omega) hG15 (by omega) (by omega) rfl rfl ?_
      show am_E _ (240, [vR y, vI b, vI p, vL f, vU, vI k, vI i], [], aq_h m s F (aq_u c (y + 15) k b)) _
      generalize hdc_2 : aq_u c (y + 15) k b = c_2
      have sc_2 := aq_smu hs hdc_2 (Or.inr (Or.inl rfl))
      refine am_E.go (t2 := (241, [vR y, vI b, vI p, vL f, vU, vI k, vI i], [vR y], aq_h m s F c_2)) rfl rfl ?_
      refine aq_gf (v := vR (y + 16)) rfl (by omega) hFo (by decide) rfl ?_
      show am_E _ (244, [vR y, vI b, vI p, vL f, vU, vI k, vI i], [vR (y + 16)], aq_h m s F c_2) _
      refine am_E.go (t2 := (246, [vR y, vI b, vI p, vL f, vU, vI k, vI i], [vI k, vR (y + 16)], aq_h m s F c_2)) rfl rfl ?_
      refine am_E.go (t2 := (247, [vR y, vI b, vI p, vL f, vU, vI k, vI i], [vI p, vI k, vR (y + 16)], aq_h m s F c_2)) rfl rfl ?_
      refine aq_as (kd := 0) rfl rfl (by omega) hG16 (by omega) (by omega) rfl rfl ?_
      show am_E _ (248, [vR y, vI b, vI p, vL f, vU, vI k, vI i], [], aq_h m s F (aq_u c_2 (y + 16) k p)) _
      generalize hdc_3 : aq_u c_2 (y + 16) k p = c_3
      have sc_3 := aq_smu sc_2 hdc_3 (Or.inr (Or.inr (Or.inl rfl)))
      refine am_E.go (t2 := (249, [vR y, vI b, vI p, vL f, vU, vI k, vI i], [vR y], aq_h m s F c_3)) rfl rfl ?_
      refine aq_gf (v := vR (y + 17)) rfl (by omega) hFo (by decide) rfl ?_
      show am_E _ (252, [vR y, vI b, vI p, vL f, vU, vI k, vI i], [vR (y + 17)], aq_h m s F c_3) _
      refine am_E.go (t2 := (254, [vR y, vI b, vI p, vL f, vU, vI k, vI i], [vI k, vR (y + 17)], aq_h m s F c_3)) rfl rfl ?_
      refine am_E.go (t2 := (255, [vR y, vI b, vI p, vL f, vU, vI k, vI i], [vL f, vI k, vR (y + 17)], aq_h m s F c_3)) rfl rfl ?_
      refine aq_asl rfl rfl (by omega) hG17 (by omega) (by omega) rfl ?_
      show am_E _ (256, [vR y, vI b, vI p, vL f, vU, vI k, vI i], [], aq_h m s F (aq_u c_3 (y + 17) k f)) _
      generalize hdc_4 : aq_u c_3 (y + 17) k f = c_4
      have sc_4 := aq_smu sc_3 hdc_4 (Or.inr (Or.inr (Or.inr rfl)))
      refine am_E.go (t2 := (257, [vR y, vI b, vI p, vL f, vU, vI k, vI i], [vR y], aq_h m s F c_4)) rfl rfl ?_
      refine am_E.go (t2 := (258, [vR y, vI b, vI p, vL f, vU, vI k, vI i], [vR y, vR y], aq_h m s F c_4)) rfl rfl ?_
      refine aq_gf (v := vI (c_4 y 17)) rfl (by omega) hFo (by decide) rfl ?_
      show am_E _ (261, [vR y, vI b, vI p, vL f, vU, vI k, vI i], [vI (c_4 y 17), vR y], aq_h m s F c_4) _
      have f_5 : c_4 y 17 = sz := by rw [← hdc_4, aq_un (Or.inl (by omega)), ← hdc_3, aq_un (Or.inl (by omega)), ← hdc_2, aq_un (Or.inl (by omega)), hz]
      refine am_E.go (t2 := (262, [vR y, vI b, vI p, vL f, vU, vI k, vI i], [vI 1, vI (c_4 y 17), vR y], aq_h m s F c_4)) rfl rfl ?_
      refine ae_add rfl (am_ri (by omega) (by omega)) ?_
      show am_E _ (263, [vR y, vI b, vI p, vL f, vU, vI k, vI i], [vI ((c_4 y 17) + 1), vR y], aq_h m s F c_4) _
      refine aq_pf rfl (by omega) hFo (by decide) rfl rfl ?_
      show am_E _ (266, [vR y, vI b, vI p, vL f, vU, vI k, vI i], [], aq_h m s F (aq_u c_4 y 17 ((c_4 y 17) + 1))) _
      generalize hdc_6 : aq_u c_4 y 17 ((c_4 y 17) + 1) = c_6
      have sc_6 := aq_smu sc_4 hdc_6 (Or.inl rfl)
      refine am_E.go (t2 := (267, [vR y, vI b, vI p, vL f, vU, vI k, vI i], [vI 1], aq_h m s F c_6)) rfl rfl ?_
      refine am_E.ret rfl rfl ?_
      have g17 : c_6 y 17 = sz + 1 := by rw [← hdc_6, aq_us, ← hdc_4, aq_un (Or.inl (by omega)), ← hdc_3, aq_un (Or.inl (by omega)), ← hdc_2, aq_un (Or.inl (by omega)), hz]
      have gq : mo_q y c0 c_6 := mo_qu (mo_qu (mo_qu (mo_qu hq hdc_2 (Or.inl (by omega))) hdc_3 (Or.inl (by omega))) hdc_4 (Or.inl (by omega))) hdc_6 (Or.inr (by decide))
      refine ⟨_, rfl, sc_6, rfl, gq, g17.symm, fun j h5 h6 => ?_⟩
      simp only at h6
      have n15 : c_6 (y + 15) j = if j = k then b else c (y + 15) j := by
        rw [← hdc_6, aq_un (Or.inl (by omega)), ← hdc_4, aq_un (Or.inl (by omega)), ← hdc_3, aq_un (Or.inl (by omega)), ← hdc_2]
        by_cases e : j = k
        · rw [e, aq_us, if_pos rfl]
        · rw [aq_un (Or.inr e), if_neg e]
      have n16 : c_6 (y + 16) j = if j = k then p else c (y + 16) j := by
        rw [← hdc_6, aq_un (Or.inl (by omega)), ← hdc_4, aq_un (Or.inl (by omega)), ← hdc_3]
        by_cases e : j = k
        · rw [e, aq_us, if_pos rfl]
        · rw [aq_un (Or.inr e), if_neg e, ← hdc_2, aq_un (Or.inl (by omega))]
      have n17 : c_6 (y + 17) j = if j = k then f else c (y + 17) j := by
        rw [← hdc_6, aq_un (Or.inl (by omega)), ← hdc_4]
        by_cases e : j = k
        · rw [e, aq_us, if_pos rfl]
        · rw [aq_un (Or.inr e), if_neg e, ← hdc_3, aq_un (Or.inl (by omega)), ← hdc_2, aq_un (Or.inl (by omega))]
      have a1 := hv j h5 (by omega)
      unfold mr_v sm_i
      simp only
      rw [n15, n16, n17]
      by_cases e5 : j < k
      · have a2 := a1.2 (by omega) (by omega)
        rw [if_pos e5, if_pos e5, if_pos e5, if_neg (by omega), if_neg (by omega), if_neg (by omega), a2.1, a2.2.1, a2.2.2]
        exact ⟨rfl, rfl, rfl⟩
      · by_cases e6 : j = k
        · rw [if_neg e5, if_neg e5, if_neg e5, if_pos e6, if_pos e6, if_pos e6, if_pos e6, if_pos e6, if_pos e6]
          exact ⟨rfl, rfl, rfl⟩
        · have a2 := a1.1 (by omega)
          rw [if_neg e5, if_neg e5, if_neg e5, if_neg e6, if_neg e6, if_neg e6, if_neg e6, if_neg e6, if_neg e6, a2.1, a2.2.1, a2.2.2]
          exact ⟨rfl, rfl, rfl⟩
    · refine am_E.go (t2 := (217, [vR y, vI b, vI p, vL f, vU, vI k, vI i], [vR y], aq_h m s F c)) rfl rfl ?_
      refine am_E.go (t2 := (219, [vR y, vI b, vI p, vL f, vU, vI k, vI i], [vI i, vR y], aq_h m s F c)) rfl rfl ?_
      refine am_E.go (t2 := (221, [vR y, vI b, vI p, vL f, vU, vI k, vI i], [vI i, vI i, vR y], aq_h m s F c)) rfl rfl ?_
      refine am_E.go (t2 := (222, [vR y, vI b, vI p, vL f, vU, vI k, vI i], [vI 1, vI i, vI i, vR y], aq_h m s F c)) rfl rfl ?_
      refine ae_sub rfl (am_ri (by omega) (by omega)) ?_
      show am_E _ (223, [vR y, vI b, vI p, vL f, vU, vI k, vI i], [vI (i - 1), vI i, vR y], aq_h m s F c) _
      refine aq_callv (y := 3) (as2 := [vI i, vI (i - 1)]) (rest := []) rfl rfl (by decide) (Nat.le_of_ble_eq_true rfl) rfl rfl (Nat.le_of_ble_eq_true rfl) (by omega) hFo rfl (Nat.le_of_ble_eq_true rfl) (qm_move ⟨hm, hFo, hG5, hG6, hG7, hG8, hG9, hG10, hG11, hG12, hG13, hG14, hG15, hG16, hG17, hG18, hG19, hG20, hG21, hG22, hG23⟩ (by omega) (by omega) (by omega) (by omega)) ?_
      rintro r5 h5 ⟨c_m, rfl, s_m, rfl, m15, m16, m17⟩
      show am_E _ (226, [vR y, vI b, vI p, vL f, vU, vI k, vI i], [], aq_h m s F c_m) _
      refine ae_iinc rfl rfl (am_ri (by omega) (by omega)) ?_
      show am_E _ (229, [vR y, vI b, vI p, vL f, vU, vI k, vI (i + (-1))], [], aq_h m s F c_m) _
      refine am_E.go (t2 := (209, [vR y, vI b, vI p, vL f, vU, vI k, vI (i + (-1))], [], aq_h m s F c_m)) rfl rfl ?_
      exact qx_comes_3 ⟨hm, hFo, hG5, hG6, hG7, hG8, hG9, hG10, hG11, hG12, hG13, hG14, hG15, hG16, hG17, hG18, hG19, hG20, hG21, hG22, hG23⟩ hsz hk0 d (i + (-1)) c_m (aq_smt hs (aq_smi s_m (fun a h => Or.inr h))) (by rw [s_m y (by omega) 17]; exact hz) (mo_qs hq s_m (by omega)) (by omega) (by omega) (fun j h5 h6 => by
        have a1 := hv j h5 h6
        have a2 := hv (i - 1) (by omega) (by omega)
        rw [m15 j, m16 j, m17 j]
        by_cases e : j = i
        · rw [if_pos e, if_pos e, if_pos e]
          refine ⟨fun _ => ?_, fun q => absurd q (by omega)⟩
          have a3 := a2.2 (by omega) (by omega)
          rw [a3.1, a3.2.1, a3.2.2, e]
          exact ⟨rfl, rfl, rfl⟩
        · rw [if_neg e, if_neg e, if_neg e]
          exact ⟨fun q => a1.1 (by omega), fun q q2 => a1.2 (by omega) q2⟩) (by omega)

theorem qx_comes_1 {m s : Nat} {F : aq_F} {c : aq_C} {y : Nat} (hO : mo_0 m F y) {b p f : Int} (hR1 : 0 ≤ c y 17) (hR2 : c y 17 ≤ 40) (hkf : ∀ i, 0 ≤ i → i < c y 17 → sm_ok (c (y + 17) i)) (hf : sm_ok f) (hp : p ≤ 20) {T : Int} {Z : Option am_V → am_H → Prop} : ∀ (d : Nat) (k : Int) (v6 : am_V) (h0 : 0 ≤ k) (h1 : k ≤ c y 17) (hq : sm_p (c (y + 15)) (c (y + 16)) (c y 17) b p d k = T) (hd : c y 17 - k < (d : Int)) (K0 : ∀ (k2 : Int) (f0 : 0 ≤ k2) (f1 : k2 ≤ c y 17) (f3 : k2 = T), am_E ac_X5_comes (80, [vR y, vI b, vI p, vL f, vU, vI k2, v6], [], aq_h m s F c) Z), am_E ac_X5_comes (32, [vR y, vI b, vI p, vL f, vU, vI k, v6], [], aq_h m s F c) Z
  | 0, k, v6, h0, h1, hq, hd, K0 => by exfalso; omega
  | d + 1, k, v6, h0, h1, hq, hd, K0 => by
    obtain ⟨hm, hFo, hG5, hG6, hG7, hG8, hG9, hG10, hG11, hG12, hG13, hG14, hG15, hG16, hG17, hG18, hG19, hG20, hG21, hG22, hG23⟩ := hO
    refine am_E.go (t2 := (34, [vR y, vI b, vI p, vL f, vU, vI k, v6], [vI k], aq_h m s F c)) rfl rfl ?_
    refine am_E.go (t2 := (35, [vR y, vI b, vI p, vL f, vU, vI k, v6], [vR y, vI k], aq_h m s F c)) rfl rfl ?_
    refine aq_gf (v := vI (c y 17)) rfl (by omega) hFo (by decide) rfl ?_
    show am_E _ (38, [vR y, vI b, vI p, vL f, vU, vI k, v6], [vI (c y 17), vI k], aq_h m s F c) _
    skip
    refine ae_icmp rfl (fun (q_2 : (c y 17) ≤ k) => ?_) (fun (q_2 : k < (c y 17)) => ?_)
    · exact K0 k (by omega) (by omega) (by rw [← hq, sm_p, if_neg (by omega)])
    · refine am_E.go (t2 := (42, [vR y, vI b, vI p, vL f, vU, vI k, v6], [vR y], aq_h m s F c)) rfl rfl ?_
      refine aq_gf (v := vR (y + 15)) rfl (by omega) hFo (by decide) rfl ?_
      show am_E _ (45, [vR y, vI b, vI p, vL f, vU, vI k, v6], [vR (y + 15)], aq_h m s F c) _
      refine am_E.go (t2 := (47, [vR y, vI b, vI p, vL f, vU, vI k, v6], [vI k, vR (y + 15)], aq_h m s F c)) rfl rfl ?_
      refine aq_al (ok := fun k => k == 0) (v := vI (c (y + 15) k)) rfl rfl (by omega) hG15 rfl (by omega) (by omega) rfl ?_
      show am_E _ (48, [vR y, vI b, vI p, vL f, vU, vI k, v6], [vI (c (y + 15) k)], aq_h m s F c) _
      refine am_E.go (t2 := (49, [vR y, vI b, vI p, vL f, vU, vI k, v6], [vI b, vI (c (y + 15) k)], aq_h m s F c)) rfl rfl ?_
      refine ae_icmp rfl (fun (q_3 : (c (y + 15) k) < b) => ?_) (fun (q_3 : b ≤ (c (y + 15) k)) => ?_)
      · refine ae_iinc rfl rfl (am_ri (by omega) (by omega)) ?_
        show am_E _ (77, [vR y, vI b, vI p, vL f, vU, vI (k + 1), v6], [], aq_h m s F c) _
        refine am_E.go (t2 := (32, [vR y, vI b, vI p, vL f, vU, vI (k + 1), v6], [], aq_h m s F c)) rfl rfl ?_
        exact qx_comes_1 ⟨hm, hFo, hG5, hG6, hG7, hG8, hG9, hG10, hG11, hG12, hG13, hG14, hG15, hG16, hG17, hG18, hG19, hG20, hG21, hG22, hG23⟩ hR1 hR2 hkf hf hp d (k + 1) (v6) (by omega) (by omega) (by rw [← hq, sm_p, if_pos (by omega)]) (by omega) K0
      · refine am_E.go (t2 := (53, [vR y, vI b, vI p, vL f, vU, vI k, v6], [vR y], aq_h m s F c)) rfl rfl ?_
        refine aq_gf (v := vR (y + 15)) rfl (by omega) hFo (by decide) rfl ?_
        show am_E _ (56, [vR y, vI b, vI p, vL f, vU, vI k, v6], [vR (y + 15)], aq_h m s F c) _
        refine am_E.go (t2 := (58, [vR y, vI b, vI p, vL f, vU, vI k, v6], [vI k, vR (y + 15)], aq_h m s F c)) rfl rfl ?_
        refine aq_al (ok := fun k => k == 0) (v := vI (c (y + 15) k)) rfl rfl (by omega) hG15 rfl (by omega) (by omega) rfl ?_
        show am_E _ (59, [vR y, vI b, vI p, vL f, vU, vI k, v6], [vI (c (y + 15) k)], aq_h m s F c) _
        refine am_E.go (t2 := (60, [vR y, vI b, vI p, vL f, vU, vI k, v6], [vI b, vI (c (y + 15) k)], aq_h m s F c)) rfl rfl ?_
        refine ae_icmp rfl (fun (q_4 : (c (y + 15) k) ≠ b) => ?_) (fun (q_4 : (c (y + 15) k) = b) => ?_)
        · exact K0 k (by omega) (by omega) (by rw [← hq, sm_p, if_neg (by omega)])
        · refine am_E.go (t2 := (64, [vR y, vI b, vI p, vL f, vU, vI k, v6], [vR y], aq_h m s F c)) rfl rfl ?_
          refine aq_gf (v := vR (y + 16)) rfl (by omega) hFo (by decide) rfl ?_
          show am_E _ (67, [vR y, vI b, vI p, vL f, vU, vI k, v6], [vR (y + 16)], aq_h m s F c) _
          refine am_E.go (t2 := (69, [vR y, vI b, vI p, vL f, vU, vI k, v6], [vI k, vR (y + 16)], aq_h m s F c)) rfl rfl ?_
          refine aq_al (ok := fun k => k == 0) (v := vI (c (y + 16) k)) rfl rfl (by omega) hG16 rfl (by omega) (by omega) rfl ?_
          show am_E _ (70, [vR y, vI b, vI p, vL f, vU, vI k, v6], [vI (c (y + 16) k)], aq_h m s F c) _
          refine am_E.go (t2 := (71, [vR y, vI b, vI p, vL f, vU, vI k, v6], [vI p, vI (c (y + 16) k)], aq_h m s F c)) rfl rfl ?_
          refine ae_icmp rfl (fun (q_5 : p ≤ (c (y + 16) k)) => ?_) (fun (q_5 : (c (y + 16) k) < p) => ?_)
          · exact K0 k (by omega) (by omega) (by rw [← hq, sm_p, if_neg (by omega)])
          · refine ae_iinc rfl rfl (am_ri (by omega) (by omega)) ?_
            show am_E _ (77, [vR y, vI b, vI p, vL f, vU, vI (k + 1), v6], [], aq_h m s F c) _
            refine am_E.go (t2 := (32, [vR y, vI b, vI p, vL f, vU, vI (k + 1), v6], [], aq_h m s F c)) rfl rfl ?_
            exact qx_comes_1 ⟨hm, hFo, hG5, hG6, hG7, hG8, hG9, hG10, hG11, hG12, hG13, hG14, hG15, hG16, hG17, hG18, hG19, hG20, hG21, hG22, hG23⟩ hR1 hR2 hkf hf hp d (k + 1) (v6) (by omega) (by omega) (by rw [← hq, sm_p, if_pos (by omega)]) (by omega) K0

theorem qx_comes {m s : Nat} {F : aq_F} {c : aq_C} {y : Nat} (hO : mo_0 m F y) {b p f : Int} (hR1 : 0 ≤ c y 17) (hR2 : c y 17 ≤ 40) (hkf : ∀ i, 0 ≤ i → i < c y 17 → sm_ok (c (y + 17) i)) (hf : sm_ok f) (hp : p ≤ 20) : am_E ac_X5_comes (0, [vR y, vI b, vI p, vL f, vU, vU, vU], [], aq_h m s F c) (aq_Z m s F (fun a => a = y ∨ a = y + 15 ∨ a = y + 16 ∨ a = y + 17) c (fun r d => ∃ v, r = some (vI v) ∧ mo_q y c d ∧ ((f = 0 ∧ v = 1 ∧ sm_e (mr_v y c) (mr_v y d)) ∨ (f ≠ 0 ∧ v = 0 ∧ sm_j (mr_v y c) b p f = none) ∨ (f ≠ 0 ∧ v = 1 ∧ ∃ t2, sm_j (mr_v y c) b p f = some t2 ∧ sm_e t2 (mr_v y d))))) := by
  obtain ⟨hm, hFo, hG5, hG6, hG7, hG8, hG9, hG10, hG11, hG12, hG13, hG14, hG15, hG16, hG17, hG18, hG19, hG20, hG21, hG22, hG23⟩ := hO
  refine am_E.go (t2 := (1, [vR y, vI b, vI p, vL f, vU, vU, vU], [vL f], aq_h m s F c)) rfl rfl ?_
  refine am_E.go (t2 := (2, [vR y, vI b, vI p, vL f, vU, vU, vU], [vL 0, vL f], aq_h m s F c)) rfl rfl ?_
  have ez_1 := am_lcf f 0
  refine am_E.go (t2 := (3, [vR y, vI b, vI p, vL f, vU, vU, vU], [vI (if f < 0 then -1 else if f = 0 then 0 else 1)], aq_h m s F c)) rfl rfl ?_
  generalize (if f < 0 then -1 else if f = 0 then 0 else 1) = z_1 at ez_1 ⊢
  refine ae_if0 rfl (fun (q_2 : z_1 ≠ 0) => ?_) (fun (q_2 : z_1 = 0) => ?_)
  · refine am_E.go (t2 := (9, [vR y, vI b, vI p, vL f, vU, vU, vU], [vI p], aq_h m s F c)) rfl rfl ?_
    refine am_E.go (t2 := (11, [vR y, vI b, vI p, vL f, vU, vU, vU], [vI 20, vI p], aq_h m s F c)) rfl rfl ?_
    refine ae_icmp rfl (fun (q_3 : 20 < p) => ?_) (fun (q_3 : p ≤ 20) => ?_)
    · refine am_E.go (t2 := (28, [vR y, vI b, vI p, vL f, vU, vU, vU], [vI 0], aq_h m s F c)) rfl rfl ?_
      refine am_E.ret rfl rfl ?_
      exfalso
      unfold sm_ok at hf
      omega
    · refine am_E.go (t2 := (15, [vR y, vI b, vI p, vL f, vU, vU, vU], [vL f], aq_h m s F c)) rfl rfl ?_
      refine am_E.go (t2 := (18, [vR y, vI b, vI p, vL f, vU, vU, vU], [vL (-1000000000000), vL f], aq_h m s F c)) rfl rfl ?_
      refine am_E.go (t2 := (21, [vR y, vI b, vI p, vL f, vU, vU, vU], [vL 1000000000000, vL (-1000000000000), vL f], aq_h m s F c)) rfl rfl ?_
      refine am_E.call rfl rfl rfl (Nat.le_of_ble_eq_true rfl) (qm_in) ?_
      rintro r5 h5 ⟨rfl, v_4, rfl, hv_4⟩
      show am_E _ (24, [vR y, vI b, vI p, vL f, vU, vU, vU], [vI v_4], aq_h m s F c) _
      refine ae_if0 rfl (fun (q_5 : v_4 ≠ 0) => ?_) (fun (q_5 : v_4 = 0) => ?_)
      · refine am_E.go (t2 := (30, [vR y, vI b, vI p, vL f, vU, vU, vU], [vI 0], aq_h m s F c)) rfl rfl ?_
        refine am_E.go (t2 := (32, [vR y, vI b, vI p, vL f, vU, vI 0, vU], [], aq_h m s F c)) rfl rfl ?_
        refine qx_comes_1 ⟨hm, hFo, hG5, hG6, hG7, hG8, hG9, hG10, hG11, hG12, hG13, hG14, hG15, hG16, hG17, hG18, hG19, hG20, hG21, hG22, hG23⟩ hR1 hR2 hkf hf hp 41 0 (vU) (by omega) (by omega) rfl (by omega) ?_
        · intro k2_32 f0_32 f1_32 f3_32
          refine am_E.go (t2 := (82, [vR y, vI b, vI p, vL f, vU, vI k2_32, vU], [vI k2_32], aq_h m s F c)) rfl rfl ?_
          refine am_E.go (t2 := (83, [vR y, vI b, vI p, vL f, vU, vI k2_32, vU], [vR y, vI k2_32], aq_h m s F c)) rfl rfl ?_
          refine aq_gf (v := vI (c y 17)) rfl (by omega) hFo (by decide) rfl ?_
          show am_E _ (86, [vR y, vI b, vI p, vL f, vU, vI k2_32, vU], [vI (c y 17), vI k2_32], aq_h m s F c) _
          skip
          refine ae_icmp rfl (fun (q_8 : (c y 17) ≤ k2_32) => ?_) (fun (q_8 : k2_32 < (c y 17)) => ?_)
          · refine am_E.go (t2 := (193, [vR y, vI b, vI p, vL f, vU, vI k2_32, vU], [vR y], aq_h m s F c)) rfl rfl ?_
            refine aq_gf (v := vI (c y 17)) rfl (by omega) hFo (by decide) rfl ?_
            show am_E _ (196, [vR y, vI b, vI p, vL f, vU, vI k2_32, vU], [vI (c y 17)], aq_h m s F c) _
            skip
            refine am_E.go (t2 := (198, [vR y, vI b, vI p, vL f, vU, vI k2_32, vU], [vI 40, vI (c y 17)], aq_h m s F c)) rfl rfl ?_
            refine ae_icmp rfl (fun (q_10 : (c y 17) ≠ 40) => ?_) (fun (q_10 : (c y 17) = 40) => ?_)
            · refine am_E.go (t2 := (204, [vR y, vI b, vI p, vL f, vU, vI k2_32, vU], [vR y], aq_h m s F c)) rfl rfl ?_
              refine aq_gf (v := vI (c y 17)) rfl (by omega) hFo (by decide) rfl ?_
              show am_E _ (207, [vR y, vI b, vI p, vL f, vU, vI k2_32, vU], [vI (c y 17)], aq_h m s F c) _
              skip
              refine am_E.go (t2 := (209, [vR y, vI b, vI p, vL f, vU, vI k2_32, vI (c y 17)], [], aq_h m s F c)) rfl rfl ?_
              obtain ⟨T_, eT⟩ : ∃ T_, T_ = sm_p (c (y + 15)) (c (y + 16)) (c y 17) b p 41 0 := ⟨_, rfl⟩
              have eI : k2_32 = T_ := by rw [eT]; assumption
              have ej : sm_j (mr_v y c) b p f = (if T_ < c y 17 ∧ c (y + 15) T_ = b ∧ c (y + 16) T_ = p then (if sm_ok (c (y + 17) T_ + f) then (if c (y + 17) T_ + f = 0 then some (c y 17 - 1, sm_d (c (y + 15)) T_, sm_d (c (y + 16)) T_, sm_d (c (y + 17)) T_) else some (c y 17, c (y + 15), c (y + 16), sm_s (c (y + 17)) T_ (c (y + 17) T_ + f))) else none) else if f = 0 then some (mr_v y c) else if 40 ≤ c y 17 then none else some (c y 17 + 1, sm_i (c (y + 15)) T_ b, sm_i (c (y + 16)) T_ p, sm_i (c (y + 17)) T_ f)) := by rw [eT]; rfl
              rw [if_neg (by rw [← eI]; omega), if_neg (by omega), if_neg (by omega), ← eI] at ej
              have hz_e : c y 17 = c y 17 := rfl
              have hq_e : mo_q y c c := mo_q0
              refine am_E.imp (qx_comes_3 ⟨hm, hFo, hG5, hG6, hG7, hG8, hG9, hG10, hG11, hG12, hG13, hG14, hG15, hG16, hG17, hG18, hG19, hG20, hG21, hG22, hG23⟩ (B := c (y + 15)) (P := c (y + 16)) (Q := c (y + 17)) (by omega) (by omega) 42 (c y 17) c (aq_sm0 (c := c) (S := (fun a => a = y ∨ a = y + 15 ∨ a = y + 16 ∨ a = y + 17))) hz_e hq_e (by omega) (by omega) (fun j h5 h6 => ⟨fun q => absurd q (by omega), fun _ _ => ⟨rfl, rfl, rfl⟩⟩) (by omega)) ?_
              rintro r5 h5 ⟨d5, e5, s5, q5, i5, z5⟩
              exact ⟨d5, e5, s5, 1, q5, i5, Or.inr (Or.inr ⟨by omega, rfl, _, ej, z5⟩)⟩
            · refine am_E.go (t2 := (202, [vR y, vI b, vI p, vL f, vU, vI k2_32, vU], [vI 0], aq_h m s F c)) rfl rfl ?_
              refine am_E.ret rfl rfl ?_
              obtain ⟨T_, eT⟩ : ∃ T_, T_ = sm_p (c (y + 15)) (c (y + 16)) (c y 17) b p 41 0 := ⟨_, rfl⟩
              have eI : k2_32 = T_ := by rw [eT]; assumption
              have ej : sm_j (mr_v y c) b p f = (if T_ < c y 17 ∧ c (y + 15) T_ = b ∧ c (y + 16) T_ = p then (if sm_ok (c (y + 17) T_ + f) then (if c (y + 17) T_ + f = 0 then some (c y 17 - 1, sm_d (c (y + 15)) T_, sm_d (c (y + 16)) T_, sm_d (c (y + 17)) T_) else some (c y 17, c (y + 15), c (y + 16), sm_s (c (y + 17)) T_ (c (y + 17) T_ + f))) else none) else if f = 0 then some (mr_v y c) else if 40 ≤ c y 17 then none else some (c y 17 + 1, sm_i (c (y + 15)) T_ b, sm_i (c (y + 16)) T_ p, sm_i (c (y + 17)) T_ f)) := by rw [eT]; rfl
              rw [if_neg (by rw [← eI]; omega), if_neg (by omega), if_pos (by omega)] at ej
              exact ⟨_, rfl, (aq_sm0 (c := c) (S := (fun a => a = y ∨ a = y + 15 ∨ a = y + 16 ∨ a = y + 17))), 0, rfl, mo_q0, Or.inr (Or.inl ⟨by omega, rfl, ej⟩)⟩
          · refine am_E.go (t2 := (90, [vR y, vI b, vI p, vL f, vU, vI k2_32, vU], [vR y], aq_h m s F c)) rfl rfl ?_
            refine aq_gf (v := vR (y + 15)) rfl (by omega) hFo (by decide) rfl ?_
            show am_E _ (93, [vR y, vI b, vI p, vL f, vU, vI k2_32, vU], [vR (y + 15)], aq_h m s F c) _
            refine am_E.go (t2 := (95, [vR y, vI b, vI p, vL f, vU, vI k2_32, vU], [vI k2_32, vR (y + 15)], aq_h m s F c)) rfl rfl ?_
            refine aq_al (ok := fun k => k == 0) (v := vI (c (y + 15) k2_32)) rfl rfl (by omega) hG15 rfl (by omega) (by omega) rfl ?_
            show am_E _ (96, [vR y, vI b, vI p, vL f, vU, vI k2_32, vU], [vI (c (y + 15) k2_32)], aq_h m s F c) _
            refine am_E.go (t2 := (97, [vR y, vI b, vI p, vL f, vU, vI k2_32, vU], [vI b, vI (c (y + 15) k2_32)], aq_h m s F c)) rfl rfl ?_
            refine ae_icmp rfl (fun (q_12 : (c (y + 15) k2_32) ≠ b) => ?_) (fun (q_12 : (c (y + 15) k2_32) = b) => ?_)
            · refine am_E.go (t2 := (193, [vR y, vI b, vI p, vL f, vU, vI k2_32, vU], [vR y], aq_h m s F c)) rfl rfl ?_
              refine aq_gf (v := vI (c y 17)) rfl (by omega) hFo (by decide) rfl ?_
              show am_E _ (196, [vR y, vI b, vI p, vL f, vU, vI k2_32, vU], [vI (c y 17)], aq_h m s F c) _
              skip
              refine am_E.go (t2 := (198, [vR y, vI b, vI p, vL f, vU, vI k2_32, vU], [vI 40, vI (c y 17)], aq_h m s F c)) rfl rfl ?_
              refine ae_icmp rfl (fun (q_14 : (c y 17) ≠ 40) => ?_) (fun (q_14 : (c y 17) = 40) => ?_)
              · refine am_E.go (t2 := (204, [vR y, vI b, vI p, vL f, vU, vI k2_32, vU], [vR y], aq_h m s F c)) rfl rfl ?_
                refine aq_gf (v := vI (c y 17)) rfl (by omega) hFo (by decide) rfl ?_
                show am_E _ (207, [vR y, vI b, vI p, vL f, vU, vI k2_32, vU], [vI (c y 17)], aq_h m s F c) _
                skip
                refine am_E.go (t2 := (209, [vR y, vI b, vI p, vL f, vU, vI k2_32, vI (c y 17)], [], aq_h m s F c)) rfl rfl ?_
                obtain ⟨T_, eT⟩ : ∃ T_, T_ = sm_p (c (y + 15)) (c (y + 16)) (c y 17) b p 41 0 := ⟨_, rfl⟩
                have eI : k2_32 = T_ := by rw [eT]; assumption
                have ej : sm_j (mr_v y c) b p f = (if T_ < c y 17 ∧ c (y + 15) T_ = b ∧ c (y + 16) T_ = p then (if sm_ok (c (y + 17) T_ + f) then (if c (y + 17) T_ + f = 0 then some (c y 17 - 1, sm_d (c (y + 15)) T_, sm_d (c (y + 16)) T_, sm_d (c (y + 17)) T_) else some (c y 17, c (y + 15), c (y + 16), sm_s (c (y + 17)) T_ (c (y + 17) T_ + f))) else none) else if f = 0 then some (mr_v y c) else if 40 ≤ c y 17 then none else some (c y 17 + 1, sm_i (c (y + 15)) T_ b, sm_i (c (y + 16)) T_ p, sm_i (c (y + 17)) T_ f)) := by rw [eT]; rfl
                rw [if_neg (by rw [← eI]; omega), if_neg (by omega), if_neg (by omega), ← eI] at ej
                have hz_e : c y 17 = c y 17 := rfl
                have hq_e : mo_q y c c := mo_q0
                refine am_E.imp (qx_comes_3 ⟨hm, hFo, hG5, hG6, hG7, hG8, hG9, hG10, hG11, hG12, hG13, hG14, hG15, hG16, hG17, hG18, hG19, hG20, hG21, hG22, hG23⟩ (B := c (y + 15)) (P := c (y + 16)) (Q := c (y + 17)) (by omega) (by omega) 42 (c y 17) c (aq_sm0 (c := c) (S := (fun a => a = y ∨ a = y + 15 ∨ a = y + 16 ∨ a = y + 17))) hz_e hq_e (by omega) (by omega) (fun j h5 h6 => ⟨fun q => absurd q (by omega), fun _ _ => ⟨rfl, rfl, rfl⟩⟩) (by omega)) ?_
                rintro r5 h5 ⟨d5, e5, s5, q5, i5, z5⟩
                exact ⟨d5, e5, s5, 1, q5, i5, Or.inr (Or.inr ⟨by omega, rfl, _, ej, z5⟩)⟩
              · refine am_E.go (t2 := (202, [vR y, vI b, vI p, vL f, vU, vI k2_32, vU], [vI 0], aq_h m s F c)) rfl rfl ?_
                refine am_E.ret rfl rfl ?_
                obtain ⟨T_, eT⟩ : ∃ T_, T_ = sm_p (c (y + 15)) (c (y + 16)) (c y 17) b p 41 0 := ⟨_, rfl⟩
                have eI : k2_32 = T_ := by rw [eT]; assumption
                have ej : sm_j (mr_v y c) b p f = (if T_ < c y 17 ∧ c (y + 15) T_ = b ∧ c (y + 16) T_ = p then (if sm_ok (c (y + 17) T_ + f) then (if c (y + 17) T_ + f = 0 then some (c y 17 - 1, sm_d (c (y + 15)) T_, sm_d (c (y + 16)) T_, sm_d (c (y + 17)) T_) else some (c y 17, c (y + 15), c (y + 16), sm_s (c (y + 17)) T_ (c (y + 17) T_ + f))) else none) else if f = 0 then some (mr_v y c) else if 40 ≤ c y 17 then none else some (c y 17 + 1, sm_i (c (y + 15)) T_ b, sm_i (c (y + 16)) T_ p, sm_i (c (y + 17)) T_ f)) := by rw [eT]; rfl
                rw [if_neg (by rw [← eI]; omega), if_neg (by omega), if_pos (by omega)] at ej
                exact ⟨_, rfl, (aq_sm0 (c := c) (S := (fun a => a = y ∨ a = y + 15 ∨ a = y + 16 ∨ a = y + 17))), 0, rfl, mo_q0, Or.inr (Or.inl ⟨by omega, rfl, ej⟩)⟩
            · refine am_E.go (t2 := (101, [vR y, vI b, vI p, vL f, vU, vI k2_32, vU], [vR y], aq_h m s F c)) rfl rfl ?_
              refine aq_gf (v := vR (y + 16)) rfl (by omega) hFo (by decide) rfl ?_
              show am_E _ (104, [vR y, vI b, vI p, vL f, vU, vI k2_32, vU], [vR (y + 16)], aq_h m s F c) _
              refine am_E.go (t2 := (106, [vR y, vI b, vI p, vL f, vU, vI k2_32, vU], [vI k2_32, vR (y + 16)], aq_h m s F c)) rfl rfl ?_
              refine aq_al (ok := fun k => k == 0) (v := vI (c (y + 16) k2_32)) rfl rfl (by omega) hG16 rfl (by omega) (by omega) rfl ?_
              show am_E _ (107, [vR y, vI b, vI p, vL f, vU, vI k2_32, vU], [vI (c (y + 16) k2_32)], aq_h m s F c) _
              refine am_E.go (t2 := (108, [vR y, vI b, vI p, vL f, vU, vI k2_32, vU], [vI p, vI (c (y + 16) k2_32)], aq_h m s F c)) rfl rfl ?_
              refine ae_icmp rfl (fun (q_16 : (c (y + 16) k2_32) ≠ p) => ?_) (fun (q_16 : (c (y + 16) k2_32) = p) => ?_)
              · refine am_E.go (t2 := (193, [vR y, vI b, vI p, vL f, vU, vI k2_32, vU], [vR y], aq_h m s F c)) rfl rfl ?_
                refine aq_gf (v := vI (c y 17)) rfl (by omega) hFo (by decide) rfl ?_
                show am_E _ (196, [vR y, vI b, vI p, vL f, vU, vI k2_32, vU], [vI (c y 17)], aq_h m s F c) _
                skip
                refine am_E.go (t2 := (198, [vR y, vI b, vI p, vL f, vU, vI k2_32, vU], [vI 40, vI (c y 17)], aq_h m s F c)) rfl rfl ?_
                refine ae_icmp rfl (fun (q_18 : (c y 17) ≠ 40) => ?_) (fun (q_18 : (c y 17) = 40) => ?_)
                · refine am_E.go (t2 := (204, [vR y, vI b, vI p, vL f, vU, vI k2_32, vU], [vR y], aq_h m s F c)) rfl rfl ?_
                  refine aq_gf (v := vI (c y 17)) rfl (by omega) hFo (by decide) rfl ?_
                  show am_E _ (207, [vR y, vI b, vI p, vL f, vU, vI k2_32, vU], [vI (c y 17)], aq_h m s F c) _
                  skip
                  refine am_E.go (t2 := (209, [vR y, vI b, vI p, vL f, vU, vI k2_32, vI (c y 17)], [], aq_h m s F c)) rfl rfl ?_
                  obtain ⟨T_, eT⟩ : ∃ T_, T_ = sm_p (c (y + 15)) (c (y + 16)) (c y 17) b p 41 0 := ⟨_, rfl⟩
                  have eI : k2_32 = T_ := by rw [eT]; assumption
                  have ej : sm_j (mr_v y c) b p f = (if T_ < c y 17 ∧ c (y + 15) T_ = b ∧ c (y + 16) T_ = p then (if sm_ok (c (y + 17) T_ + f) then (if c (y + 17) T_ + f = 0 then some (c y 17 - 1, sm_d (c (y + 15)) T_, sm_d (c (y + 16)) T_, sm_d (c (y + 17)) T_) else some (c y 17, c (y + 15), c (y + 16), sm_s (c (y + 17)) T_ (c (y + 17) T_ + f))) else none) else if f = 0 then some (mr_v y c) else if 40 ≤ c y 17 then none else some (c y 17 + 1, sm_i (c (y + 15)) T_ b, sm_i (c (y + 16)) T_ p, sm_i (c (y + 17)) T_ f)) := by rw [eT]; rfl
                  rw [if_neg (by rw [← eI]; omega), if_neg (by omega), if_neg (by omega), ← eI] at ej
                  have hz_e : c y 17 = c y 17 := rfl
                  have hq_e : mo_q y c c := mo_q0
                  refine am_E.imp (qx_comes_3 ⟨hm, hFo, hG5, hG6, hG7, hG8, hG9, hG10, hG11, hG12, hG13, hG14, hG15, hG16, hG17, hG18, hG19, hG20, hG21, hG22, hG23⟩ (B := c (y + 15)) (P := c (y + 16)) (Q := c (y + 17)) (by omega) (by omega) 42 (c y 17) c (aq_sm0 (c := c) (S := (fun a => a = y ∨ a = y + 15 ∨ a = y + 16 ∨ a = y + 17))) hz_e hq_e (by omega) (by omega) (fun j h5 h6 => ⟨fun q => absurd q (by omega), fun _ _ => ⟨rfl, rfl, rfl⟩⟩) (by omega)) ?_
                  rintro r5 h5 ⟨d5, e5, s5, q5, i5, z5⟩
                  exact ⟨d5, e5, s5, 1, q5, i5, Or.inr (Or.inr ⟨by omega, rfl, _, ej, z5⟩)⟩
                · refine am_E.go (t2 := (202, [vR y, vI b, vI p, vL f, vU, vI k2_32, vU], [vI 0], aq_h m s F c)) rfl rfl ?_
                  refine am_E.ret rfl rfl ?_
                  obtain ⟨T_, eT⟩ : ∃ T_, T_ = sm_p (c (y + 15)) (c (y + 16)) (c y 17) b p 41 0 := ⟨_, rfl⟩
                  have eI : k2_32 = T_ := by rw [eT]; assumption
                  have ej : sm_j (mr_v y c) b p f = (if T_ < c y 17 ∧ c (y + 15) T_ = b ∧ c (y + 16) T_ = p then (if sm_ok (c (y + 17) T_ + f) then (if c (y + 17) T_ + f = 0 then some (c y 17 - 1, sm_d (c (y + 15)) T_, sm_d (c (y + 16)) T_, sm_d (c (y + 17)) T_) else some (c y 17, c (y + 15), c (y + 16), sm_s (c (y + 17)) T_ (c (y + 17) T_ + f))) else none) else if f = 0 then some (mr_v y c) else if 40 ≤ c y 17 then none else some (c y 17 + 1, sm_i (c (y + 15)) T_ b, sm_i (c (y + 16)) T_ p, sm_i (c (y + 17)) T_ f)) := by rw [eT]; rfl
                  rw [if_neg (by rw [← eI]; omega), if_neg (by omega), if_pos (by omega)] at ej
                  exact ⟨_, rfl, (aq_sm0 (c := c) (S := (fun a => a = y ∨ a = y + 15 ∨ a = y + 16 ∨ a = y + 17))), 0, rfl, mo_q0, Or.inr (Or.inl ⟨by omega, rfl, ej⟩)⟩
              · refine am_E.go (t2 := (112, [vR y, vI b, vI p, vL f, vU, vI k2_32, vU], [vR y], aq_h m s F c)) rfl rfl ?_
                refine aq_gf (v := vR (y + 17)) rfl (by omega) hFo (by decide) rfl ?_
                show am_E _ (115, [vR y, vI b, vI p, vL f, vU, vI k2_32, vU], [vR (y + 17)], aq_h m s F c) _
                refine am_E.go (t2 := (117, [vR y, vI b, vI p, vL f, vU, vI k2_32, vU], [vI k2_32, vR (y + 17)], aq_h m s F c)) rfl rfl ?_
                refine am_E.go (t2 := (118, [vR y, vI b, vI p, vL f, vU, vI k2_32, vU], [vI k2_32, vR (y + 17), vI k2_32, vR (y + 17)], aq_h m s F c)) rfl rfl ?_
                refine aq_al (ok := fun k => k == 2) (v := vL (c (y + 17) k2_32)) rfl rfl (by omega) hG17 rfl (by omega) (by omega) rfl ?_
                show am_E _ (119, [vR y, vI b, vI p, vL f, vU, vI k2_32, vU], [vL (c (y + 17) k2_32), vI k2_32, vR (y + 17)], aq_h m s F c) _
                have f_20 := hkf k2_32 (by omega) (by omega)
                have hf_ := hf
                unfold sm_ok at f_20 hf_
                refine am_E.go (t2 := (120, [vR y, vI b, vI p, vL f, vU, vI k2_32, vU], [vL f, vL (c (y + 17) k2_32), vI k2_32, vR (y + 17)], aq_h m s F c)) rfl rfl ?_
                refine ae_binl (z := (c (y + 17) k2_32) + f) rfl rfl (by rw [am_wl_id (am_rl (by omega) (by omega))]) ?_
                show am_E _ (121, [vR y, vI b, vI p, vL f, vU, vI k2_32, vU], [vL ((c (y + 17) k2_32) + f), vI k2_32, vR (y + 17)], aq_h m s F c) _
                refine aq_asl rfl rfl (by omega) hG17 (by omega) (by omega) rfl ?_
                show am_E _ (122, [vR y, vI b, vI p, vL f, vU, vI k2_32, vU], [], aq_h m s F (aq_u c (y + 17) k2_32 ((c (y + 17) k2_32) + f))) _
                generalize hdc_21 : aq_u c (y + 17) k2_32 ((c (y + 17) k2_32) + f) = c_21
                have sc_21 := aq_smu (aq_sm0 (c := c) (S := (fun a => a = y ∨ a = y + 15 ∨ a = y + 16 ∨ a = y + 17))) hdc_21 (Or.inr (Or.inr (Or.inr rfl)))
                refine am_E.go (t2 := (123, [vR y, vI b, vI p, vL f, vU, vI k2_32, vU], [vR y], aq_h m s F c_21)) rfl rfl ?_
                refine aq_gf (v := vR (y + 17)) rfl (by omega) hFo (by decide) rfl ?_
                show am_E _ (126, [vR y, vI b, vI p, vL f, vU, vI k2_32, vU], [vR (y + 17)], aq_h m s F c_21) _
                refine am_E.go (t2 := (128, [vR y, vI b, vI p, vL f, vU, vI k2_32, vU], [vI k2_32, vR (y + 17)], aq_h m s F c_21)) rfl rfl ?_
                refine aq_al (ok := fun k => k == 2) (v := vL (c_21 (y + 17) k2_32)) rfl rfl (by omega) hG17 rfl (by omega) (by omega) rfl ?_
                show am_E _ (129, [vR y, vI b, vI p, vL f, vU, vI k2_32, vU], [vL (c_21 (y + 17) k2_32)], aq_h m s F c_21) _
                have f_22 : c_21 (y + 17) k2_32 = c (y + 17) k2_32 + f := by rw [← hdc_21, aq_us]
                refine am_E.go (t2 := (130, [vR y, vI b, vI p, vL f, vU, vI k2_32, vU], [vL 0, vL (c_21 (y + 17) k2_32)], aq_h m s F c_21)) rfl rfl ?_
                have ez_23 := am_lcf (c_21 (y + 17) k2_32) 0
                refine am_E.go (t2 := (131, [vR y, vI b, vI p, vL f, vU, vI k2_32, vU], [vI (if (c_21 (y + 17) k2_32) < 0 then -1 else if (c_21 (y + 17) k2_32) = 0 then 0 else 1)], aq_h m s F c_21)) rfl rfl ?_
                generalize (if (c_21 (y + 17) k2_32) < 0 then -1 else if (c_21 (y + 17) k2_32) = 0 then 0 else 1) = z_23 at ez_23 ⊢
                refine ae_if0 rfl (fun (q_24 : z_23 ≠ 0) => ?_) (fun (q_24 : z_23 = 0) => ?_)
                · refine am_E.go (t2 := (176, [vR y, vI b, vI p, vL f, vU, vI k2_32, vU], [vR y], aq_h m s F c_21)) rfl rfl ?_
                  refine aq_gf (v := vR (y + 17)) rfl (by omega) hFo (by decide) rfl ?_
                  show am_E _ (179, [vR y, vI b, vI p, vL f, vU, vI k2_32, vU], [vR (y + 17)], aq_h m s F c_21) _
                  refine am_E.go (t2 := (181, [vR y, vI b, vI p, vL f, vU, vI k2_32, vU], [vI k2_32, vR (y + 17)], aq_h m s F c_21)) rfl rfl ?_
                  refine aq_al (ok := fun k => k == 2) (v := vL (c_21 (y + 17) k2_32)) rfl rfl (by omega) hG17 rfl (by omega) (by omega) rfl ?_
                  show am_E _ (182, [vR y, vI b, vI p, vL f, vU, vI k2_32, vU], [vL (c_21 (y + 17) k2_32)], aq_h m s F c_21) _
                  have f_25 : c_21 (y + 17) k2_32 = c (y + 17) k2_32 + f := by rw [← hdc_21, aq_us]
                  refine am_E.go (t2 := (185, [vR y, vI b, vI p, vL f, vU, vI k2_32, vU], [vL (-1000000000000), vL (c_21 (y + 17) k2_32)], aq_h m s F c_21)) rfl rfl ?_
                  refine am_E.go (t2 := (188, [vR y, vI b, vI p, vL f, vU, vI k2_32, vU], [vL 1000000000000, vL (-1000000000000), vL (c_21 (y + 17) k2_32)], aq_h m s F c_21)) rfl rfl ?_
                  refine am_E.call rfl rfl rfl (Nat.le_of_ble_eq_true rfl) (qm_in) ?_
                  rintro r5 h5 ⟨rfl, v_26, rfl, hv_26⟩
                  show am_E _ (191, [vR y, vI b, vI p, vL f, vU, vI k2_32, vU], [vI v_26], aq_h m s F c_21) _
                  refine ae_retb rfl (by omega) ?_
                  obtain ⟨T_, eT⟩ : ∃ T_, T_ = sm_p (c (y + 15)) (c (y + 16)) (c y 17) b p 41 0 := ⟨_, rfl⟩
                  have eI : k2_32 = T_ := by rw [eT]; assumption
                  have ej : sm_j (mr_v y c) b p f = (if T_ < c y 17 ∧ c (y + 15) T_ = b ∧ c (y + 16) T_ = p then (if sm_ok (c (y + 17) T_ + f) then (if c (y + 17) T_ + f = 0 then some (c y 17 - 1, sm_d (c (y + 15)) T_, sm_d (c (y + 16)) T_, sm_d (c (y + 17)) T_) else some (c y 17, c (y + 15), c (y + 16), sm_s (c (y + 17)) T_ (c (y + 17) T_ + f))) else none) else if f = 0 then some (mr_v y c) else if 40 ≤ c y 17 then none else some (c y 17 + 1, sm_i (c (y + 15)) T_ b, sm_i (c (y + 16)) T_ p, sm_i (c (y + 17)) T_ f)) := by rw [eT]; rfl
                  rw [if_pos (by rw [← eI]; omega), ← eI] at ej
                  have gq : mo_q y c c_21 := mo_qu mo_q0 hdc_21 (Or.inl (by omega))
                  have n17 : c_21 (y + 17) k2_32 = c (y + 17) k2_32 + f := by rw [← hdc_21, aq_us]
                  refine ⟨_, rfl, sc_21, _, rfl, gq, ?_⟩
                  by_cases c2 : sm_ok (c (y + 17) k2_32 + f)
                  · refine Or.inr (Or.inr ⟨by omega, by unfold sm_ok at c2; omega, _, by rw [ej, if_pos c2, if_neg (by omega)], ?_⟩)
                    refine ⟨by show c y 17 = c_21 y 17; rw [← hdc_21, aq_un (Or.inl (by omega))], fun j j0 j1 => ?_⟩
                    unfold mr_v sm_s
                    simp only
                    rw [← hdc_21, aq_un (Or.inl (by omega)), aq_un (Or.inl (by omega))]
                    refine ⟨rfl, rfl, ?_⟩
                    by_cases e5 : j = k2_32
                    · rw [if_pos e5, e5, aq_us]
                    · rw [if_neg e5, aq_un (Or.inr e5)]
                  · exact Or.inr (Or.inl ⟨by omega, by unfold sm_ok at c2; omega, by rw [ej, if_neg c2]⟩)
                · refine am_E.go (t2 := (135, [vR y, vI b, vI p, vL f, vU, vI k2_32, vU], [vR y], aq_h m s F c_21)) rfl rfl ?_
                  refine am_E.go (t2 := (136, [vR y, vI b, vI p, vL f, vU, vI k2_32, vU], [vR y, vR y], aq_h m s F c_21)) rfl rfl ?_
                  refine aq_gf (v := vI (c_21 y 17)) rfl (by omega) hFo (by decide) rfl ?_
                  show am_E _ (139, [vR y, vI b, vI p, vL f, vU, vI k2_32, vU], [vI (c_21 y 17), vR y], aq_h m s F c_21) _
                  have f_27 : c_21 y 17 = c y 17 := by rw [← hdc_21, aq_un (Or.inl (by omega))]
                  refine am_E.go (t2 := (140, [vR y, vI b, vI p, vL f, vU, vI k2_32, vU], [vI 1, vI (c_21 y 17), vR y], aq_h m s F c_21)) rfl rfl ?_
                  refine ae_sub rfl (am_ri (by omega) (by omega)) ?_
                  show am_E _ (141, [vR y, vI b, vI p, vL f, vU, vI k2_32, vU], [vI ((c_21 y 17) - 1), vR y], aq_h m s F c_21) _
                  refine aq_pf rfl (by omega) hFo (by decide) rfl rfl ?_
                  show am_E _ (144, [vR y, vI b, vI p, vL f, vU, vI k2_32, vU], [], aq_h m s F (aq_u c_21 y 17 ((c_21 y 17) - 1))) _
                  generalize hdc_28 : aq_u c_21 y 17 ((c_21 y 17) - 1) = c_28
                  have sc_28 := aq_smu sc_21 hdc_28 (Or.inl rfl)
                  refine am_E.go (t2 := (146, [vR y, vI b, vI p, vL f, vU, vI k2_32, vU], [vI k2_32], aq_h m s F c_28)) rfl rfl ?_
                  refine am_E.go (t2 := (148, [vR y, vI b, vI p, vL f, vU, vI k2_32, vI k2_32], [], aq_h m s F c_28)) rfl rfl ?_
                  obtain ⟨T_, eT⟩ : ∃ T_, T_ = sm_p (c (y + 15)) (c (y + 16)) (c y 17) b p 41 0 := ⟨_, rfl⟩
                  have eI : k2_32 = T_ := by rw [eT]; assumption
                  have ej : sm_j (mr_v y c) b p f = (if T_ < c y 17 ∧ c (y + 15) T_ = b ∧ c (y + 16) T_ = p then (if sm_ok (c (y + 17) T_ + f) then (if c (y + 17) T_ + f = 0 then some (c y 17 - 1, sm_d (c (y + 15)) T_, sm_d (c (y + 16)) T_, sm_d (c (y + 17)) T_) else some (c y 17, c (y + 15), c (y + 16), sm_s (c (y + 17)) T_ (c (y + 17) T_ + f))) else none) else if f = 0 then some (mr_v y c) else if 40 ≤ c y 17 then none else some (c y 17 + 1, sm_i (c (y + 15)) T_ b, sm_i (c (y + 16)) T_ p, sm_i (c (y + 17)) T_ f)) := by rw [eT]; rfl
                  rw [if_pos (by rw [← eI]; omega), ← eI, if_pos (by unfold sm_ok; omega), if_pos (by omega)] at ej
                  have g1 : c_21 y 17 = c y 17 := by rw [← hdc_21, aq_un (Or.inl (by omega))]
                  have hz_e : c_28 y 17 = c y 17 - 1 := by rw [← hdc_28, aq_us, g1]
                  have hq_e : mo_q y c c_28 := mo_qu (mo_qu mo_q0 hdc_21 (Or.inl (by omega))) hdc_28 (Or.inr (by decide))
                  have w15 : ∀ j, c_28 (y + 15) j = c (y + 15) j := fun j => by rw [← hdc_28, aq_un (Or.inl (by omega)), ← hdc_21, aq_un (Or.inl (by omega))]
                  have w16 : ∀ j, c_28 (y + 16) j = c (y + 16) j := fun j => by rw [← hdc_28, aq_un (Or.inl (by omega)), ← hdc_21, aq_un (Or.inl (by omega))]
                  have w17 : ∀ j, j ≠ k2_32 → c_28 (y + 17) j = c (y + 17) j := fun j hj => by rw [← hdc_28, aq_un (Or.inl (by omega)), ← hdc_21, aq_un (Or.inr hj)]
                  refine am_E.imp (qx_comes_2 ⟨hm, hFo, hG5, hG6, hG7, hG8, hG9, hG10, hG11, hG12, hG13, hG14, hG15, hG16, hG17, hG18, hG19, hG20, hG21, hG22, hG23⟩ (sz := c y 17 - 1) (B := c_28 (y + 15)) (P := c_28 (y + 16)) (Q := c_28 (y + 17)) (by omega) (by omega) 41 k2_32 c_28 sc_28 hz_e hq_e (by omega) (by omega) (fun j h5 h6 => by by_cases e : j < k2_32; (rw [if_pos e, if_pos e, if_pos e]; unfold sm_d; rw [if_pos e, if_pos e, if_pos e]; exact ⟨rfl, rfl, rfl⟩); (rw [if_neg e, if_neg e, if_neg e]; exact ⟨rfl, rfl, rfl⟩)) (by omega)) ?_
                  rintro r5 h5 ⟨d5, e5, s5, q5, i5, z5, v5⟩
                  refine ⟨d5, e5, s5, 1, q5, i5, Or.inr (Or.inr ⟨by omega, rfl, _, ej, z5, fun j j0 j1 => ?_⟩)⟩
                  have a5 := v5 j j0 j1
                  simp only at a5 j1 ⊢
                  rw [← a5.1, ← a5.2.1, ← a5.2.2]
                  unfold sm_d
                  by_cases e6 : j < k2_32
                  · rw [if_pos e6, if_pos e6, if_pos e6, if_pos e6, if_pos e6, if_pos e6, w15, w16, w17 j (by omega)]
                    exact ⟨rfl, rfl, rfl⟩
                  · rw [if_neg e6, if_neg e6, if_neg e6, if_neg e6, if_neg e6, if_neg e6, w15, w16, w17 (j + 1) (by omega)]
                    exact ⟨rfl, rfl, rfl⟩
      · refine am_E.go (t2 := (28, [vR y, vI b, vI p, vL f, vU, vU, vU], [vI 0], aq_h m s F c)) rfl rfl ?_
        refine am_E.ret rfl rfl ?_
        exfalso
        unfold sm_ok at hf
        omega
  · refine am_E.go (t2 := (7, [vR y, vI b, vI p, vL f, vU, vU, vU], [vI 1], aq_h m s F c)) rfl rfl ?_
    refine am_E.ret rfl rfl ?_
    exact ⟨_, rfl, (aq_sm0 (c := c) (S := (fun a => a = y ∨ a = y + 15 ∨ a = y + 16 ∨ a = y + 17))), 1, rfl, mo_q0, Or.inl ⟨by omega, rfl, ⟨rfl, fun _ _ _ => ⟨rfl, rfl, rfl⟩⟩⟩⟩
