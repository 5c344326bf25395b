/-! The reference: answer of about. Printed by wip/p20/sx/gEAm.py. -/

/-- a ring of the closed box, as the reference goes -/
def rz_ (n : Int) (f : Int → Int) (m : Int) : Nat → Int → (Int → Int) → Int → Int
  | 0, _, w => w
  | d + 1, p, w => if ac_ n (f p) = m then dc_u (dc_u w (p % n)) (f p % n) else rz_ n f m d (ac_ n (f p)) (dc_u (dc_u w (p % n)) (f p % n))
def ry_ (n : Int) (f : Int → Int) : Nat → Int → Int → (Int → Int) → Int
  | 0, _, x, _ => x
  | d + 1, k, x, w => if k < n then (if w k = 0 then ry_ n f d (k + 1) (x + 1) (rz_ n f k 4 k w) else ry_ n f d (k + 1) x w) else x
theorem rc_ac (n b p : Int) : rc_s n b p = ac_ n (prt n b p) := rfl

theorem ry_1 : ∀ b : Nat, b < 1 → ry_ 1 (prt 1 b) 6 0 0 (fun _ => 0) = rg_ 1 b := by decide +kernel
theorem ry_2 : ∀ b : Nat, b < 3 → ry_ 2 (prt 2 b) 6 0 0 (fun _ => 0) = rg_ 2 b := by decide +kernel
theorem ry_3 : ∀ b : Nat, b < 15 → ry_ 3 (prt 3 b) 6 0 0 (fun _ => 0) = rg_ 3 b := by decide +kernel
theorem ry_4 : ∀ b : Nat, b < 105 → ry_ 4 (prt 4 b) 6 0 0 (fun _ => 0) = rg_ 4 b := by decide +kernel
theorem ry_e {n x : Int} (h1 : 1 ≤ n) (h4 : n ≤ 4) (x0 : 0 ≤ x) (xK : x < bx_K n) : ry_ n (prt n x) 6 0 0 (fun _ => 0) = rg_ n x := by
  have ex : ((x.toNat : Nat) : Int) = x := Int.toNat_of_nonneg x0
  have h : n = 1 ∨ n = 2 ∨ n = 3 ∨ n = 4 := by omega
  rcases h with h | h | h | h <;> subst h
  · have g : bx_K 1 = 1 := by decide
    have := ry_1 x.toNat (by omega)
    rw [ex] at this
    exact this
  · have g : bx_K 2 = 3 := by decide
    have := ry_2 x.toNat (by omega)
    rw [ex] at this
    exact this
  · have g : bx_K 3 = 15 := by decide
    have := ry_3 x.toNat (by omega)
    rw [ex] at this
    exact this
  · have g : bx_K 4 = 105 := by decide
    have := ry_4 x.toNat (by omega)
    rw [ex] at this
    exact this
theorem ud_fi {n : Int} {f : Int → Int} (h : fi n f) : fi n (ud_f n f) := by
  intro p p0 p1
  have r := ac_r (n := n) p0 p1
  have r2 := h _ r.1 r.2
  have r3 := ac_r (n := n) r2.1 r2.2.1
  refine ⟨r3.1, r3.2, fun q => ?_, ?_⟩
  · have := congrArg (ac_ n) q
    unfold ud_f at this
    rw [ac_ac r2.1 r2.2.1] at this
    exact r2.2.2.1 this
  · unfold ud_f
    rw [ac_ac r2.1 r2.2.1, r2.2.2.2, ac_ac p0 p1]

theorem qy_mthrough_l {m s : Nat} {F : aq_F} {c : aq_C} {y : Nat} (hO : mo_0 m F y) {tbl : Int → Int} (hT : mo_T F y tbl) {n bb : Int} (hn1 : 1 ≤ n) (hn4 : n ≤ 4) (hb0 : 0 ≤ bb) (hb1 : bb < bx_K n) {T : Int} : ∀ (d : Nat) (x : Int) (p : Int) (h0 : 0 ≤ p) (h1 : p ≤ n) (h2 : 0 ≤ x) (h3 : x ≤ p) (ht : th_ n (prt n bb) d p x = T) (hd : n - p < (d : Int)), am_E ac_X5_through (5, [vR y, vI n, vI bb, vI x, vI p], [], aq_h m s F c) (aq_P m s F c (fun r => r = some (vI T)))
  | 0, x, p, h0, h1, h2, h3, ht, hd => by exfalso; omega
  | d + 1, x, p, h0, h1, h2, h3, ht, hd => by
    obtain ⟨hm, hFo, hG5, hG6, hG7, hG8, hG9, hG10, hG11, hG12, hG13, hG14, hG15, hG16, hG17, hG18, hG19, hG20, hG21, hG22, hG23⟩ := hO
    obtain ⟨hT1, hTt⟩ := hT
    have hfs := mo_fs n
    have hfi := pr_fi hn1 hn4 hb0 hb1
    refine am_E.go (t2 := (7, [vR y, vI n, vI bb, vI x, vI p], [vI p], aq_h m s F c)) rfl rfl ?_
    refine am_E.go (t2 := (8, [vR y, vI n, vI bb, vI x, vI p], [vI n, vI p], aq_h m s F c)) rfl rfl ?_
    refine ae_icmp rfl (fun (q_1 : n ≤ p) => ?_) (fun (q_1 : p < n) => ?_)
    · refine am_E.go (t2 := (43, [vR y, vI n, vI bb, vI x, vI p], [vI x], aq_h m s F c)) rfl rfl ?_
      refine am_E.ret rfl rfl ?_
      refine ⟨rfl, ?_⟩
      rw [← ht, th_, if_neg (by omega)]
    · refine am_E.go (t2 := (12, [vR y, vI n, vI bb, vI x, vI p], [vI x], aq_h m s F c)) rfl rfl ?_
      refine am_E.go (t2 := (13, [vR y, vI n, vI bb, vI x, vI p], [vR y, vI x], aq_h m s F c)) rfl rfl ?_
      refine aq_gf (v := vR (y + 1)) rfl (by omega) hFo (by decide) rfl ?_
      show am_E _ (16, [vR y, vI n, vI bb, vI x, vI p], [vR (y + 1), vI x], aq_h m s F c) _
      refine am_E.go (t2 := (17, [vR y, vI n, vI bb, vI x, vI p], [vI n, vR (y + 1), vI x], aq_h m s F c)) rfl rfl ?_
      refine am_E.go (t2 := (18, [vR y, vI n, vI bb, vI x, vI p], [vI bb, vI n, vR (y + 1), vI x], aq_h m s F c)) rfl rfl ?_
      refine am_E.call rfl rfl rfl (Nat.le_of_ble_eq_true rfl) (qm_at (by omega) (by omega)) ?_
      rintro r5 h5 ⟨rfl, xa, rfl, hxa⟩
      show am_E _ (21, [vR y, vI n, vI bb, vI x, vI p], [vI xa, vR (y + 1), vI x], aq_h m s F c) _
      refine am_E.go (t2 := (23, [vR y, vI n, vI bb, vI x, vI p], [vI p, vI xa, vR (y + 1), vI x], aq_h m s F c)) rfl rfl ?_
      refine ae_add rfl (am_ri (by omega) (by omega)) ?_
      show am_E _ (24, [vR y, vI n, vI bb, vI x, vI p], [vI (xa + p), vR (y + 1), vI x], aq_h m s F c) _
      have e_t := hTt n bb p (by omega) (by omega) (by omega) (by omega) (by omega) (by omega)
      have e_fg_2 := hfi p (by omega) (by omega)
      refine aq_alt (ok := fun k => k == 0) rfl rfl (by omega) hT1 rfl (by omega) (by omega) ?_
      rw [show tbl (xa + p) = prt n bb p by rw [hxa]; exact e_t]
      show am_E _ (25, [vR y, vI n, vI bb, vI x, vI p], [vI (prt n bb p), vI x], aq_h m s F c) _
      refine am_E.go (t2 := (26, [vR y, vI n, vI bb, vI x, vI p], [vI n, vI (prt n bb p), vI x], aq_h m s F c)) rfl rfl ?_
      refine ae_icmp rfl (fun (q_3 : (prt n bb p) < n) => ?_) (fun (q_3 : n ≤ (prt n bb p)) => ?_)
      · refine am_E.go (t2 := (34, [vR y, vI n, vI bb, vI x, vI p], [vI 0, vI x], aq_h m s F c)) rfl rfl ?_
        refine ae_add rfl (am_ri (by omega) (by omega)) ?_
        show am_E _ (35, [vR y, vI n, vI bb, vI x, vI p], [vI (x + 0)], aq_h m s F c) _
        refine am_E.go (t2 := (36, [vR y, vI n, vI bb, vI (x + 0), vI p], [], aq_h m s F c)) rfl rfl ?_
        refine ae_iinc rfl rfl (am_ri (by omega) (by omega)) ?_
        show am_E _ (39, [vR y, vI n, vI bb, vI (x + 0), vI (p + 1)], [], aq_h m s F c) _
        refine am_E.go (t2 := (5, [vR y, vI n, vI bb, vI (x + 0), vI (p + 1)], [], aq_h m s F c)) rfl rfl ?_
        exact qy_mthrough_l ⟨hm, hFo, hG5, hG6, hG7, hG8, hG9, hG10, hG11, hG12, hG13, hG14, hG15, hG16, hG17, hG18, hG19, hG20, hG21, hG22, hG23⟩ ⟨hT1, hTt⟩ hn1 hn4 hb0 hb1 d (x + 0) (p + 1) (by omega) (by omega) (by omega) (by omega) (by rw [← ht, th_, if_pos (by omega)]; first | rw [if_pos (by omega)] | rw [if_neg (by omega)]) (by omega)
      · refine am_E.go (t2 := (30, [vR y, vI n, vI bb, vI x, vI p], [vI 1, vI x], aq_h m s F c)) rfl rfl ?_
        refine am_E.go (t2 := (34, [vR y, vI n, vI bb, vI x, vI p], [vI 1, vI x], aq_h m s F c)) rfl rfl ?_
        refine ae_add rfl (am_ri (by omega) (by omega)) ?_
        show am_E _ (35, [vR y, vI n, vI bb, vI x, vI p], [vI (x + 1)], aq_h m s F c) _
        refine am_E.go (t2 := (36, [vR y, vI n, vI bb, vI (x + 1), vI p], [], aq_h m s F c)) rfl rfl ?_
        refine ae_iinc rfl rfl (am_ri (by omega) (by omega)) ?_
        show am_E _ (39, [vR y, vI n, vI bb, vI (x + 1), vI (p + 1)], [], aq_h m s F c) _
        refine am_E.go (t2 := (5, [vR y, vI n, vI bb, vI (x + 1), vI (p + 1)], [], aq_h m s F c)) rfl rfl ?_
        exact qy_mthrough_l ⟨hm, hFo, hG5, hG6, hG7, hG8, hG9, hG10, hG11, hG12, hG13, hG14, hG15, hG16, hG17, hG18, hG19, hG20, hG21, hG22, hG23⟩ ⟨hT1, hTt⟩ hn1 hn4 hb0 hb1 d (x + 1) (p + 1) (by omega) (by omega) (by omega) (by omega) (by rw [← ht, th_, if_pos (by omega)]; first | rw [if_pos (by omega)] | rw [if_neg (by omega)]) (by omega)

theorem qy_mthrough {m s : Nat} {F : aq_F} {c : aq_C} {y : Nat} (hO : mo_0 m F y) {tbl : Int → Int} (hT : mo_T F y tbl) {n bb : Int} (hn1 : 1 ≤ n) (hn4 : n ≤ 4) (hb0 : 0 ≤ bb) (hb1 : bb < bx_K n) : am_E ac_X5_through (0, [vR y, vI n, vI bb, vU, vU], [], aq_h m s F c) (aq_P m s F c (fun r => r = some (vI (th_ n (prt n bb) 9 0 0)))) := by
  obtain ⟨hm, hFo, hG5, hG6, hG7, hG8, hG9, hG10, hG11, hG12, hG13, hG14, hG15, hG16, hG17, hG18, hG19, hG20, hG21, hG22, hG23⟩ := hO
  obtain ⟨hT1, hTt⟩ := hT
  have hfs := mo_fs n
  have hfi := pr_fi hn1 hn4 hb0 hb1
  refine am_E.go (t2 := (1, [vR y, vI n, vI bb, vU, vU], [vI 0], aq_h m s F c)) rfl rfl ?_
  refine am_E.go (t2 := (2, [vR y, vI n, vI bb, vI 0, vU], [], aq_h m s F c)) rfl rfl ?_
  refine am_E.go (t2 := (3, [vR y, vI n, vI bb, vI 0, vU], [vI 0], aq_h m s F c)) rfl rfl ?_
  refine am_E.go (t2 := (5, [vR y, vI n, vI bb, vI 0, vI 0], [], aq_h m s F c)) rfl rfl ?_
  exact qy_mthrough_l ⟨hm, hFo, hG5, hG6, hG7, hG8, hG9, hG10, hG11, hG12, hG13, hG14, hG15, hG16, hG17, hG18, hG19, hG20, hG21, hG22, hG23⟩ ⟨hT1, hTt⟩ hn1 hn4 hb0 hb1 9 0 0 (by omega) (by omega) (by omega) (by omega) rfl (by omega)

theorem qy_mupside_l {m s : Nat} {F : aq_F} {c0 : aq_C} {S : Nat → Prop} {y : Nat} (hO : mo_0 m F y) (hS12 : S (y + 12)) {tbl : Int → Int} (hT : mo_T F y tbl) {n bb : Int} (hn1 : 1 ≤ n) (hn4 : n ≤ 4) (hb0 : 0 ≤ bb) (hb1 : bb < bx_K n) : ∀ (d : Nat) (p : Int) (v4 : am_V) (c : aq_C) (hs : aq_sm S c0 c) (h0 : 0 ≤ p) (h1 : p ≤ 2 * n) (hz : ∀ i, 0 ≤ i → i < p → c (y + 12) (ac_ n i) = ac_ n (prt n bb i)) (hd : 2 * n - p < (d : Int)), am_E ac_X5_upsideDown (2, [vR y, vI n, vI bb, vI p, v4], [], aq_h m s F c) (aq_Z m s F S c0 (fun r _ => r = some (vI (ud_ n (prt n bb)))))
  | 0, p, v4, c, hs, h0, h1, hz, hd => by exfalso; omega
  | d + 1, p, v4, c, hs, h0, h1, hz, hd => by
    obtain ⟨hm, hFo, hG5, hG6, hG7, hG8, hG9, hG10, hG11, hG12, hG13, hG14, hG15, hG16, hG17, hG18, hG19, hG20, hG21, hG22, hG23⟩ := hO
    obtain ⟨hT1, hTt⟩ := hT
    have hfs := mo_fs n
    have hfi := pr_fi hn1 hn4 hb0 hb1
    refine am_E.go (t2 := (3, [vR y, vI n, vI bb, vI p, v4], [vI p], aq_h m s F c)) rfl rfl ?_
    refine am_E.go (t2 := (4, [vR y, vI n, vI bb, vI p, v4], [vI 2, vI p], aq_h m s F c)) rfl rfl ?_
    refine am_E.go (t2 := (5, [vR y, vI n, vI bb, vI p, v4], [vI n, vI 2, vI p], aq_h m s F c)) rfl rfl ?_
    refine ae_mul rfl (am_ri (by omega) (by omega)) ?_
    show am_E _ (6, [vR y, vI n, vI bb, vI p, v4], [vI (2 * n), vI p], aq_h m s F c) _
    refine ae_icmp rfl (fun (q_1 : (2 * n) ≤ p) => ?_) (fun (q_1 : p < (2 * n)) => ?_)
    · refine am_E.go (t2 := (66, [vR y, vI n, vI bb, vI p, v4], [vR y], aq_h m s F c)) rfl rfl ?_
      refine am_E.go (t2 := (67, [vR y, vI n, vI bb, vI p, v4], [vI n, vR y], aq_h m s F c)) rfl rfl ?_
      refine aq_callv (y := 2) (as2 := [vI n]) (rest := []) rfl rfl (by decide) (Nat.le_of_ble_eq_true rfl) rfl rfl (Nat.le_of_ble_eq_true rfl) (by omega) hFo rfl (Nat.le_of_ble_eq_true rfl) (qm_numberOf ⟨hm, hFo, hG5, hG6, hG7, hG8, hG9, hG10, hG11, hG12, hG13, hG14, hG15, hG16, hG17, hG18, hG19, hG20, hG21, hG22, hG23⟩ ⟨hT1, hTt⟩ hn1 hn4) ?_
      rintro r5 h5 ⟨rfl, v_fin, rfl, hv_fin⟩
      show am_E _ (70, [vR y, vI n, vI bb, vI p, v4], [vI v_fin], aq_h m s F c) _
      refine am_E.ret rfl rfl ?_
      have hmd : ∀ q, 0 ≤ q → q < 2 * n → c (y + 12) q = ud_f n (prt n bb) q := fun q q0 q1 => by
        have r := ac_r (n := n) q0 q1
        have := hz (ac_ n q) r.1 (by omega)
        rw [ac_ac q0 q1] at this
        exact this
      refine ⟨_, rfl, hs, ?_⟩
      rcases hv_fin with ⟨h5, h6, h7⟩ | ⟨_, h7⟩
      · have := nu_v (f := ud_f n (prt n bb)) hn1 hn4 h5 h6 (fun i k0 k1 => by rw [h7 i k0 k1, hmd i k0 k1])
        rw [← this]
        rfl
      · exfalso
        obtain ⟨b5, h8, h9, hA⟩ := pr_c hn1 hn4 (ud_fi hfi)
        obtain ⟨i, hB, hC, hD⟩ := h7 b5 h8 h9
        exact hD (by rw [hA i hB hC, hmd i hB hC])
    · refine am_E.go (t2 := (10, [vR y, vI n, vI bb, vI p, v4], [vR y], aq_h m s F c)) rfl rfl ?_
      refine aq_gf (v := vR (y + 1)) rfl (by omega) hFo (by decide) rfl ?_
      show am_E _ (13, [vR y, vI n, vI bb, vI p, v4], [vR (y + 1)], aq_h m s F c) _
      refine am_E.go (t2 := (14, [vR y, vI n, vI bb, vI p, v4], [vI n, vR (y + 1)], aq_h m s F c)) rfl rfl ?_
      refine am_E.go (t2 := (15, [vR y, vI n, vI bb, vI p, v4], [vI bb, vI n, vR (y + 1)], aq_h m s F c)) rfl rfl ?_
      refine am_E.call rfl rfl rfl (Nat.le_of_ble_eq_true rfl) (qm_at (by omega) (by omega)) ?_
      rintro r5 h5 ⟨rfl, xa, rfl, hxa⟩
      show am_E _ (18, [vR y, vI n, vI bb, vI p, v4], [vI xa, vR (y + 1)], aq_h m s F c) _
      refine am_E.go (t2 := (19, [vR y, vI n, vI bb, vI p, v4], [vI p, vI xa, vR (y + 1)], aq_h m s F c)) rfl rfl ?_
      refine ae_add rfl (am_ri (by omega) (by omega)) ?_
      show am_E _ (20, [vR y, vI n, vI bb, vI p, v4], [vI (xa + p), vR (y + 1)], aq_h m s F c) _
      have e_t := hTt n bb p (by omega) (by omega) (by omega) (by omega) (by omega) (by omega)
      have e_fg_2 := hfi p (by omega) (by omega)
      refine aq_alt (ok := fun k => k == 0) rfl rfl (by omega) hT1 rfl (by omega) (by omega) ?_
      rw [show tbl (xa + p) = prt n bb p by rw [hxa]; exact e_t]
      show am_E _ (21, [vR y, vI n, vI bb, vI p, v4], [vI (prt n bb p)], aq_h m s F c) _
      refine am_E.go (t2 := (23, [vR y, vI n, vI bb, vI p, vI (prt n bb p)], [], aq_h m s F c)) rfl rfl ?_
      refine am_E.go (t2 := (24, [vR y, vI n, vI bb, vI p, vI (prt n bb p)], [vR y], aq_h m s F c)) rfl rfl ?_
      refine aq_gf (v := vR (y + 12)) rfl (by omega) hFo (by decide) rfl ?_
      show am_E _ (27, [vR y, vI n, vI bb, vI p, vI (prt n bb p)], [vR (y + 12)], aq_h m s F c) _
      refine am_E.go (t2 := (28, [vR y, vI n, vI bb, vI p, vI (prt n bb p)], [vI p, vR (y + 12)], aq_h m s F c)) rfl rfl ?_
      refine am_E.go (t2 := (29, [vR y, vI n, vI bb, vI p, vI (prt n bb p)], [vI n, vI p, vR (y + 12)], aq_h m s F c)) rfl rfl ?_
      refine ae_icmp rfl (fun (q_3 : n ≤ p) => ?_) (fun (q_3 : p < n) => ?_)
      · refine am_E.go (t2 := (39, [vR y, vI n, vI bb, vI p, vI (prt n bb p)], [vI p, vR (y + 12)], aq_h m s F c)) rfl rfl ?_
        refine am_E.go (t2 := (40, [vR y, vI n, vI bb, vI p, vI (prt n bb p)], [vI n, vI p, vR (y + 12)], aq_h m s F c)) rfl rfl ?_
        refine ae_sub rfl (am_ri (by omega) (by omega)) ?_
        show am_E _ (41, [vR y, vI n, vI bb, vI p, vI (prt n bb p)], [vI (p - n), vR (y + 12)], aq_h m s F c) _
        refine am_E.go (t2 := (43, [vR y, vI n, vI bb, vI p, vI (prt n bb p)], [vI (prt n bb p), vI (p - n), vR (y + 12)], aq_h m s F c)) rfl rfl ?_
        refine am_E.go (t2 := (44, [vR y, vI n, vI bb, vI p, vI (prt n bb p)], [vI n, vI (prt n bb p), vI (p - n), vR (y + 12)], aq_h m s F c)) rfl rfl ?_
        refine ae_icmp rfl (fun (q_4 : n ≤ (prt n bb p)) => ?_) (fun (q_4 : (prt n bb p) < n) => ?_)
        · refine am_E.go (t2 := (56, [vR y, vI n, vI bb, vI p, vI (prt n bb p)], [vI (prt n bb p), vI (p - n), vR (y + 12)], aq_h m s F c)) rfl rfl ?_
          refine am_E.go (t2 := (57, [vR y, vI n, vI bb, vI p, vI (prt n bb p)], [vI n, vI (prt n bb p), vI (p - n), vR (y + 12)], aq_h m s F c)) rfl rfl ?_
          refine ae_sub rfl (am_ri (by omega) (by omega)) ?_
          show am_E _ (58, [vR y, vI n, vI bb, vI p, vI (prt n bb p)], [vI ((prt n bb p) - n), vI (p - n), vR (y + 12)], aq_h m s F c) _
          refine aq_as (kd := 0) rfl rfl (by omega) hG12 (by omega) (by omega) rfl rfl ?_
          show am_E _ (59, [vR y, vI n, vI bb, vI p, vI (prt n bb p)], [], aq_h m s F (aq_u c (y + 12) (p - n) ((prt n bb p) - n))) _
          have eA1 : (p - n) = ac_ n p := by unfold ac_; first | rw [if_pos (by omega)] | (rw [if_neg (by omega)])
          have eA2 : ((prt n bb p) - n) = ac_ n (prt n bb p) := by unfold ac_; first | rw [if_pos (by omega)] | (rw [if_neg (by omega)])
          generalize hdc_5 : aq_u c (y + 12) (p - n) ((prt n bb p) - n) = c_5
          have sc_5 := aq_smu hs hdc_5 hS12
          refine ae_iinc rfl rfl (am_ri (by omega) (by omega)) ?_
          show am_E _ (62, [vR y, vI n, vI bb, vI (p + 1), vI (prt n bb p)], [], aq_h m s F c_5) _
          refine am_E.go (t2 := (2, [vR y, vI n, vI bb, vI (p + 1), vI (prt n bb p)], [], aq_h m s F c_5)) rfl rfl ?_
          exact qy_mupside_l ⟨hm, hFo, hG5, hG6, hG7, hG8, hG9, hG10, hG11, hG12, hG13, hG14, hG15, hG16, hG17, hG18, hG19, hG20, hG21, hG22, hG23⟩ hS12 ⟨hT1, hTt⟩ hn1 hn4 hb0 hb1 d (p + 1) (vI (prt n bb p)) c_5 sc_5 (by omega) (by omega) (fun i h5 h6 => by rw [← hdc_5]; by_cases e : i = p; (rw [e, ← eA1, ← eA2, aq_us]); (rw [aq_un (Or.inr (by rw [eA1]; exact ac_i h5 (by omega) h0 (by omega) e))]; exact hz i h5 (by omega))) (by omega)
        · refine am_E.go (t2 := (49, [vR y, vI n, vI bb, vI p, vI (prt n bb p)], [vI (prt n bb p), vI (p - n), vR (y + 12)], aq_h m s F c)) rfl rfl ?_
          refine am_E.go (t2 := (50, [vR y, vI n, vI bb, vI p, vI (prt n bb p)], [vI n, vI (prt n bb p), vI (p - n), vR (y + 12)], aq_h m s F c)) rfl rfl ?_
          refine ae_add rfl (am_ri (by omega) (by omega)) ?_
          show am_E _ (51, [vR y, vI n, vI bb, vI p, vI (prt n bb p)], [vI ((prt n bb p) + n), vI (p - n), vR (y + 12)], aq_h m s F c) _
          refine am_E.go (t2 := (58, [vR y, vI n, vI bb, vI p, vI (prt n bb p)], [vI ((prt n bb p) + n), vI (p - n), vR (y + 12)], aq_h m s F c)) rfl rfl ?_
          refine aq_as (kd := 0) rfl rfl (by omega) hG12 (by omega) (by omega) rfl rfl ?_
          show am_E _ (59, [vR y, vI n, vI bb, vI p, vI (prt n bb p)], [], aq_h m s F (aq_u c (y + 12) (p - n) ((prt n bb p) + n))) _
          have eA1 : (p - n) = ac_ n p := by unfold ac_; first | rw [if_pos (by omega)] | (rw [if_neg (by omega)])
          have eA2 : ((prt n bb p) + n) = ac_ n (prt n bb p) := by unfold ac_; first | rw [if_pos (by omega)] | (rw [if_neg (by omega)])
          generalize hdc_6 : aq_u c (y + 12) (p - n) ((prt n bb p) + n) = c_6
          have sc_6 := aq_smu hs hdc_6 hS12
          refine ae_iinc rfl rfl (am_ri (by omega) (by omega)) ?_
          show am_E _ (62, [vR y, vI n, vI bb, vI (p + 1), vI (prt n bb p)], [], aq_h m s F c_6) _
          refine am_E.go (t2 := (2, [vR y, vI n, vI bb, vI (p + 1), vI (prt n bb p)], [], aq_h m s F c_6)) rfl rfl ?_
          exact qy_mupside_l ⟨hm, hFo, hG5, hG6, hG7, hG8, hG9, hG10, hG11, hG12, hG13, hG14, hG15, hG16, hG17, hG18, hG19, hG20, hG21, hG22, hG23⟩ hS12 ⟨hT1, hTt⟩ hn1 hn4 hb0 hb1 d (p + 1) (vI (prt n bb p)) c_6 sc_6 (by omega) (by omega) (fun i h5 h6 => by rw [← hdc_6]; by_cases e : i = p; (rw [e, ← eA1, ← eA2, aq_us]); (rw [aq_un (Or.inr (by rw [eA1]; exact ac_i h5 (by omega) h0 (by omega) e))]; exact hz i h5 (by omega))) (by omega)
      · refine am_E.go (t2 := (33, [vR y, vI n, vI bb, vI p, vI (prt n bb p)], [vI p, vR (y + 12)], aq_h m s F c)) rfl rfl ?_
        refine am_E.go (t2 := (34, [vR y, vI n, vI bb, vI p, vI (prt n bb p)], [vI n, vI p, vR (y + 12)], aq_h m s F c)) rfl rfl ?_
        refine ae_add rfl (am_ri (by omega) (by omega)) ?_
        show am_E _ (35, [vR y, vI n, vI bb, vI p, vI (prt n bb p)], [vI (p + n), vR (y + 12)], aq_h m s F c) _
        refine am_E.go (t2 := (41, [vR y, vI n, vI bb, vI p, vI (prt n bb p)], [vI (p + n), vR (y + 12)], aq_h m s F c)) rfl rfl ?_
        refine am_E.go (t2 := (43, [vR y, vI n, vI bb, vI p, vI (prt n bb p)], [vI (prt n bb p), vI (p + n), vR (y + 12)], aq_h m s F c)) rfl rfl ?_
        refine am_E.go (t2 := (44, [vR y, vI n, vI bb, vI p, vI (prt n bb p)], [vI n, vI (prt n bb p), vI (p + n), vR (y + 12)], aq_h m s F c)) rfl rfl ?_
        refine ae_icmp rfl (fun (q_7 : n ≤ (prt n bb p)) => ?_) (fun (q_7 : (prt n bb p) < n) => ?_)
        · refine am_E.go (t2 := (56, [vR y, vI n, vI bb, vI p, vI (prt n bb p)], [vI (prt n bb p), vI (p + n), vR (y + 12)], aq_h m s F c)) rfl rfl ?_
          refine am_E.go (t2 := (57, [vR y, vI n, vI bb, vI p, vI (prt n bb p)], [vI n, vI (prt n bb p), vI (p + n), vR (y + 12)], aq_h m s F c)) rfl rfl ?_
          refine ae_sub rfl (am_ri (by omega) (by omega)) ?_
          show am_E _ (58, [vR y, vI n, vI bb, vI p, vI (prt n bb p)], [vI ((prt n bb p) - n), vI (p + n), vR (y + 12)], aq_h m s F c) _
          refine aq_as (kd := 0) rfl rfl (by omega) hG12 (by omega) (by omega) rfl rfl ?_
          show am_E _ (59, [vR y, vI n, vI bb, vI p, vI (prt n bb p)], [], aq_h m s F (aq_u c (y + 12) (p + n) ((prt n bb p) - n))) _
          have eA1 : (p + n) = ac_ n p := by unfold ac_; first | rw [if_pos (by omega)] | (rw [if_neg (by omega)])
          have eA2 : ((prt n bb p) - n) = ac_ n (prt n bb p) := by unfold ac_; first | rw [if_pos (by omega)] | (rw [if_neg (by omega)])
          generalize hdc_8 : aq_u c (y + 12) (p + n) ((prt n bb p) - n) = c_8
          have sc_8 := aq_smu hs hdc_8 hS12
          refine ae_iinc rfl rfl (am_ri (by omega) (by omega)) ?_
          show am_E _ (62, [vR y, vI n, vI bb, vI (p + 1), vI (prt n bb p)], [], aq_h m s F c_8) _
          refine am_E.go (t2 := (2, [vR y, vI n, vI bb, vI (p + 1), vI (prt n bb p)], [], aq_h m s F c_8)) rfl rfl ?_
          exact qy_mupside_l ⟨hm, hFo, hG5, hG6, hG7, hG8, hG9, hG10, hG11, hG12, hG13, hG14, hG15, hG16, hG17, hG18, hG19, hG20, hG21, hG22, hG23⟩ hS12 ⟨hT1, hTt⟩ hn1 hn4 hb0 hb1 d (p + 1) (vI (prt n bb p)) c_8 sc_8 (by omega) (by omega) (fun i h5 h6 => by rw [← hdc_8]; by_cases e : i = p; (rw [e, ← eA1, ← eA2, aq_us]); (rw [aq_un (Or.inr (by rw [eA1]; exact ac_i h5 (by omega) h0 (by omega) e))]; exact hz i h5 (by omega))) (by omega)
        · refine am_E.go (t2 := (49, [vR y, vI n, vI bb, vI p, vI (prt n bb p)], [vI (prt n bb p), vI (p + n), vR (y + 12)], aq_h m s F c)) rfl rfl ?_
          refine am_E.go (t2 := (50, [vR y, vI n, vI bb, vI p, vI (prt n bb p)], [vI n, vI (prt n bb p), vI (p + n), vR (y + 12)], aq_h m s F c)) rfl rfl ?_
          refine ae_add rfl (am_ri (by omega) (by omega)) ?_
          show am_E _ (51, [vR y, vI n, vI bb, vI p, vI (prt n bb p)], [vI ((prt n bb p) + n), vI (p + n), vR (y + 12)], aq_h m s F c) _
          refine am_E.go (t2 := (58, [vR y, vI n, vI bb, vI p, vI (prt n bb p)], [vI ((prt n bb p) + n), vI (p + n), vR (y + 12)], aq_h m s F c)) rfl rfl ?_
          refine aq_as (kd := 0) rfl rfl (by omega) hG12 (by omega) (by omega) rfl rfl ?_
          show am_E _ (59, [vR y, vI n, vI bb, vI p, vI (prt n bb p)], [], aq_h m s F (aq_u c (y + 12) (p + n) ((prt n bb p) + n))) _
          have eA1 : (p + n) = ac_ n p := by unfold ac_; first | rw [if_pos (by omega)] | (rw [if_neg (by omega)])
          have eA2 : ((prt n bb p) + n) = ac_ n (prt n bb p) := by unfold ac_; first | rw [if_pos (by omega)] | (rw [if_neg (by omega)])
          generalize hdc_9 : aq_u c (y + 12) (p + n) ((prt n bb p) + n) = c_9
          have sc_9 := aq_smu hs hdc_9 hS12
          refine ae_iinc rfl rfl (am_ri (by omega) (by omega)) ?_
          show am_E _ (62, [vR y, vI n, vI bb, vI (p + 1), vI (prt n bb p)], [], aq_h m s F c_9) _
          refine am_E.go (t2 := (2, [vR y, vI n, vI bb, vI (p + 1), vI (prt n bb p)], [], aq_h m s F c_9)) rfl rfl ?_
          exact qy_mupside_l ⟨hm, hFo, hG5, hG6, hG7, hG8, hG9, hG10, hG11, hG12, hG13, hG14, hG15, hG16, hG17, hG18, hG19, hG20, hG21, hG22, hG23⟩ hS12 ⟨hT1, hTt⟩ hn1 hn4 hb0 hb1 d (p + 1) (vI (prt n bb p)) c_9 sc_9 (by omega) (by omega) (fun i h5 h6 => by rw [← hdc_9]; by_cases e : i = p; (rw [e, ← eA1, ← eA2, aq_us]); (rw [aq_un (Or.inr (by rw [eA1]; exact ac_i h5 (by omega) h0 (by omega) e))]; exact hz i h5 (by omega))) (by omega)

theorem qy_mupside {m s : Nat} {F : aq_F} {c : aq_C} {S : Nat → Prop} {y : Nat} (hO : mo_0 m F y) (hS12 : S (y + 12)) {tbl : Int → Int} (hT : mo_T F y tbl) {n bb : Int} (hn1 : 1 ≤ n) (hn4 : n ≤ 4) (hb0 : 0 ≤ bb) (hb1 : bb < bx_K n) : am_E ac_X5_upsideDown (0, [vR y, vI n, vI bb, vU, vU], [], aq_h m s F c) (aq_Z m s F S c (fun r _ => r = some (vI (ud_ n (prt n bb))))) := by
  obtain ⟨hm, hFo, hG5, hG6, hG7, hG8, hG9, hG10, hG11, hG12, hG13, hG14, hG15, hG16, hG17, hG18, hG19, hG20, hG21, hG22, hG23⟩ := hO
  obtain ⟨hT1, hTt⟩ := hT
  have hfs := mo_fs n
  have hfi := pr_fi hn1 hn4 hb0 hb1
  refine am_E.go (t2 := (1, [vR y, vI n, vI bb, vU, vU], [vI 0], aq_h m s F c)) rfl rfl ?_
  refine am_E.go (t2 := (2, [vR y, vI n, vI bb, vI 0, vU], [], aq_h m s F c)) rfl rfl ?_
  exact qy_mupside_l ⟨hm, hFo, hG5, hG6, hG7, hG8, hG9, hG10, hG11, hG12, hG13, hG14, hG15, hG16, hG17, hG18, hG19, hG20, hG21, hG22, hG23⟩ hS12 ⟨hT1, hTt⟩ hn1 hn4 hb0 hb1 9 0 (vU) c aq_sm0 (by omega) (by omega) (fun i h5 h6 => absurd h6 (by omega)) (by omega)

theorem qy_rings_3 {m s : Nat} {F : aq_F} {c0 : aq_C} {S : Nat → Prop} {y : Nat} (hO : mo_0 m F y) (hS13 : S (y + 13)) {tbl : Int → Int} (hT : mo_T F y tbl) {n bb : Int} (hn1 : 1 ≤ n) (hn4 : n ≤ 4) (hb0 : 0 ≤ bb) (hb1 : bb < bx_K n) {xa : Int} (hxa : xa = 8 * (mo_f n + bb)) {T : Int} {Wd : Int → Int} : ∀ (d : Nat) (w : Int → Int) (x : Int) (k : Int) (p : Int) (v8 : am_V) (c : aq_C) (hs : aq_sm S c0 c) (h0 : 0 ≤ p) (h1 : p < 2 * n) (hw : ∀ q, 0 ≤ q → q < 4 → c (y + 13) q = w q) (he : rc_d n bb k d p) (ht : rz_ n (prt n bb) k d p w = Wd) (K0 : ∀ (p2 : Int) (v82 : am_V) (c2 : aq_C) (hs2 : aq_sm S c0 c2) (hw2 : ∀ q, 0 ≤ q → q < 4 → c2 (y + 13) q = Wd q), am_E ac_X5_ringsClosed (133, [vR y, vI n, vI bb, vI xa, vI x, vI k, vI p2, vI 0, v82], [], aq_h m s F c2) (aq_Z m s F S c0 (fun r d => r = some (vI T)))), am_E ac_X5_ringsClosed (61, [vR y, vI n, vI bb, vI xa, vI x, vI k, vI p, vI 1, v8], [], aq_h m s F c) (aq_Z m s F S c0 (fun r d => r = some (vI T)))
  | 0, w, x, k, p, v8, c, hs, h0, h1, hw, he, ht, K0 => he.elim
  | d + 1, w, x, k, p, v8, c, hs, h0, h1, hw, he, ht, K0 => by
    obtain ⟨hm, hFo, hG5, hG6, hG7, hG8, hG9, hG10, hG11, hG12, hG13, hG14, hG15, hG16, hG17, hG18, hG19, hG20, hG21, hG22, hG23⟩ := hO
    obtain ⟨hT1, hTt⟩ := hT
    have hfs := mo_fs n
    have hfi := pr_fi hn1 hn4 hb0 hb1
    refine am_E.go (t2 := (63, [vR y, vI n, vI bb, vI xa, vI x, vI k, vI p, vI 1, v8], [vI 1], aq_h m s F c)) rfl rfl ?_
    refine am_E.go (t2 := (66, [vR y, vI n, vI bb, vI xa, vI x, vI k, vI p, vI 1, v8], [], aq_h m s F c)) rfl rfl ?_
    refine am_E.go (t2 := (67, [vR y, vI n, vI bb, vI xa, vI x, vI k, vI p, vI 1, v8], [vR y], aq_h m s F c)) rfl rfl ?_
    refine aq_gf (v := vR (y + 13)) rfl (by omega) hFo (by decide) rfl ?_
    show am_E _ (70, [vR y, vI n, vI bb, vI xa, vI x, vI k, vI p, vI 1, v8], [vR (y + 13)], aq_h m s F c) _
    refine am_E.go (t2 := (72, [vR y, vI n, vI bb, vI xa, vI x, vI k, vI p, vI 1, v8], [vI p, vR (y + 13)], aq_h m s F c)) rfl rfl ?_
    refine am_E.go (t2 := (73, [vR y, vI n, vI bb, vI xa, vI x, vI k, vI p, vI 1, v8], [vI n, vI p, vR (y + 13)], aq_h m s F c)) rfl rfl ?_
    have g_1a := Int.emod_nonneg p (show n ≠ 0 by omega)
    have g_1b := Int.emod_lt_of_pos p (show 0 < n by omega)
    refine ae_bin (z := p % n) rfl rfl (am_rem_e (by omega) (by omega)) ?_
    refine am_E.go (t2 := (75, [vR y, vI n, vI bb, vI xa, vI x, vI k, vI p, vI 1, v8], [vI 1, vI (p % n), vR (y + 13)], aq_h m s F c)) rfl rfl ?_
    refine aq_as (kd := 1) rfl rfl (by omega) hG13 (by omega) (by omega) rfl rfl ?_
    show am_E _ (76, [vR y, vI n, vI bb, vI xa, vI x, vI k, vI p, vI 1, v8], [], aq_h m s F (aq_u c (y + 13) (p % n) 1)) _
    generalize hdc_2 : aq_u c (y + 13) (p % n) 1 = c_2
    have sc_2 := aq_smu hs hdc_2 hS13
    have wc_2 := dc_ac2 hw hdc_2
    refine am_E.go (t2 := (77, [vR y, vI n, vI bb, vI xa, vI x, vI k, vI p, vI 1, v8], [vR y], aq_h m s F c_2)) rfl rfl ?_
    refine aq_gf (v := vR (y + 1)) rfl (by omega) hFo (by decide) rfl ?_
    show am_E _ (80, [vR y, vI n, vI bb, vI xa, vI x, vI k, vI p, vI 1, v8], [vR (y + 1)], aq_h m s F c_2) _
    refine am_E.go (t2 := (81, [vR y, vI n, vI bb, vI xa, vI x, vI k, vI p, vI 1, v8], [vI xa, vR (y + 1)], aq_h m s F c_2)) rfl rfl ?_
    refine am_E.go (t2 := (83, [vR y, vI n, vI bb, vI xa, vI x, vI k, vI p, vI 1, v8], [vI p, vI xa, vR (y + 1)], aq_h m s F c_2)) rfl rfl ?_
    refine ae_add rfl (am_ri (by omega) (by omega)) ?_
    show am_E _ (84, [vR y, vI n, vI bb, vI xa, vI x, vI k, vI p, vI 1, v8], [vI (xa + p), vR (y + 1)], aq_h m s F c_2) _
    have e_t0 := hTt n bb p (by omega) (by omega) (by omega) (by omega) (by omega) (by omega)
    have e_f0 := hfi p (by omega) (by omega)
    refine aq_alt (ok := fun k => k == 0) rfl rfl (by omega) hT1 rfl (by omega) (by omega) ?_
    rw [hxa, e_t0, ← hxa]
    show am_E _ (85, [vR y, vI n, vI bb, vI xa, vI x, vI k, vI p, vI 1, v8], [vI (prt n bb p)], aq_h m s F c_2) _
    refine am_E.go (t2 := (87, [vR y, vI n, vI bb, vI xa, vI x, vI k, vI p, vI 1, vI (prt n bb p)], [], aq_h m s F c_2)) rfl rfl ?_
    refine am_E.go (t2 := (88, [vR y, vI n, vI bb, vI xa, vI x, vI k, vI p, vI 1, vI (prt n bb p)], [vR y], aq_h m s F c_2)) rfl rfl ?_
    refine aq_gf (v := vR (y + 13)) rfl (by omega) hFo (by decide) rfl ?_
    show am_E _ (91, [vR y, vI n, vI bb, vI xa, vI x, vI k, vI p, vI 1, vI (prt n bb p)], [vR (y + 13)], aq_h m s F c_2) _
    refine am_E.go (t2 := (93, [vR y, vI n, vI bb, vI xa, vI x, vI k, vI p, vI 1, vI (prt n bb p)], [vI (prt n bb p), vR (y + 13)], aq_h m s F c_2)) rfl rfl ?_
    refine am_E.go (t2 := (94, [vR y, vI n, vI bb, vI xa, vI x, vI k, vI p, vI 1, vI (prt n bb p)], [vI n, vI (prt n bb p), vR (y + 13)], aq_h m s F c_2)) rfl rfl ?_
    have g_3a := Int.emod_nonneg (prt n bb p) (show n ≠ 0 by omega)
    have g_3b := Int.emod_lt_of_pos (prt n bb p) (show 0 < n by omega)
    refine ae_bin (z := (prt n bb p) % n) rfl rfl (am_rem_e (by omega) (by omega)) ?_
    refine am_E.go (t2 := (96, [vR y, vI n, vI bb, vI xa, vI x, vI k, vI p, vI 1, vI (prt n bb p)], [vI 1, vI ((prt n bb p) % n), vR (y + 13)], aq_h m s F c_2)) rfl rfl ?_
    refine aq_as (kd := 1) rfl rfl (by omega) hG13 (by omega) (by omega) rfl rfl ?_
    show am_E _ (97, [vR y, vI n, vI bb, vI xa, vI x, vI k, vI p, vI 1, vI (prt n bb p)], [], aq_h m s F (aq_u c_2 (y + 13) ((prt n bb p) % n) 1)) _
    generalize hdc_4 : aq_u c_2 (y + 13) ((prt n bb p) % n) 1 = c_4
    have sc_4 := aq_smu sc_2 hdc_4 hS13
    have wc_4 := dc_ac2 wc_2 hdc_4
    refine am_E.go (t2 := (99, [vR y, vI n, vI bb, vI xa, vI x, vI k, vI p, vI 1, vI (prt n bb p)], [vI (prt n bb p)], aq_h m s F c_4)) rfl rfl ?_
    refine am_E.go (t2 := (100, [vR y, vI n, vI bb, vI xa, vI x, vI k, vI p, vI 1, vI (prt n bb p)], [vI n, vI (prt n bb p)], aq_h m s F c_4)) rfl rfl ?_
    refine ae_icmp rfl (fun (q_5 : n ≤ (prt n bb p)) => ?_) (fun (q_5 : (prt n bb p) < n) => ?_)
    · refine am_E.go (t2 := (112, [vR y, vI n, vI bb, vI xa, vI x, vI k, vI p, vI 1, vI (prt n bb p)], [vI (prt n bb p)], aq_h m s F c_4)) rfl rfl ?_
      refine am_E.go (t2 := (113, [vR y, vI n, vI bb, vI xa, vI x, vI k, vI p, vI 1, vI (prt n bb p)], [vI n, vI (prt n bb p)], aq_h m s F c_4)) rfl rfl ?_
      refine ae_sub rfl (am_ri (by omega) (by omega)) ?_
      show am_E _ (114, [vR y, vI n, vI bb, vI xa, vI x, vI k, vI p, vI 1, vI (prt n bb p)], [vI ((prt n bb p) - n)], aq_h m s F c_4) _
      refine am_E.go (t2 := (116, [vR y, vI n, vI bb, vI xa, vI x, vI k, vI ((prt n bb p) - n), vI 1, vI (prt n bb p)], [], aq_h m s F c_4)) rfl rfl ?_
      refine am_E.go (t2 := (118, [vR y, vI n, vI bb, vI xa, vI x, vI k, vI ((prt n bb p) - n), vI 1, vI (prt n bb p)], [vI ((prt n bb p) - n)], aq_h m s F c_4)) rfl rfl ?_
      refine am_E.go (t2 := (120, [vR y, vI n, vI bb, vI xa, vI x, vI k, vI ((prt n bb p) - n), vI 1, vI (prt n bb p)], [vI k, vI ((prt n bb p) - n)], aq_h m s F c_4)) rfl rfl ?_
      refine ae_icmp rfl (fun (q_6 : ((prt n bb p) - n) = k) => ?_) (fun (q_6 : ((prt n bb p) - n) ≠ k) => ?_)
      · refine am_E.go (t2 := (128, [vR y, vI n, vI bb, vI xa, vI x, vI k, vI ((prt n bb p) - n), vI 1, vI (prt n bb p)], [vI 0], aq_h m s F c_4)) rfl rfl ?_
        refine am_E.go (t2 := (130, [vR y, vI n, vI bb, vI xa, vI x, vI k, vI ((prt n bb p) - n), vI 0, vI (prt n bb p)], [], aq_h m s F c_4)) rfl rfl ?_
        refine am_E.go (t2 := (61, [vR y, vI n, vI bb, vI xa, vI x, vI k, vI ((prt n bb p) - n), vI 0, vI (prt n bb p)], [], aq_h m s F c_4)) rfl rfl ?_
        refine am_E.go (t2 := (63, [vR y, vI n, vI bb, vI xa, vI x, vI k, vI ((prt n bb p) - n), vI 0, vI (prt n bb p)], [vI 0], aq_h m s F c_4)) rfl rfl ?_
        refine am_E.go (t2 := (133, [vR y, vI n, vI bb, vI xa, vI x, vI k, vI ((prt n bb p) - n), vI 0, vI (prt n bb p)], [], aq_h m s F c_4)) rfl rfl ?_
        exact K0 ((prt n bb p) - n) (vI (prt n bb p)) c_4 sc_4 (by rw [← ht, rz_, if_pos (by rw [← show ((prt n bb p) - n) = ac_ n (prt n bb p) from (by unfold ac_; first | (rw [if_pos (by omega)]) | (rw [if_neg (by omega)]))]; omega)]; exact wc_4)
      · refine am_E.go (t2 := (124, [vR y, vI n, vI bb, vI xa, vI x, vI k, vI ((prt n bb p) - n), vI 1, vI (prt n bb p)], [vI 1], aq_h m s F c_4)) rfl rfl ?_
        refine am_E.go (t2 := (128, [vR y, vI n, vI bb, vI xa, vI x, vI k, vI ((prt n bb p) - n), vI 1, vI (prt n bb p)], [vI 1], aq_h m s F c_4)) rfl rfl ?_
        refine am_E.go (t2 := (130, [vR y, vI n, vI bb, vI xa, vI x, vI k, vI ((prt n bb p) - n), vI 1, vI (prt n bb p)], [], aq_h m s F c_4)) rfl rfl ?_
        refine am_E.go (t2 := (61, [vR y, vI n, vI bb, vI xa, vI x, vI k, vI ((prt n bb p) - n), vI 1, vI (prt n bb p)], [], aq_h m s F c_4)) rfl rfl ?_
        exact qy_rings_3 ⟨hm, hFo, hG5, hG6, hG7, hG8, hG9, hG10, hG11, hG12, hG13, hG14, hG15, hG16, hG17, hG18, hG19, hG20, hG21, hG22, hG23⟩ hS13 ⟨hT1, hTt⟩ hn1 hn4 hb0 hb1 hxa d (dc_u (dc_u w (p % n)) ((prt n bb p) % n)) x k ((prt n bb p) - n) (vI (prt n bb p)) c_4 sc_4 (by omega) (by omega) wc_4 (by have e9 := he (by unfold rc_s; first | (rw [if_pos (by omega)]; omega) | (rw [if_neg (by omega)]; omega)); unfold rc_s at e9; first | (rw [if_pos (by omega)] at e9; exact e9) | (rw [if_neg (by omega)] at e9; exact e9)) (by rw [show ((prt n bb p) - n) = ac_ n (prt n bb p) from (by unfold ac_; first | (rw [if_pos (by omega)]) | (rw [if_neg (by omega)])), ← ht, rz_, if_neg (by rw [← show ((prt n bb p) - n) = ac_ n (prt n bb p) from (by unfold ac_; first | (rw [if_pos (by omega)]) | (rw [if_neg (by omega)]))]; omega)]) K0
    · refine am_E.go (t2 := (105, [vR y, vI n, vI bb, vI xa, vI x, vI k, vI p, vI 1, vI (prt n bb p)], [vI (prt n bb p)], aq_h m s F c_4)) rfl rfl ?_
      refine am_E.go (t2 := (106, [vR y, vI n, vI bb, vI xa, vI x, vI k, vI p, vI 1, vI (prt n bb p)], [vI n, vI (prt n bb p)], aq_h m s F c_4)) rfl rfl ?_
      refine ae_add rfl (am_ri (by omega) (by omega)) ?_
      show am_E _ (107, [vR y, vI n, vI bb, vI xa, vI x, vI k, vI p, vI 1, vI (prt n bb p)], [vI ((prt n bb p) + n)], aq_h m s F c_4) _
      refine am_E.go (t2 := (114, [vR y, vI n, vI bb, vI xa, vI x, vI k, vI p, vI 1, vI (prt n bb p)], [vI ((prt n bb p) + n)], aq_h m s F c_4)) rfl rfl ?_
      refine am_E.go (t2 := (116, [vR y, vI n, vI bb, vI xa, vI x, vI k, vI ((prt n bb p) + n), vI 1, vI (prt n bb p)], [], aq_h m s F c_4)) rfl rfl ?_
      refine am_E.go (t2 := (118, [vR y, vI n, vI bb, vI xa, vI x, vI k, vI ((prt n bb p) + n), vI 1, vI (prt n bb p)], [vI ((prt n bb p) + n)], aq_h m s F c_4)) rfl rfl ?_
      refine am_E.go (t2 := (120, [vR y, vI n, vI bb, vI xa, vI x, vI k, vI ((prt n bb p) + n), vI 1, vI (prt n bb p)], [vI k, vI ((prt n bb p) + n)], aq_h m s F c_4)) rfl rfl ?_
      refine ae_icmp rfl (fun (q_7 : ((prt n bb p) + n) = k) => ?_) (fun (q_7 : ((prt n bb p) + n) ≠ k) => ?_)
      · refine am_E.go (t2 := (128, [vR y, vI n, vI bb, vI xa, vI x, vI k, vI ((prt n bb p) + n), vI 1, vI (prt n bb p)], [vI 0], aq_h m s F c_4)) rfl rfl ?_
        refine am_E.go (t2 := (130, [vR y, vI n, vI bb, vI xa, vI x, vI k, vI ((prt n bb p) + n), vI 0, vI (prt n bb p)], [], aq_h m s F c_4)) rfl rfl ?_
        refine am_E.go (t2 := (61, [vR y, vI n, vI bb, vI xa, vI x, vI k, vI ((prt n bb p) + n), vI 0, vI (prt n bb p)], [], aq_h m s F c_4)) rfl rfl ?_
        refine am_E.go (t2 := (63, [vR y, vI n, vI bb, vI xa, vI x, vI k, vI ((prt n bb p) + n), vI 0, vI (prt n bb p)], [vI 0], aq_h m s F c_4)) rfl rfl ?_
        refine am_E.go (t2 := (133, [vR y, vI n, vI bb, vI xa, vI x, vI k, vI ((prt n bb p) + n), vI 0, vI (prt n bb p)], [], aq_h m s F c_4)) rfl rfl ?_
        exact K0 ((prt n bb p) + n) (vI (prt n bb p)) c_4 sc_4 (by rw [← ht, rz_, if_pos (by rw [← show ((prt n bb p) + n) = ac_ n (prt n bb p) from (by unfold ac_; first | (rw [if_pos (by omega)]) | (rw [if_neg (by omega)]))]; omega)]; exact wc_4)
      · refine am_E.go (t2 := (124, [vR y, vI n, vI bb, vI xa, vI x, vI k, vI ((prt n bb p) + n), vI 1, vI (prt n bb p)], [vI 1], aq_h m s F c_4)) rfl rfl ?_
        refine am_E.go (t2 := (128, [vR y, vI n, vI bb, vI xa, vI x, vI k, vI ((prt n bb p) + n), vI 1, vI (prt n bb p)], [vI 1], aq_h m s F c_4)) rfl rfl ?_
        refine am_E.go (t2 := (130, [vR y, vI n, vI bb, vI xa, vI x, vI k, vI ((prt n bb p) + n), vI 1, vI (prt n bb p)], [], aq_h m s F c_4)) rfl rfl ?_
        refine am_E.go (t2 := (61, [vR y, vI n, vI bb, vI xa, vI x, vI k, vI ((prt n bb p) + n), vI 1, vI (prt n bb p)], [], aq_h m s F c_4)) rfl rfl ?_
        exact qy_rings_3 ⟨hm, hFo, hG5, hG6, hG7, hG8, hG9, hG10, hG11, hG12, hG13, hG14, hG15, hG16, hG17, hG18, hG19, hG20, hG21, hG22, hG23⟩ hS13 ⟨hT1, hTt⟩ hn1 hn4 hb0 hb1 hxa d (dc_u (dc_u w (p % n)) ((prt n bb p) % n)) x k ((prt n bb p) + n) (vI (prt n bb p)) c_4 sc_4 (by omega) (by omega) wc_4 (by have e9 := he (by unfold rc_s; first | (rw [if_pos (by omega)]; omega) | (rw [if_neg (by omega)]; omega)); unfold rc_s at e9; first | (rw [if_pos (by omega)] at e9; exact e9) | (rw [if_neg (by omega)] at e9; exact e9)) (by rw [show ((prt n bb p) + n) = ac_ n (prt n bb p) from (by unfold ac_; first | (rw [if_pos (by omega)]) | (rw [if_neg (by omega)])), ← ht, rz_, if_neg (by rw [← show ((prt n bb p) + n) = ac_ n (prt n bb p) from (by unfold ac_; first | (rw [if_pos (by omega)]) | (rw [if_neg (by omega)]))]; omega)]) K0

theorem qy_rings_2 {m s : Nat} {F : aq_F} {c0 : aq_C} {S : Nat → Prop} {y : Nat} (hO : mo_0 m F y) (hS13 : S (y + 13)) {tbl : Int → Int} (hT : mo_T F y tbl) {n bb : Int} (hn1 : 1 ≤ n) (hn4 : n ≤ 4) (hb0 : 0 ≤ bb) (hb1 : bb < bx_K n) {xa : Int} (hxa : xa = 8 * (mo_f n + bb)) {T : Int} : ∀ (d : Nat) (w : Int → Int) (x : Int) (k : Int) (v6 : am_V) (v7 : am_V) (v8 : am_V) (c : aq_C) (hs : aq_sm S c0 c) (h0 : 0 ≤ k) (h1 : k ≤ n) (h2 : 0 ≤ x) (h3 : x ≤ k) (hw : ∀ q, 0 ≤ q → q < 4 → c (y + 13) q = w q) (ht : ry_ n (prt n bb) d k x w = T) (hd : n - k < (d : Int)), am_E ac_X5_ringsClosed (35, [vR y, vI n, vI bb, vI xa, vI x, vI k, v6, v7, v8], [], aq_h m s F c) (aq_Z m s F S c0 (fun r d => r = some (vI T)))
  | 0, w, x, k, v6, v7, v8, c, hs, h0, h1, h2, h3, hw, ht, hd => by exfalso; omega
  | d + 1, w, x, k, v6, v7, v8, c, hs, h0, h1, h2, h3, hw, ht, hd => by
    obtain ⟨hm, hFo, hG5, hG6, hG7, hG8, hG9, hG10, hG11, hG12, hG13, hG14, hG15, hG16, hG17, hG18, hG19, hG20, hG21, hG22, hG23⟩ := hO
    obtain ⟨hT1, hTt⟩ := hT
    have hfs := mo_fs n
    have hfi := pr_fi hn1 hn4 hb0 hb1
    refine am_E.go (t2 := (37, [vR y, vI n, vI bb, vI xa, vI x, vI k, v6, v7, v8], [vI k], aq_h m s F c)) rfl rfl ?_
    refine am_E.go (t2 := (38, [vR y, vI n, vI bb, vI xa, vI x, vI k, v6, v7, v8], [vI n, vI k], aq_h m s F c)) rfl rfl ?_
    refine ae_icmp rfl (fun (q_1 : n ≤ k) => ?_) (fun (q_1 : k < n) => ?_)
    · refine am_E.go (t2 := (141, [vR y, vI n, vI bb, vI xa, vI x, vI k, v6, v7, v8], [vI x], aq_h m s F c)) rfl rfl ?_
      refine am_E.ret rfl rfl ?_
      refine ⟨_, rfl, hs, ?_⟩
      rw [← ht, ry_, if_neg (by omega)]
    · refine am_E.go (t2 := (42, [vR y, vI n, vI bb, vI xa, vI x, vI k, v6, v7, v8], [vR y], aq_h m s F c)) rfl rfl ?_
      refine aq_gf (v := vR (y + 13)) rfl (by omega) hFo (by decide) rfl ?_
      show am_E _ (45, [vR y, vI n, vI bb, vI xa, vI x, vI k, v6, v7, v8], [vR (y + 13)], aq_h m s F c) _
      refine am_E.go (t2 := (47, [vR y, vI n, vI bb, vI xa, vI x, vI k, v6, v7, v8], [vI k, vR (y + 13)], aq_h m s F c)) rfl rfl ?_
      refine aq_al (ok := fun k => k == 1) (v := vI (c (y + 13) k)) rfl rfl (by omega) hG13 rfl (by omega) (by omega) rfl ?_
      show am_E _ (48, [vR y, vI n, vI bb, vI xa, vI x, vI k, v6, v7, v8], [vI (c (y + 13) k)], aq_h m s F c) _
      have f_2 := hw k (by omega) (by omega)
      refine ae_if0 rfl (fun (q_3 : (c (y + 13) k) ≠ 0) => ?_) (fun (q_3 : (c (y + 13) k) = 0) => ?_)
      · refine ae_iinc rfl rfl (am_ri (by omega) (by omega)) ?_
        show am_E _ (136, [vR y, vI n, vI bb, vI xa, vI x, vI (k + 1), v6, v7, v8], [], aq_h m s F c) _
        refine am_E.go (t2 := (35, [vR y, vI n, vI bb, vI xa, vI x, vI (k + 1), v6, v7, v8], [], aq_h m s F c)) rfl rfl ?_
        exact qy_rings_2 ⟨hm, hFo, hG5, hG6, hG7, hG8, hG9, hG10, hG11, hG12, hG13, hG14, hG15, hG16, hG17, hG18, hG19, hG20, hG21, hG22, hG23⟩ hS13 ⟨hT1, hTt⟩ hn1 hn4 hb0 hb1 hxa d w x (k + 1) (v6) (v7) (v8) c hs (by omega) (by omega) (by omega) (by omega) hw (by rw [← ht, ry_, if_pos (by omega)]; first | rw [if_neg (by omega)] | rw [if_pos (by omega)]) (by omega)
      · refine ae_iinc rfl rfl (am_ri (by omega) (by omega)) ?_
        show am_E _ (54, [vR y, vI n, vI bb, vI xa, vI (x + 1), vI k, v6, v7, v8], [], aq_h m s F c) _
        refine am_E.go (t2 := (56, [vR y, vI n, vI bb, vI xa, vI (x + 1), vI k, v6, v7, v8], [vI k], aq_h m s F c)) rfl rfl ?_
        refine am_E.go (t2 := (58, [vR y, vI n, vI bb, vI xa, vI (x + 1), vI k, vI k, v7, v8], [], aq_h m s F c)) rfl rfl ?_
        refine am_E.go (t2 := (59, [vR y, vI n, vI bb, vI xa, vI (x + 1), vI k, vI k, v7, v8], [vI 1], aq_h m s F c)) rfl rfl ?_
        refine am_E.go (t2 := (61, [vR y, vI n, vI bb, vI xa, vI (x + 1), vI k, vI k, vI 1, v8], [], aq_h m s F c)) rfl rfl ?_
        refine qy_rings_3 ⟨hm, hFo, hG5, hG6, hG7, hG8, hG9, hG10, hG11, hG12, hG13, hG14, hG15, hG16, hG17, hG18, hG19, hG20, hG21, hG22, hG23⟩ hS13 ⟨hT1, hTt⟩ hn1 hn4 hb0 hb1 hxa 4 w (x + 1) k k (v8) c hs (by omega) (by omega) hw (rc_dn (rc_n hn1 hn4 hb0 hb1 h0 (by omega))) rfl ?_
        · intro p2_61 v82_61 c_4 sc_4 hw2_61
          refine ae_iinc rfl rfl (am_ri (by omega) (by omega)) ?_
          show am_E _ (136, [vR y, vI n, vI bb, vI xa, vI (x + 1), vI (k + 1), vI p2_61, vI 0, v82_61], [], aq_h m s F c_4) _
          refine am_E.go (t2 := (35, [vR y, vI n, vI bb, vI xa, vI (x + 1), vI (k + 1), vI p2_61, vI 0, v82_61], [], aq_h m s F c_4)) rfl rfl ?_
          exact qy_rings_2 ⟨hm, hFo, hG5, hG6, hG7, hG8, hG9, hG10, hG11, hG12, hG13, hG14, hG15, hG16, hG17, hG18, hG19, hG20, hG21, hG22, hG23⟩ hS13 ⟨hT1, hTt⟩ hn1 hn4 hb0 hb1 hxa d (rz_ n (prt n bb) k 4 k w) (x + 1) (k + 1) (vI p2_61) (vI 0) (v82_61) c_4 sc_4 (by omega) (by omega) (by omega) (by omega) hw2_61 (by rw [← ht, ry_, if_pos (by omega)]; first | rw [if_neg (by omega)] | rw [if_pos (by omega)]) (by omega)

theorem qy_rings_1 {m s : Nat} {F : aq_F} {c0 : aq_C} {S : Nat → Prop} {y : Nat} (hO : mo_0 m F y) (hS13 : S (y + 13)) {tbl : Int → Int} (hT : mo_T F y tbl) {n bb : Int} (hn1 : 1 ≤ n) (hn4 : n ≤ 4) (hb0 : 0 ≤ bb) (hb1 : bb < bx_K n) {xa : Int} (hxa : xa = 8 * (mo_f n + bb)) {T : Int} (hTW : ry_ n (prt n bb) 6 0 0 (fun _ => 0) = T) : ∀ (d : Nat) (k : Int) (v5 : am_V) (v6 : am_V) (v7 : am_V) (v8 : am_V) (c : aq_C) (hs : aq_sm S c0 c) (h0 : 0 ≤ k) (h1 : k ≤ 4) (hz : ∀ i, 0 ≤ i → i < k → c (y + 13) i = (fun _ => 0) i) (hd : 4 - k < (d : Int)), am_E ac_X5_ringsClosed (9, [vR y, vI n, vI bb, vI xa, vI k, v5, v6, v7, v8], [], aq_h m s F c) (aq_Z m s F S c0 (fun r d => r = some (vI T)))
  | 0, k, v5, v6, v7, v8, c, hs, h0, h1, hz, hd => by exfalso; omega
  | d + 1, k, v5, v6, v7, v8, c, hs, h0, h1, hz, hd => by
    obtain ⟨hm, hFo, hG5, hG6, hG7, hG8, hG9, hG10, hG11, hG12, hG13, hG14, hG15, hG16, hG17, hG18, hG19, hG20, hG21, hG22, hG23⟩ := hO
    obtain ⟨hT1, hTt⟩ := hT
    have hfs := mo_fs n
    have hfi := pr_fi hn1 hn4 hb0 hb1
    refine am_E.go (t2 := (11, [vR y, vI n, vI bb, vI xa, vI k, v5, v6, v7, v8], [vI k], aq_h m s F c)) rfl rfl ?_
    refine am_E.go (t2 := (12, [vR y, vI n, vI bb, vI xa, vI k, v5, v6, v7, v8], [vI 4, vI k], aq_h m s F c)) rfl rfl ?_
    refine ae_icmp rfl (fun (q_1 : 4 ≤ k) => ?_) (fun (q_1 : k < 4) => ?_)
    · refine am_E.go (t2 := (30, [vR y, vI n, vI bb, vI xa, vI k, v5, v6, v7, v8], [vI 0], aq_h m s F c)) rfl rfl ?_
      refine am_E.go (t2 := (32, [vR y, vI n, vI bb, vI xa, vI 0, v5, v6, v7, v8], [], aq_h m s F c)) rfl rfl ?_
      refine am_E.go (t2 := (33, [vR y, vI n, vI bb, vI xa, vI 0, v5, v6, v7, v8], [vI 0], aq_h m s F c)) rfl rfl ?_
      refine am_E.go (t2 := (35, [vR y, vI n, vI bb, vI xa, vI 0, vI 0, v6, v7, v8], [], aq_h m s F c)) rfl rfl ?_
      exact qy_rings_2 ⟨hm, hFo, hG5, hG6, hG7, hG8, hG9, hG10, hG11, hG12, hG13, hG14, hG15, hG16, hG17, hG18, hG19, hG20, hG21, hG22, hG23⟩ hS13 ⟨hT1, hTt⟩ hn1 hn4 hb0 hb1 hxa 6 (fun _ => 0) 0 0 (v6) (v7) (v8) c hs (by omega) (by omega) (by omega) (by omega) (fun q q0 q1 => hz q q0 (by omega)) hTW (by omega)
    · refine am_E.go (t2 := (16, [vR y, vI n, vI bb, vI xa, vI k, v5, v6, v7, v8], [vR y], aq_h m s F c)) rfl rfl ?_
      refine aq_gf (v := vR (y + 13)) rfl (by omega) hFo (by decide) rfl ?_
      show am_E _ (19, [vR y, vI n, vI bb, vI xa, vI k, v5, v6, v7, v8], [vR (y + 13)], aq_h m s F c) _
      refine am_E.go (t2 := (21, [vR y, vI n, vI bb, vI xa, vI k, v5, v6, v7, v8], [vI k, vR (y + 13)], aq_h m s F c)) rfl rfl ?_
      refine am_E.go (t2 := (22, [vR y, vI n, vI bb, vI xa, vI k, v5, v6, v7, v8], [vI 0, vI k, vR (y + 13)], aq_h m s F c)) rfl rfl ?_
      refine aq_as (kd := 1) rfl rfl (by omega) hG13 (by omega) (by omega) rfl rfl ?_
      show am_E _ (23, [vR y, vI n, vI bb, vI xa, vI k, v5, v6, v7, v8], [], aq_h m s F (aq_u c (y + 13) k 0)) _
      generalize hdc_2 : aq_u c (y + 13) k 0 = c_2
      have sc_2 := aq_smu hs hdc_2 hS13
      refine ae_iinc rfl rfl (am_ri (by omega) (by omega)) ?_
      show am_E _ (26, [vR y, vI n, vI bb, vI xa, vI (k + 1), v5, v6, v7, v8], [], aq_h m s F c_2) _
      refine am_E.go (t2 := (9, [vR y, vI n, vI bb, vI xa, vI (k + 1), v5, v6, v7, v8], [], aq_h m s F c_2)) rfl rfl ?_
      exact qy_rings_1 ⟨hm, hFo, hG5, hG6, hG7, hG8, hG9, hG10, hG11, hG12, hG13, hG14, hG15, hG16, hG17, hG18, hG19, hG20, hG21, hG22, hG23⟩ hS13 ⟨hT1, hTt⟩ hn1 hn4 hb0 hb1 hxa hTW d (k + 1) (v5) (v6) (v7) (v8) c_2 sc_2 (by omega) (by omega) (aq_fl hz hdc_2 rfl) (by omega)

theorem qy_mrings {m s : Nat} {F : aq_F} {c : aq_C} {S : Nat → Prop} {y : Nat} (hO : mo_0 m F y) (hS13 : S (y + 13)) {tbl : Int → Int} (hT : mo_T F y tbl) {n bb : Int} (hn1 : 1 ≤ n) (hn4 : n ≤ 4) (hb0 : 0 ≤ bb) (hb1 : bb < bx_K n) : am_E ac_X5_ringsClosed (0, [vR y, vI n, vI bb, vU, vU, vU, vU, vU, vU], [], aq_h m s F c) (aq_Z m s F S c (fun r d => r = some (vI (ry_ n (prt n bb) 6 0 0 (fun _ => 0))))) := by
  obtain ⟨hm, hFo, hG5, hG6, hG7, hG8, hG9, hG10, hG11, hG12, hG13, hG14, hG15, hG16, hG17, hG18, hG19, hG20, hG21, hG22, hG23⟩ := hO
  obtain ⟨hT1, hTt⟩ := hT
  have hfs := mo_fs n
  have hfi := pr_fi hn1 hn4 hb0 hb1
  refine am_E.go (t2 := (1, [vR y, vI n, vI bb, vU, vU, vU, vU, vU, vU], [vI n], aq_h m s F c)) rfl rfl ?_
  refine am_E.go (t2 := (2, [vR y, vI n, vI bb, vU, vU, vU, vU, vU, vU], [vI bb, vI n], aq_h m s F c)) rfl rfl ?_
  refine am_E.call rfl rfl rfl (Nat.le_of_ble_eq_true rfl) (qm_at (by omega) (by omega)) ?_
  rintro r5 h5 ⟨rfl, xa, rfl, hxa⟩
  show am_E _ (5, [vR y, vI n, vI bb, vU, vU, vU, vU, vU, vU], [vI xa], aq_h m s F c) _
  refine am_E.go (t2 := (6, [vR y, vI n, vI bb, vI xa, vU, vU, vU, vU, vU], [], aq_h m s F c)) rfl rfl ?_
  refine am_E.go (t2 := (7, [vR y, vI n, vI bb, vI xa, vU, vU, vU, vU, vU], [vI 0], aq_h m s F c)) rfl rfl ?_
  refine am_E.go (t2 := (9, [vR y, vI n, vI bb, vI xa, vI 0, vU, vU, vU, vU], [], aq_h m s F c)) rfl rfl ?_
  exact qy_rings_1 ⟨hm, hFo, hG5, hG6, hG7, hG8, hG9, hG10, hG11, hG12, hG13, hG14, hG15, hG16, hG17, hG18, hG19, hG20, hG21, hG22, hG23⟩ hS13 ⟨hT1, hTt⟩ hn1 hn4 hb0 hb1 hxa rfl 6 0 (vU) (vU) (vU) (vU) c aq_sm0 (by omega) (by omega) (fun i h1 h2 => absurd h2 (by omega)) (by omega)

theorem qe_X5_about {m s : Nat} {F : aq_F} {c : aq_C} {y : Nat} (hC : mo_C m F y) (hI : mo_I y c) {n bb w : Int} : am_E ac_X5_about (0, [vR y, vI n, vI bb, vI w], [], aq_h m s F c) (aq_Z m s F (fun a => y ≤ a ∧ a < y + 24) c (fun r d => r = some (vI (ab_a n bb w)) ∧ mo_I y d)) := by
  obtain ⟨⟨hm, hFo, hG5, hG6, hG7, hG8, hG9, hG10, hG11, hG12, hG13, hG14, hG15, hG16, hG17, hG18, hG19, hG20, hG21, hG22, hG23⟩, ⟨tbl, hT1, hTt⟩, ⟨tA, tB, tD, hL1, hL2, hL3, hLt⟩⟩ := hC
  have hfs := mo_fs n
  refine am_E.go (t2 := (1, [vR y, vI n, vI bb, vI w], [vI n], aq_h m s F c)) rfl rfl ?_
  refine am_E.go (t2 := (2, [vR y, vI n, vI bb, vI w], [vI bb, vI n], aq_h m s F c)) rfl rfl ?_
  refine am_E.call rfl rfl rfl (Nat.le_of_ble_eq_true rfl) (qm_isBox) ?_
  rintro r5 h5 ⟨rfl, v_1, rfl, hv_1⟩
  show am_E _ (5, [vR y, vI n, vI bb, vI w], [vI v_1], aq_h m s F c) _
  refine ae_if0 rfl (fun (q_2 : v_1 = 0) => ?_) (fun (q_2 : v_1 ≠ 0) => ?_)
  · refine am_E.go (t2 := (21, [vR y, vI n, vI bb, vI w], [vI (-1)], aq_h m s F c)) rfl rfl ?_
    refine am_E.ret rfl rfl ?_
    exact ⟨_, rfl, (aq_sm0 (c := c) (S := fun a => y ≤ a ∧ a < y + 24)), by unfold ab_a; (repeat' split) <;> first | rfl | (exfalso; omega), hI⟩
  · refine am_E.go (t2 := (9, [vR y, vI n, vI bb, vI w], [vI w], aq_h m s F c)) rfl rfl ?_
    refine am_E.go (t2 := (10, [vR y, vI n, vI bb, vI w], [vL w], aq_h m s F c)) rfl rfl ?_
    refine am_E.go (t2 := (11, [vR y, vI n, vI bb, vI w], [vL 0, vL w], aq_h m s F c)) rfl rfl ?_
    refine am_E.go (t2 := (14, [vR y, vI n, vI bb, vI w], [vL 4, vL 0, vL w], aq_h m s F c)) rfl rfl ?_
    refine am_E.call rfl rfl rfl (Nat.le_of_ble_eq_true rfl) (qm_in) ?_
    rintro r5 h5 ⟨rfl, v_3, rfl, hv_3⟩
    show am_E _ (17, [vR y, vI n, vI bb, vI w], [vI v_3], aq_h m s F c) _
    refine ae_if0 rfl (fun (q_4 : v_3 ≠ 0) => ?_) (fun (q_4 : v_3 = 0) => ?_)
    · refine am_E.go (t2 := (23, [vR y, vI n, vI bb, vI w], [vI w], aq_h m s F c)) rfl rfl ?_
      have hsw : w = 0 ∨ w = 1 ∨ w = 2 ∨ w = 3 ∨ (w < 0 ∨ 3 < w) := by omega
      rcases hsw with h | h | h | h | h
      · subst h
        refine am_E.go (t2 := (52, [vR y, vI n, vI bb, vI 0], [], aq_h m s F c)) rfl rfl ?_
        refine am_E.go (t2 := (53, [vR y, vI n, vI bb, vI 0], [vR y], aq_h m s F c)) rfl rfl ?_
        refine am_E.go (t2 := (54, [vR y, vI n, vI bb, vI 0], [vI n, vR y], aq_h m s F c)) rfl rfl ?_
        refine am_E.go (t2 := (55, [vR y, vI n, vI bb, vI 0], [vI bb, vI n, vR y], aq_h m s F c)) rfl rfl ?_
        refine aq_callv (y := 3) (as2 := [vI n, vI bb]) (rest := []) rfl rfl (by decide) (Nat.le_of_ble_eq_true rfl) rfl rfl (Nat.le_of_ble_eq_true rfl) (by omega) hFo rfl (Nat.le_of_ble_eq_true rfl) (qz_misPlane ⟨hm, hFo, hG5, hG6, hG7, hG8, hG9, hG10, hG11, hG12, hG13, hG14, hG15, hG16, hG17, hG18, hG19, hG20, hG21, hG22, hG23⟩ ⟨hT1, hTt⟩ (by omega) (by omega) (by omega) (by omega)) ?_
        rintro r5 h5 ⟨rfl, rfl⟩
        show am_E _ (58, [vR y, vI n, vI bb, vI 0], [vI (ro_ n (prt n bb) 9 0 1)], aq_h m s F c) _
        have hpo := ro_b (n := n) (f := prt n bb) 9 0 1 (Or.inr rfl)
        have hrp := rp_n (n := n) (b := bb) (by omega) (by omega) (by omega) (by omega)
        refine ae_if0 rfl (fun (q_5 : (ro_ n (prt n bb) 9 0 1) = 0) => ?_) (fun (q_5 : (ro_ n (prt n bb) 9 0 1) ≠ 0) => ?_)
        · refine am_E.go (t2 := (66, [vR y, vI n, vI bb, vI 0], [vI 0], aq_h m s F c)) rfl rfl ?_
          refine am_E.ret rfl rfl ?_
          refine ⟨_, rfl, (aq_sm0 (c := c) (S := fun a => y ≤ a ∧ a < y + 24)), ?_, hI⟩
          have e3 : ab_a n bb 0 = po_ n (prt n bb) 9 0 := by unfold ab_a; rw [if_pos (by omega)]; rfl
          rw [e3]
          have e5 : po_ n (prt n bb) 9 0 = 0 := by omega
          rw [e5]
        · refine am_E.go (t2 := (62, [vR y, vI n, vI bb, vI 0], [vI 1], aq_h m s F c)) rfl rfl ?_
          refine am_E.go (t2 := (66, [vR y, vI n, vI bb, vI 0], [vI 1], aq_h m s F c)) rfl rfl ?_
          refine am_E.ret rfl rfl ?_
          refine ⟨_, rfl, (aq_sm0 (c := c) (S := fun a => y ≤ a ∧ a < y + 24)), ?_, hI⟩
          have e3 : ab_a n bb 0 = po_ n (prt n bb) 9 0 := by unfold ab_a; rw [if_pos (by omega)]; rfl
          rw [e3]
          have e5 : po_ n (prt n bb) 9 0 = 1 := by omega
          rw [e5]
      · subst h
        refine am_E.go (t2 := (67, [vR y, vI n, vI bb, vI 1], [], aq_h m s F c)) rfl rfl ?_
        refine am_E.go (t2 := (68, [vR y, vI n, vI bb, vI 1], [vR y], aq_h m s F c)) rfl rfl ?_
        refine am_E.go (t2 := (69, [vR y, vI n, vI bb, vI 1], [vI n, vR y], aq_h m s F c)) rfl rfl ?_
        refine am_E.go (t2 := (70, [vR y, vI n, vI bb, vI 1], [vI bb, vI n, vR y], aq_h m s F c)) rfl rfl ?_
        refine aq_callv (y := 3) (as2 := [vI n, vI bb]) (rest := []) rfl rfl (by decide) (Nat.le_of_ble_eq_true rfl) rfl rfl (Nat.le_of_ble_eq_true rfl) (by omega) hFo rfl (Nat.le_of_ble_eq_true rfl) (qy_mthrough ⟨hm, hFo, hG5, hG6, hG7, hG8, hG9, hG10, hG11, hG12, hG13, hG14, hG15, hG16, hG17, hG18, hG19, hG20, hG21, hG22, hG23⟩ ⟨hT1, hTt⟩ (by omega) (by omega) (by omega) (by omega)) ?_
        rintro r5 h5 ⟨rfl, rfl⟩
        show am_E _ (73, [vR y, vI n, vI bb, vI 1], [vI (th_ n (prt n bb) 9 0 0)], aq_h m s F c) _
        refine am_E.ret rfl rfl ?_
        refine ⟨_, rfl, (aq_sm0 (c := c) (S := fun a => y ≤ a ∧ a < y + 24)), ?_, hI⟩
        have e3 : ab_a n bb 1 = th_ n (prt n bb) 9 0 0 := by unfold ab_a; rw [if_pos (by omega)]; rfl
        rw [e3]
      · subst h
        refine am_E.go (t2 := (74, [vR y, vI n, vI bb, vI 2], [], aq_h m s F c)) rfl rfl ?_
        refine am_E.go (t2 := (75, [vR y, vI n, vI bb, vI 2], [vR y], aq_h m s F c)) rfl rfl ?_
        refine am_E.go (t2 := (76, [vR y, vI n, vI bb, vI 2], [vI n, vR y], aq_h m s F c)) rfl rfl ?_
        refine am_E.go (t2 := (77, [vR y, vI n, vI bb, vI 2], [vI bb, vI n, vR y], aq_h m s F c)) rfl rfl ?_
        refine aq_callv (y := 3) (as2 := [vI n, vI bb]) (rest := []) rfl rfl (by decide) (Nat.le_of_ble_eq_true rfl) rfl rfl (Nat.le_of_ble_eq_true rfl) (by omega) hFo rfl (Nat.le_of_ble_eq_true rfl) (qy_mupside (S := fun a => a = y + 12) ⟨hm, hFo, hG5, hG6, hG7, hG8, hG9, hG10, hG11, hG12, hG13, hG14, hG15, hG16, hG17, hG18, hG19, hG20, hG21, hG22, hG23⟩ rfl ⟨hT1, hTt⟩ (by omega) (by omega) (by omega) (by omega)) ?_
        rintro r5 h5 ⟨c_b, rfl, s_b, rfl⟩
        show am_E _ (80, [vR y, vI n, vI bb, vI 2], [vI (ud_ n (prt n bb))], aq_h m s F c_b) _
        refine am_E.ret rfl rfl ?_
        refine ⟨_, rfl, (aq_smt (aq_sm0 (c := c) (S := fun a => y ≤ a ∧ a < y + 24)) (aq_smi s_b (fun a h => by omega))), ?_, mo_Is hI s_b (mo_ks mo_k0 s_b (by omega)) (by omega) (by omega) (by omega) (by omega) (by omega)⟩
        have e3 : ab_a n bb 2 = ud_ n (prt n bb) := by unfold ab_a; rw [if_pos (by omega)]; rfl
        rw [e3]
      · subst h
        refine am_E.go (t2 := (81, [vR y, vI n, vI bb, vI 3], [], aq_h m s F c)) rfl rfl ?_
        refine am_E.go (t2 := (82, [vR y, vI n, vI bb, vI 3], [vR y], aq_h m s F c)) rfl rfl ?_
        refine am_E.go (t2 := (83, [vR y, vI n, vI bb, vI 3], [vI n, vR y], aq_h m s F c)) rfl rfl ?_
        refine am_E.go (t2 := (84, [vR y, vI n, vI bb, vI 3], [vI bb, vI n, vR y], aq_h m s F c)) rfl rfl ?_
        refine aq_callv (y := 3) (as2 := [vI n, vI bb]) (rest := []) rfl rfl (by decide) (Nat.le_of_ble_eq_true rfl) rfl rfl (Nat.le_of_ble_eq_true rfl) (by omega) hFo rfl (Nat.le_of_ble_eq_true rfl) (qy_mrings (S := fun a => a = y + 13) ⟨hm, hFo, hG5, hG6, hG7, hG8, hG9, hG10, hG11, hG12, hG13, hG14, hG15, hG16, hG17, hG18, hG19, hG20, hG21, hG22, hG23⟩ rfl ⟨hT1, hTt⟩ (by omega) (by omega) (by omega) (by omega)) ?_
        rintro r5 h5 ⟨c_b, rfl, s_b, rfl⟩
        show am_E _ (87, [vR y, vI n, vI bb, vI 3], [vI (ry_ n (prt n bb) 6 0 0 (fun _ => 0))], aq_h m s F c_b) _
        refine am_E.ret rfl rfl ?_
        refine ⟨_, rfl, (aq_smt (aq_sm0 (c := c) (S := fun a => y ≤ a ∧ a < y + 24)) (aq_smi s_b (fun a h => by omega))), ?_, mo_Is hI s_b (mo_ks mo_k0 s_b (by omega)) (by omega) (by omega) (by omega) (by omega) (by omega)⟩
        have e3 : ab_a n bb 3 = rg_ n bb := by unfold ab_a; rw [if_pos (by omega)]; rfl
        rw [e3]
        rw [ry_e (by omega) (by omega) (by omega) (by omega)]
      · refine ae_swd rfl h ?_
        show am_E _ (88, [vR y, vI n, vI bb, vI w], [], aq_h m s F c) _
        refine am_E.go (t2 := (89, [vR y, vI n, vI bb, vI w], [vR y], aq_h m s F c)) rfl rfl ?_
        refine aq_gf (v := vR (y + 4)) rfl (by omega) hFo (by decide) rfl ?_
        show am_E _ (92, [vR y, vI n, vI bb, vI w], [vR (y + 4)], aq_h m s F c) _
        refine am_E.go (t2 := (93, [vR y, vI n, vI bb, vI w], [vI n, vR (y + 4)], aq_h m s F c)) rfl rfl ?_
        refine am_E.call rfl rfl rfl (Nat.le_of_ble_eq_true rfl) (qm_first) ?_
        rintro r5 h5 ⟨rfl, fr, rfl, hfr⟩
        show am_E _ (96, [vR y, vI n, vI bb, vI w], [vI fr, vR (y + 4)], aq_h m s F c) _
        refine am_E.go (t2 := (97, [vR y, vI n, vI bb, vI w], [vI bb, vI fr, vR (y + 4)], aq_h m s F c)) rfl rfl ?_
        refine ae_add rfl (am_ri (by omega) (by omega)) ?_
        show am_E _ (98, [vR y, vI n, vI bb, vI w], [vI (fr + bb), vR (y + 4)], aq_h m s F c) _
        refine aq_alt (ok := fun k => k == 0) rfl rfl (by omega) hL3 rfl (by omega) (by omega) ?_
        show am_E _ (99, [vR y, vI n, vI bb, vI w], [vI (tD (fr + bb))], aq_h m s F c) _
        have f_6 := (hLt n bb (by omega) (by omega) (by omega) (by omega)).2.2.2.2.1
        rw [← hfr] at f_6
        have eD := f_6
        refine am_E.ret rfl rfl ?_
        refine ⟨_, rfl, (aq_sm0 (c := c) (S := fun a => y ≤ a ∧ a < y + 24)), ?_, hI⟩
        have ew : w = 4 := by omega
        have e3 : ab_a n bb w = ln_ n bb := by rw [ew]; unfold ab_a; rw [if_pos (by omega)]; rfl
        rw [e3, eD]
    · refine am_E.go (t2 := (21, [vR y, vI n, vI bb, vI w], [vI (-1)], aq_h m s F c)) rfl rfl ?_
      refine am_E.ret rfl rfl ?_
      exact ⟨_, rfl, (aq_sm0 (c := c) (S := fun a => y ≤ a ∧ a < y + 24)), by unfold ab_a; (repeat' split) <;> first | rfl | (exfalso; omega), hI⟩
/-! Nibbles of a long, by shifts; a pairing told pair by pair. Printed by wip/p20/sx/gNB.py. -/

theorem sh_r0 (w : Int) : am_shrL w 0 = ((Int64.ofInt w).toBitVec.sshiftRight 0).toInt := by
  unfold am_shrL
  have e : ((Int32.ofInt 0).toInt64 &&& 63) = (0 : Int64) := by decide
  rw [e]
  rfl
theorem sh_u0 (w : Int) : am_ushL w 0 = ((Int64.ofInt w).toBitVec >>> 0).toInt := by
  unfold am_ushL
  have e : ((Int32.ofInt 0).toInt64.toUInt64 &&& Int64.toUInt64 63) = (0 : UInt64) := by decide
  rw [e]
  rfl
theorem nb_r0 {w : Int} (h : am_r64 w) : am_shrL w 0 = w / 1 := by
  obtain ⟨h0, h1⟩ := h
  rw [sh_r0, BitVec.toInt_sshiftRight, Int.shiftRight_eq_div_pow]
  show (BitVec.ofInt 64 w).toInt / _ = _
  rw [BitVec.toInt_ofInt, Int.bmod_def]
  split <;> omega
theorem nb_u0 {w : Int} (h : am_r64 w) : am_ushL w 0 % 4294967296 = (w % 18446744073709551616) / 1 % 4294967296 ∧ (am_ushL w 0 = 0 ↔ (w % 18446744073709551616) / 1 = 0) := by
  obtain ⟨h0, h1⟩ := h
  rw [sh_u0, BitVec.toInt_eq_toNat_cond, BitVec.toNat_ushiftRight, Nat.shiftRight_eq_div_pow]
  have h4 : (Int64.ofInt w).toBitVec.toNat = (w % 18446744073709551616).toNat := by
    show (BitVec.ofInt 64 w).toNat = _
    rw [BitVec.toNat_ofInt]
    rfl
  rw [h4]
  split <;> omega

theorem sh_r4 (w : Int) : am_shrL w 4 = ((Int64.ofInt w).toBitVec.sshiftRight 4).toInt := by
  unfold am_shrL
  have e : ((Int32.ofInt 4).toInt64 &&& 63) = (4 : Int64) := by decide
  rw [e]
  rfl
theorem sh_u4 (w : Int) : am_ushL w 4 = ((Int64.ofInt w).toBitVec >>> 4).toInt := by
  unfold am_ushL
  have e : ((Int32.ofInt 4).toInt64.toUInt64 &&& Int64.toUInt64 63) = (4 : UInt64) := by decide
  rw [e]
  rfl
theorem nb_r4 {w : Int} (h : am_r64 w) : am_shrL w 4 = w / 16 := by
  obtain ⟨h0, h1⟩ := h
  rw [sh_r4, BitVec.toInt_sshiftRight, Int.shiftRight_eq_div_pow]
  show (BitVec.ofInt 64 w).toInt / _ = _
  rw [BitVec.toInt_ofInt, Int.bmod_def]
  split <;> omega
theorem nb_u4 {w : Int} (h : am_r64 w) : am_ushL w 4 % 4294967296 = (w % 18446744073709551616) / 16 % 4294967296 ∧ (am_ushL w 4 = 0 ↔ (w % 18446744073709551616) / 16 = 0) := by
  obtain ⟨h0, h1⟩ := h
  rw [sh_u4, BitVec.toInt_eq_toNat_cond, BitVec.toNat_ushiftRight, Nat.shiftRight_eq_div_pow]
  have h4 : (Int64.ofInt w).toBitVec.toNat = (w % 18446744073709551616).toNat := by
    show (BitVec.ofInt 64 w).toNat = _
    rw [BitVec.toNat_ofInt]
    rfl
  rw [h4]
  split <;> omega

theorem sh_r8 (w : Int) : am_shrL w 8 = ((Int64.ofInt w).toBitVec.sshiftRight 8).toInt := by
  unfold am_shrL
  have e : ((Int32.ofInt 8).toInt64 &&& 63) = (8 : Int64) := by decide
  rw [e]
  rfl
theorem sh_u8 (w : Int) : am_ushL w 8 = ((Int64.ofInt w).toBitVec >>> 8).toInt := by
  unfold am_ushL
  have e : ((Int32.ofInt 8).toInt64.toUInt64 &&& Int64.toUInt64 63) = (8 : UInt64) := by decide
  rw [e]
  rfl
theorem nb_r8 {w : Int} (h : am_r64 w) : am_shrL w 8 = w / 256 := by
  obtain ⟨h0, h1⟩ := h
  rw [sh_r8, BitVec.toInt_sshiftRight, Int.shiftRight_eq_div_pow]
  show (BitVec.ofInt 64 w).toInt / _ = _
  rw [BitVec.toInt_ofInt, Int.bmod_def]
  split <;> omega
theorem nb_u8 {w : Int} (h : am_r64 w) : am_ushL w 8 % 4294967296 = (w % 18446744073709551616) / 256 % 4294967296 ∧ (am_ushL w 8 = 0 ↔ (w % 18446744073709551616) / 256 = 0) := by
  obtain ⟨h0, h1⟩ := h
  rw [sh_u8, BitVec.toInt_eq_toNat_cond, BitVec.toNat_ushiftRight, Nat.shiftRight_eq_div_pow]
  have h4 : (Int64.ofInt w).toBitVec.toNat = (w % 18446744073709551616).toNat := by
    show (BitVec.ofInt 64 w).toNat = _
    rw [BitVec.toNat_ofInt]
    rfl
  rw [h4]
  split <;> omega

theorem sh_r12 (w : Int) : am_shrL w 12 = ((Int64.ofInt w).toBitVec.sshiftRight 12).toInt := by
  unfold am_shrL
  have e : ((Int32.ofInt 12).toInt64 &&& 63) = (12 : Int64) := by decide
  rw [e]
  rfl
theorem sh_u12 (w : Int) : am_ushL w 12 = ((Int64.ofInt w).toBitVec >>> 12).toInt := by
  unfold am_ushL
  have e : ((Int32.ofInt 12).toInt64.toUInt64 &&& Int64.toUInt64 63) = (12 : UInt64) := by decide
  rw [e]
  rfl
theorem nb_r12 {w : Int} (h : am_r64 w) : am_shrL w 12 = w / 4096 := by
  obtain ⟨h0, h1⟩ := h
  rw [sh_r12, BitVec.toInt_sshiftRight, Int.shiftRight_eq_div_pow]
  show (BitVec.ofInt 64 w).toInt / _ = _
  rw [BitVec.toInt_ofInt, Int.bmod_def]
  split <;> omega
theorem nb_u12 {w : Int} (h : am_r64 w) : am_ushL w 12 % 4294967296 = (w % 18446744073709551616) / 4096 % 4294967296 ∧ (am_ushL w 12 = 0 ↔ (w % 18446744073709551616) / 4096 = 0) := by
  obtain ⟨h0, h1⟩ := h
  rw [sh_u12, BitVec.toInt_eq_toNat_cond, BitVec.toNat_ushiftRight, Nat.shiftRight_eq_div_pow]
  have h4 : (Int64.ofInt w).toBitVec.toNat = (w % 18446744073709551616).toNat := by
    show (BitVec.ofInt 64 w).toNat = _
    rw [BitVec.toNat_ofInt]
    rfl
  rw [h4]
  split <;> omega

theorem sh_r16 (w : Int) : am_shrL w 16 = ((Int64.ofInt w).toBitVec.sshiftRight 16).toInt := by
  unfold am_shrL
  have e : ((Int32.ofInt 16).toInt64 &&& 63) = (16 : Int64) := by decide
  rw [e]
  rfl
theorem sh_u16 (w : Int) : am_ushL w 16 = ((Int64.ofInt w).toBitVec >>> 16).toInt := by
  unfold am_ushL
  have e : ((Int32.ofInt 16).toInt64.toUInt64 &&& Int64.toUInt64 63) = (16 : UInt64) := by decide
  rw [e]
  rfl
theorem nb_r16 {w : Int} (h : am_r64 w) : am_shrL w 16 = w / 65536 := by
  obtain ⟨h0, h1⟩ := h
  rw [sh_r16, BitVec.toInt_sshiftRight, Int.shiftRight_eq_div_pow]
  show (BitVec.ofInt 64 w).toInt / _ = _
  rw [BitVec.toInt_ofInt, Int.bmod_def]
  split <;> omega
theorem nb_u16 {w : Int} (h : am_r64 w) : am_ushL w 16 % 4294967296 = (w % 18446744073709551616) / 65536 % 4294967296 ∧ (am_ushL w 16 = 0 ↔ (w % 18446744073709551616) / 65536 = 0) := by
  obtain ⟨h0, h1⟩ := h
  rw [sh_u16, BitVec.toInt_eq_toNat_cond, BitVec.toNat_ushiftRight, Nat.shiftRight_eq_div_pow]
  have h4 : (Int64.ofInt w).toBitVec.toNat = (w % 18446744073709551616).toNat := by
    show (BitVec.ofInt 64 w).toNat = _
    rw [BitVec.toNat_ofInt]
    rfl
  rw [h4]
  split <;> omega

theorem sh_r20 (w : Int) : am_shrL w 20 = ((Int64.ofInt w).toBitVec.sshiftRight 20).toInt := by
  unfold am_shrL
  have e : ((Int32.ofInt 20).toInt64 &&& 63) = (20 : Int64) := by decide
  rw [e]
  rfl
theorem sh_u20 (w : Int) : am_ushL w 20 = ((Int64.ofInt w).toBitVec >>> 20).toInt := by
  unfold am_ushL
  have e : ((Int32.ofInt 20).toInt64.toUInt64 &&& Int64.toUInt64 63) = (20 : UInt64) := by decide
  rw [e]
  rfl
theorem nb_r20 {w : Int} (h : am_r64 w) : am_shrL w 20 = w / 1048576 := by
  obtain ⟨h0, h1⟩ := h
  rw [sh_r20, BitVec.toInt_sshiftRight, Int.shiftRight_eq_div_pow]
  show (BitVec.ofInt 64 w).toInt / _ = _
  rw [BitVec.toInt_ofInt, Int.bmod_def]
  split <;> omega
theorem nb_u20 {w : Int} (h : am_r64 w) : am_ushL w 20 % 4294967296 = (w % 18446744073709551616) / 1048576 % 4294967296 ∧ (am_ushL w 20 = 0 ↔ (w % 18446744073709551616) / 1048576 = 0) := by
  obtain ⟨h0, h1⟩ := h
  rw [sh_u20, BitVec.toInt_eq_toNat_cond, BitVec.toNat_ushiftRight, Nat.shiftRight_eq_div_pow]
  have h4 : (Int64.ofInt w).toBitVec.toNat = (w % 18446744073709551616).toNat := by
    show (BitVec.ofInt 64 w).toNat = _
    rw [BitVec.toNat_ofInt]
    rfl
  rw [h4]
  split <;> omega

theorem sh_r24 (w : Int) : am_shrL w 24 = ((Int64.ofInt w).toBitVec.sshiftRight 24).toInt := by
  unfold am_shrL
  have e : ((Int32.ofInt 24).toInt64 &&& 63) = (24 : Int64) := by decide
  rw [e]
  rfl
theorem sh_u24 (w : Int) : am_ushL w 24 = ((Int64.ofInt w).toBitVec >>> 24).toInt := by
  unfold am_ushL
  have e : ((Int32.ofInt 24).toInt64.toUInt64 &&& Int64.toUInt64 63) = (24 : UInt64) := by decide
  rw [e]
  rfl
theorem nb_r24 {w : Int} (h : am_r64 w) : am_shrL w 24 = w / 16777216 := by
  obtain ⟨h0, h1⟩ := h
  rw [sh_r24, BitVec.toInt_sshiftRight, Int.shiftRight_eq_div_pow]
  show (BitVec.ofInt 64 w).toInt / _ = _
  rw [BitVec.toInt_ofInt, Int.bmod_def]
  split <;> omega
theorem nb_u24 {w : Int} (h : am_r64 w) : am_ushL w 24 % 4294967296 = (w % 18446744073709551616) / 16777216 % 4294967296 ∧ (am_ushL w 24 = 0 ↔ (w % 18446744073709551616) / 16777216 = 0) := by
  obtain ⟨h0, h1⟩ := h
  rw [sh_u24, BitVec.toInt_eq_toNat_cond, BitVec.toNat_ushiftRight, Nat.shiftRight_eq_div_pow]
  have h4 : (Int64.ofInt w).toBitVec.toNat = (w % 18446744073709551616).toNat := by
    show (BitVec.ofInt 64 w).toNat = _
    rw [BitVec.toNat_ofInt]
    rfl
  rw [h4]
  split <;> omega

theorem sh_r28 (w : Int) : am_shrL w 28 = ((Int64.ofInt w).toBitVec.sshiftRight 28).toInt := by
  unfold am_shrL
  have e : ((Int32.ofInt 28).toInt64 &&& 63) = (28 : Int64) := by decide
  rw [e]
  rfl
theorem sh_u28 (w : Int) : am_ushL w 28 = ((Int64.ofInt w).toBitVec >>> 28).toInt := by
  unfold am_ushL
  have e : ((Int32.ofInt 28).toInt64.toUInt64 &&& Int64.toUInt64 63) = (28 : UInt64) := by decide
  rw [e]
  rfl
theorem nb_r28 {w : Int} (h : am_r64 w) : am_shrL w 28 = w / 268435456 := by
  obtain ⟨h0, h1⟩ := h
  rw [sh_r28, BitVec.toInt_sshiftRight, Int.shiftRight_eq_div_pow]
  show (BitVec.ofInt 64 w).toInt / _ = _
  rw [BitVec.toInt_ofInt, Int.bmod_def]
  split <;> omega
theorem nb_u28 {w : Int} (h : am_r64 w) : am_ushL w 28 % 4294967296 = (w % 18446744073709551616) / 268435456 % 4294967296 ∧ (am_ushL w 28 = 0 ↔ (w % 18446744073709551616) / 268435456 = 0) := by
  obtain ⟨h0, h1⟩ := h
  rw [sh_u28, BitVec.toInt_eq_toNat_cond, BitVec.toNat_ushiftRight, Nat.shiftRight_eq_div_pow]
  have h4 : (Int64.ofInt w).toBitVec.toNat = (w % 18446744073709551616).toNat := by
    show (BitVec.ofInt 64 w).toNat = _
    rw [BitVec.toNat_ofInt]
    rfl
  rw [h4]
  split <;> omega

theorem sh_r32 (w : Int) : am_shrL w 32 = ((Int64.ofInt w).toBitVec.sshiftRight 32).toInt := by
  unfold am_shrL
  have e : ((Int32.ofInt 32).toInt64 &&& 63) = (32 : Int64) := by decide
  rw [e]
  rfl
theorem sh_u32 (w : Int) : am_ushL w 32 = ((Int64.ofInt w).toBitVec >>> 32).toInt := by
  unfold am_ushL
  have e : ((Int32.ofInt 32).toInt64.toUInt64 &&& Int64.toUInt64 63) = (32 : UInt64) := by decide
  rw [e]
  rfl
theorem nb_r32 {w : Int} (h : am_r64 w) : am_shrL w 32 = w / 4294967296 := by
  obtain ⟨h0, h1⟩ := h
  rw [sh_r32, BitVec.toInt_sshiftRight, Int.shiftRight_eq_div_pow]
  show (BitVec.ofInt 64 w).toInt / _ = _
  rw [BitVec.toInt_ofInt, Int.bmod_def]
  split <;> omega
theorem nb_u32 {w : Int} (h : am_r64 w) : am_ushL w 32 % 4294967296 = (w % 18446744073709551616) / 4294967296 % 4294967296 ∧ (am_ushL w 32 = 0 ↔ (w % 18446744073709551616) / 4294967296 = 0) := by
  obtain ⟨h0, h1⟩ := h
  rw [sh_u32, BitVec.toInt_eq_toNat_cond, BitVec.toNat_ushiftRight, Nat.shiftRight_eq_div_pow]
  have h4 : (Int64.ofInt w).toBitVec.toNat = (w % 18446744073709551616).toNat := by
    show (BitVec.ofInt 64 w).toNat = _
    rw [BitVec.toNat_ofInt]
    rfl
  rw [h4]
  split <;> omega

theorem nb_and (x : Int) : am_and x 15 = x % 16 := by
  unfold am_and
  have h2 : (Int32.ofInt x &&& Int32.ofInt 15).toInt = ((Int32.ofInt x).toBitVec &&& 15#32).toInt := rfl
  rw [h2]
  have h3 : ((Int32.ofInt x).toBitVec &&& 15#32).toNat = (Int32.ofInt x).toBitVec.toNat % 16 := by
    rw [BitVec.toNat_and]
    exact Nat.and_two_pow_sub_one_eq_mod _ 4
  have h4 : (Int32.ofInt x).toBitVec.toNat = (x % 4294967296).toNat := by
    show (BitVec.ofInt 32 x).toNat = _
    rw [BitVec.toNat_ofInt]
    rfl
  rw [BitVec.toInt_eq_toNat_cond, h3, h4]
  split <;> omega
theorem nb_andl (x : Int) : am_andl x 15 = x % 16 := by
  unfold am_andl
  have h2 : (Int64.ofInt x &&& Int64.ofInt 15).toInt = ((Int64.ofInt x).toBitVec &&& 15#64).toInt := rfl
  rw [h2]
  have h3 : ((Int64.ofInt x).toBitVec &&& 15#64).toNat = (Int64.ofInt x).toBitVec.toNat % 16 := by
    rw [BitVec.toNat_and]
    exact Nat.and_two_pow_sub_one_eq_mod _ 4
  have h4 : (Int64.ofInt x).toBitVec.toNat = (x % 18446744073709551616).toNat := by
    show (BitVec.ofInt 64 x).toNat = _
    rw [BitVec.toNat_ofInt]
    rfl
  rw [BitVec.toInt_eq_toNat_cond, h3, h4]
  split <;> omega
/-- the nibble at place j -/
def nb_ (w j : Int) : Int := w / 16 ^ j.toNat % 16
theorem nb_b (w j : Int) : 0 ≤ nb_ w j ∧ nb_ w j < 16 := by
  unfold nb_
  omega

theorem nb_c0 {w k : Int} (h : am_r64 w) (h0 : 0 ≤ k) (h3 : k < 4) : am_and (am_w (am_ushL w (8 * k))) 15 = nb_ w (2 * k) := by
  have hk : k = 0 ∨ k = 1 ∨ k = 2 ∨ k = 3 := by omega
  rcases hk with hk | hk | hk | hk <;> subst hk
  · show am_and (am_w (am_ushL w (0))) 15 = w / 16 ^ (0 : Nat) % 16
    have e := (nb_u0 h).1
    rw [nb_and]
    unfold am_w
    rw [Int.bmod_def]
    split <;> omega
  · show am_and (am_w (am_ushL w (8))) 15 = w / 16 ^ (2 : Nat) % 16
    have e := (nb_u8 h).1
    rw [nb_and]
    unfold am_w
    rw [Int.bmod_def]
    split <;> omega
  · show am_and (am_w (am_ushL w (16))) 15 = w / 16 ^ (4 : Nat) % 16
    have e := (nb_u16 h).1
    rw [nb_and]
    unfold am_w
    rw [Int.bmod_def]
    split <;> omega
  · show am_and (am_w (am_ushL w (24))) 15 = w / 16 ^ (6 : Nat) % 16
    have e := (nb_u24 h).1
    rw [nb_and]
    unfold am_w
    rw [Int.bmod_def]
    split <;> omega
theorem nb_c1 {w k : Int} (h : am_r64 w) (h0 : 0 ≤ k) (h3 : k < 4) : am_and (am_w (am_ushL w (8 * k + 4))) 15 = nb_ w (2 * k + 1) := by
  have hk : k = 0 ∨ k = 1 ∨ k = 2 ∨ k = 3 := by omega
  rcases hk with hk | hk | hk | hk <;> subst hk
  · show am_and (am_w (am_ushL w (4))) 15 = w / 16 ^ (1 : Nat) % 16
    have e := (nb_u4 h).1
    rw [nb_and]
    unfold am_w
    rw [Int.bmod_def]
    split <;> omega
  · show am_and (am_w (am_ushL w (12))) 15 = w / 16 ^ (3 : Nat) % 16
    have e := (nb_u12 h).1
    rw [nb_and]
    unfold am_w
    rw [Int.bmod_def]
    split <;> omega
  · show am_and (am_w (am_ushL w (20))) 15 = w / 16 ^ (5 : Nat) % 16
    have e := (nb_u20 h).1
    rw [nb_and]
    unfold am_w
    rw [Int.bmod_def]
    split <;> omega
  · show am_and (am_w (am_ushL w (28))) 15 = w / 16 ^ (7 : Nat) % 16
    have e := (nb_u28 h).1
    rw [nb_and]
    unfold am_w
    rw [Int.bmod_def]
    split <;> omega
theorem nb_m0 {w k : Int} (h : am_r64 w) (h0 : 0 ≤ k) (h3 : k < 4) : am_w (am_andl (am_shrL w (8 * k)) 15) = nb_ w (2 * k) := by
  have hk : k = 0 ∨ k = 1 ∨ k = 2 ∨ k = 3 := by omega
  rcases hk with hk | hk | hk | hk <;> subst hk
  · show am_w (am_andl (am_shrL w (0)) 15) = w / 16 ^ (0 : Nat) % 16
    rw [nb_andl, nb_r0 h, am_w_id (am_ri (by omega) (by omega))]
    rfl
  · show am_w (am_andl (am_shrL w (8)) 15) = w / 16 ^ (2 : Nat) % 16
    rw [nb_andl, nb_r8 h, am_w_id (am_ri (by omega) (by omega))]
    rfl
  · show am_w (am_andl (am_shrL w (16)) 15) = w / 16 ^ (4 : Nat) % 16
    rw [nb_andl, nb_r16 h, am_w_id (am_ri (by omega) (by omega))]
    rfl
  · show am_w (am_andl (am_shrL w (24)) 15) = w / 16 ^ (6 : Nat) % 16
    rw [nb_andl, nb_r24 h, am_w_id (am_ri (by omega) (by omega))]
    rfl
theorem nb_m1 {w k : Int} (h : am_r64 w) (h0 : 0 ≤ k) (h3 : k < 4) : am_w (am_andl (am_shrL w (8 * k + 4)) 15) = nb_ w (2 * k + 1) := by
  have hk : k = 0 ∨ k = 1 ∨ k = 2 ∨ k = 3 := by omega
  rcases hk with hk | hk | hk | hk <;> subst hk
  · show am_w (am_andl (am_shrL w (4)) 15) = w / 16 ^ (1 : Nat) % 16
    rw [nb_andl, nb_r4 h, am_w_id (am_ri (by omega) (by omega))]
    rfl
  · show am_w (am_andl (am_shrL w (12)) 15) = w / 16 ^ (3 : Nat) % 16
    rw [nb_andl, nb_r12 h, am_w_id (am_ri (by omega) (by omega))]
    rfl
  · show am_w (am_andl (am_shrL w (20)) 15) = w / 16 ^ (5 : Nat) % 16
    rw [nb_andl, nb_r20 h, am_w_id (am_ri (by omega) (by omega))]
    rfl
  · show am_w (am_andl (am_shrL w (28)) 15) = w / 16 ^ (7 : Nat) % 16
    rw [nb_andl, nb_r28 h, am_w_id (am_ri (by omega) (by omega))]
    rfl
/-- the long's upper part is empty -/
abbrev bo_h (n w : Int) : Prop := 0 ≤ w ∧ w < (if n = 1 then 256 else if n = 2 then 65536 else if n = 3 then 16777216 else 4294967296)
theorem bo_c {n w : Int} (h : am_r64 w) (h1 : 1 ≤ n) (h4 : n ≤ 4) : am_ushL w (8 * n) = 0 ↔ bo_h n w := by
  have hn : n = 1 ∨ n = 2 ∨ n = 3 ∨ n = 4 := by omega
  have h5 := h
  obtain ⟨g0, g1⟩ := h5
  unfold bo_h
  rcases hn with hn | hn | hn | hn <;> subst hn
  · have e := (nb_u8 h).2
    show am_ushL w 8 = 0 ↔ 0 ≤ w ∧ w < 256
    omega
  · have e := (nb_u16 h).2
    show am_ushL w 16 = 0 ↔ 0 ≤ w ∧ w < 65536
    omega
  · have e := (nb_u24 h).2
    show am_ushL w 24 = 0 ↔ 0 ≤ w ∧ w < 16777216
    omega
  · have e := (nb_u32 h).2
    show am_ushL w 32 = 0 ↔ 0 ≤ w ∧ w < 4294967296
    omega
theorem bo_m {n w : Int} (h : am_r64 w) (h1 : 1 ≤ n) (h4 : n ≤ 4) : am_shrL w (8 * n) = 0 ↔ bo_h n w := by
  have hn : n = 1 ∨ n = 2 ∨ n = 3 ∨ n = 4 := by omega
  unfold bo_h
  rcases hn with hn | hn | hn | hn <;> subst hn
  · have e := nb_r8 h
    show am_shrL w 8 = 0 ↔ 0 ≤ w ∧ w < 256
    omega
  · have e := nb_r16 h
    show am_shrL w 16 = 0 ↔ 0 ≤ w ∧ w < 65536
    omega
  · have e := nb_r24 h
    show am_shrL w 24 = 0 ↔ 0 ≤ w ∧ w < 16777216
    omega
  · have e := nb_r32 h
    show am_shrL w 32 = 0 ↔ 0 ≤ w ∧ w < 4294967296
    omega
/-- a pair more -/
def up1 (m : Int → Int) (p v : Int) : Int → Int := fun i => if i = p then v else m i
def bm_ (n w : Int) : Nat → Int → (Int → Int) → Int
  | 0, _, m => nu_o m (2 * n) 9 0 0 (2 * n - 1)
  | d + 1, k, m => if k < n then (if (nb_ w (2 * k) < 2 * n ∧ nb_ w (2 * k + 1) < 2 * n ∧ nb_ w (2 * k) ≠ nb_ w (2 * k + 1)) ∧ m (nb_ w (2 * k)) = -4 ∧ m (nb_ w (2 * k + 1)) = -4 then bm_ n w d (k + 1) (up1 (up1 m (nb_ w (2 * k)) (nb_ w (2 * k + 1))) (nb_ w (2 * k + 1)) (nb_ w (2 * k))) else -1) else nu_o m (2 * n) 9 0 0 (2 * n - 1)
/-- box's answer -/
def bo_x (n w : Int) : Int := if (1 ≤ n ∧ n ≤ 4) ∧ bo_h n w then bm_ n w 6 0 (fun _ => -4) else -1
/-- k pairs are told, each place at most once -/
def bi_ (n k : Int) (m : Int → Int) : Prop := (∀ i, 0 ≤ i → i < 2 * n → m i = -4 ∨ (0 ≤ m i ∧ m i < 2 * n ∧ m i ≠ i ∧ m (m i) = i)) ∧ fw_n m (2 * n).toNat = 2 * k
theorem bi_0 {n : Int} (h : 0 ≤ n) : bi_ n 0 (fun _ => -4) := ⟨fun _ _ _ => Or.inl rfl, by rw [fw_z _ (fun _ _ _ => rfl)]; rfl⟩
theorem bi_u {n k p q : Int} {m : Int → Int} (h : bi_ n k m) (p0 : 0 ≤ p) (p1 : p < 2 * n) (q0 : 0 ≤ q) (q1 : q < 2 * n) (hpq : p ≠ q) (hp : m p = -4) (hq : m q = -4) : bi_ n (k + 1) (up1 (up1 m p q) q p) := by
  have ep : up1 (up1 m p q) q p p = q := by
    unfold up1
    rw [if_neg hpq, if_pos rfl]
  have eq : up1 (up1 m p q) q p q = p := by
    unfold up1
    rw [if_pos rfl]
  have eo : ∀ i, i ≠ p → i ≠ q → up1 (up1 m p q) q p i = m i := fun i h1 h2 => by
    unfold up1
    rw [if_neg h2, if_neg h1]
  refine ⟨fun i i0 i1 => ?_, ?_⟩
  · by_cases e1 : i = p
    · rw [e1, ep, eq]
      exact Or.inr ⟨q0, q1, Ne.symm hpq, rfl⟩
    · by_cases e2 : i = q
      · rw [e2, eq, ep]
        exact Or.inr ⟨p0, p1, hpq, rfl⟩
      · rw [eo i e1 e2]
        rcases h.1 i i0 i1 with k1 | ⟨k1, k2, k3, k4⟩
        · exact Or.inl k1
        · refine Or.inr ⟨k1, k2, k3, ?_⟩
          rw [eo (m i) (fun q5 => by rw [q5, hp] at k4; omega) (fun q5 => by rw [q5, hq] at k4; omega)]
          exact k4
  · have a1 := fw_ne (g := m) (g2 := up1 m p q) (b := p) hp (by unfold up1; rw [if_pos rfl]; omega) (fun i hi => by unfold up1; rw [if_neg hi]) (2 * n).toNat
    have a2 := fw_ne (g := up1 m p q) (g2 := up1 (up1 m p q) q p) (b := q) (by unfold up1; rw [if_neg (Ne.symm hpq)]; exact hq) (by rw [eq]; omega) (fun i hi => by show (if i = q then p else up1 m p q i) = _; rw [if_neg hi]) (2 * n).toNat
    rw [if_pos (by omega)] at a1
    rw [if_pos (by omega)] at a2
    have := h.2
    omega
theorem fw_all {g : Int → Int} : ∀ k : Nat, fw_n g k = (k : Int) → ∀ i, 0 ≤ i → i < (k : Int) → g i ≠ -4
  | 0, _, i, i0, i1 => absurd i1 (by omega)
  | k + 1, h, i, i0, i1 => by
    rw [fw_n] at h
    have l := fw_le (g := g) k
    by_cases e : g (k : Int) = -4
    · rw [if_pos e] at h
      exfalso
      omega
    · rw [if_neg e] at h
      by_cases e2 : i = (k : Int)
      · rw [e2]; exact e
      · exact fw_all k (by omega) i i0 (by omega)
theorem bi_e {n : Int} {m : Int → Int} (h1 : 0 ≤ n) (h : bi_ n n m) : fi n m := fun p p0 p1 => by
  have a := fw_all (g := m) (2 * n).toNat (by rw [h.2]; omega) p p0 (by omega)
  exact (h.1 p p0 p1).resolve_left a
/-! The class: answer of box. Printed by wip/p20/sx/gNC.py. -/

def bo_M (aS aD : Nat) (N : Int) (m : Int → Int) (c : aq_C) : Prop := ∀ i, 0 ≤ i → i < N → (m i = -4 ∧ c aS i = 0) ∨ (m i ≠ -4 ∧ c aS i = 1 ∧ c aD i = m i)
theorem bo_w {aS aD : Nat} {N p q : Int} {m : Int → Int} {c c1 c2 c3 c4 : aq_C} (hne : aS ≠ aD) (hpq : p ≠ q) (p0 : 0 ≤ p) (q0 : 0 ≤ q) (hM : bo_M aS aD N m c) (e1 : aq_u c aS p 1 = c1) (e2 : aq_u c1 aS q 1 = c2) (e3 : aq_u c2 aD p q = c3) (e4 : aq_u c3 aD q p = c4) : bo_M aS aD N (up1 (up1 m p q) q p) c4 := by
  intro i i0 i1
  have s4 : c4 aS i = c2 aS i := by rw [← e4, aq_un (Or.inl hne), ← e3, aq_un (Or.inl hne)]
  by_cases h1 : i = q
  · right
    have eu : up1 (up1 m p q) q p i = p := by unfold up1; rw [if_pos h1]
    rw [eu, s4, ← e2, ← e4, h1, aq_us, aq_us]
    exact ⟨by omega, rfl, rfl⟩
  · by_cases h2 : i = p
    · right
      have eu : up1 (up1 m p q) q p i = q := by unfold up1; rw [if_neg h1, if_pos h2]
      rw [eu, s4, ← e2, aq_un (Or.inr h1), ← e1, ← e4, aq_un (Or.inr h1), ← e3, h2, aq_us, aq_us]
      exact ⟨by omega, rfl, rfl⟩
    · have eu : up1 (up1 m p q) q p i = m i := by unfold up1; rw [if_neg h1, if_neg h2]
      rw [eu, s4, ← e2, aq_un (Or.inr h1), ← e1, aq_un (Or.inr h2), ← e4, aq_un (Or.inr h1), ← e3, aq_un (Or.inr h2), ← e2, aq_un (Or.inl (Ne.symm hne)), ← e1, aq_un (Or.inl (Ne.symm hne))]
      exact hM i i0 i1

theorem qy_ofPairs_l {m s : Nat} {F : aq_F} {c0 : aq_C} {S : Nat → Prop} {o n K : Nat} (hB : bx_0 m F o n K) (hSd : S (o + 6 + 3 * K)) (hSs : S (o + 7 + 3 * K)) {w : Int} (hw : am_r64 w) {T : Int} : ∀ (d : Nat) (mm : Int → Int) (k : Int) (v4 : am_V) (v5 : am_V) (c : aq_C) (hs : aq_sm S c0 c) (h0 : 0 ≤ k) (h1 : k ≤ (n : Int)) (hr : aq_rg (o + 6 + 3 * K) (2 * (n : Int)) 0 (2 * (n : Int)) c) (hM : bo_M (o + 7 + 3 * K) (o + 6 + 3 * K) (2 * (n : Int)) mm c) (hbi : bi_ (n : Int) k mm) (hq : bm_ (n : Int) w d k mm = T) (hd : (n : Int) - k < (d : Int)), am_E ac_X0_ofPairs (22, [vR o, vL w, vU, vI k, v4, v5], [], aq_h m s F c) (aq_Z m s F S c0 (fun r d => r = some (vI T) ∧ aq_rg (o + 6 + 3 * K) (2 * (n : Int)) 0 (2 * (n : Int)) d))
  | 0, mm, k, v4, v5, c, hs, h0, h1, hr, hM, hbi, hq, hd => by exfalso; omega
  | d + 1, mm, k, v4, v5, c, hs, h0, h1, hr, hM, hbi, hq, hd => by
    obtain ⟨hm, hn1, hn4, hK, hFo, hFd, hFs⟩ := hB
    refine am_E.go (t2 := (23, [vR o, vL w, vU, vI k, v4, v5], [vI k], aq_h m s F c)) rfl rfl ?_
    refine am_E.go (t2 := (24, [vR o, vL w, vU, vI k, v4, v5], [vR o, vI k], aq_h m s F c)) rfl rfl ?_
    refine aq_gf (v := vI (n : Int)) rfl (by omega) hFo (by decide) rfl ?_
    show am_E _ (27, [vR o, vL w, vU, vI k, v4, v5], [vI (n : Int), vI k], aq_h m s F c) _
    refine ae_icmp rfl (fun (q_1 : (n : Int) ≤ k) => ?_) (fun (q_1 : k < (n : Int)) => ?_)
    · refine am_E.go (t2 := (137, [vR o, vL w, vU, vI k, v4, v5], [vR o], aq_h m s F c)) rfl rfl ?_
      refine am_E.go (t2 := (138, [vR o, vL w, vU, vI k, v4, v5], [vR o, vR o], aq_h m s F c)) rfl rfl ?_
      refine aq_gf (v := vR (o + 6 + 3 * K)) rfl (by omega) hFo (by decide) rfl ?_
      show am_E _ (141, [vR o, vL w, vU, vI k, v4, v5], [vR (o + 6 + 3 * K), vR o], aq_h m s F c) _
      refine aq_callv (y := 2) (as2 := [vR (o + 6 + 3 * K)]) (rest := []) rfl rfl (by decide) (Nat.le_of_ble_eq_true rfl) rfl rfl (Nat.le_of_ble_eq_true rfl) (by omega) hFo rfl (Nat.le_of_ble_eq_true rfl) (qn_X0_numberOf ⟨hm, hn1, hn4, hK, hFo, hFd, hFs⟩ hr) ?_
      rintro r5 h5 ⟨rfl, rfl⟩
      show am_E _ (144, [vR o, vL w, vU, vI k, v4, v5], [vI (nu_o (c (o + 6 + 3 * K)) (2 * (n : Int)) 9 0 0 (2 * (n : Int) - 1))], aq_h m s F c) _
      refine am_E.ret rfl rfl ?_
      have ek : k = (n : Int) := by omega
      rw [ek] at hbi
      have hfi := bi_e (by omega) hbi
      refine ⟨_, rfl, hs, ?_, hr⟩
      rw [← hq, bm_, if_neg (by omega), nu_oc (N := 2 * (n : Int)) (f := c (o + 6 + 3 * K)) (g := mm) (fun i i0 i1 => by have a1 := hM i i0 i1; have a2 := hfi i i0 i1; omega) (fun i i0 i1 => by have := hr i i0 i1; omega) 9 0 0 (2 * (n : Int) - 1) (by omega)]
    · refine am_E.go (t2 := (31, [vR o, vL w, vU, vI k, v4, v5], [vL w], aq_h m s F c)) rfl rfl ?_
      refine am_E.go (t2 := (33, [vR o, vL w, vU, vI k, v4, v5], [vI 8, vL w], aq_h m s F c)) rfl rfl ?_
      refine am_E.go (t2 := (34, [vR o, vL w, vU, vI k, v4, v5], [vI k, vI 8, vL w], aq_h m s F c)) rfl rfl ?_
      refine ae_mul rfl (am_ri (by omega) (by omega)) ?_
      show am_E _ (35, [vR o, vL w, vU, vI k, v4, v5], [vI (8 * k), vL w], aq_h m s F c) _
      refine am_E.go (t2 := (36, [vR o, vL w, vU, vI k, v4, v5], [vL (am_ushL w (8 * k))], aq_h m s F c)) rfl rfl ?_
      refine am_E.go (t2 := (37, [vR o, vL w, vU, vI k, v4, v5], [vI (am_w (am_ushL w (8 * k)))], aq_h m s F c)) rfl rfl ?_
      refine am_E.go (t2 := (39, [vR o, vL w, vU, vI k, v4, v5], [vI 15, vI (am_w (am_ushL w (8 * k)))], aq_h m s F c)) rfl rfl ?_
      have e_2 := nb_c0 (w := w) (k := k) hw h0 (by omega)
      have be_2 := nb_b w (2 * k)
      refine ae_bin (z := nb_ w (2 * k)) rfl rfl (congrArg some e_2) ?_
      refine am_E.go (t2 := (42, [vR o, vL w, vU, vI k, vI (nb_ w (2 * k)), v5], [], aq_h m s F c)) rfl rfl ?_
      refine am_E.go (t2 := (43, [vR o, vL w, vU, vI k, vI (nb_ w (2 * k)), v5], [vL w], aq_h m s F c)) rfl rfl ?_
      refine am_E.go (t2 := (45, [vR o, vL w, vU, vI k, vI (nb_ w (2 * k)), v5], [vI 8, vL w], aq_h m s F c)) rfl rfl ?_
      refine am_E.go (t2 := (46, [vR o, vL w, vU, vI k, vI (nb_ w (2 * k)), v5], [vI k, vI 8, vL w], aq_h m s F c)) rfl rfl ?_
      refine ae_mul rfl (am_ri (by omega) (by omega)) ?_
      show am_E _ (47, [vR o, vL w, vU, vI k, vI (nb_ w (2 * k)), v5], [vI (8 * k), vL w], aq_h m s F c) _
      refine am_E.go (t2 := (48, [vR o, vL w, vU, vI k, vI (nb_ w (2 * k)), v5], [vI 4, vI (8 * k), vL w], aq_h m s F c)) rfl rfl ?_
      refine ae_add rfl (am_ri (by omega) (by omega)) ?_
      show am_E _ (49, [vR o, vL w, vU, vI k, vI (nb_ w (2 * k)), v5], [vI ((8 * k) + 4), vL w], aq_h m s F c) _
      refine am_E.go (t2 := (50, [vR o, vL w, vU, vI k, vI (nb_ w (2 * k)), v5], [vL (am_ushL w ((8 * k) + 4))], aq_h m s F c)) rfl rfl ?_
      refine am_E.go (t2 := (51, [vR o, vL w, vU, vI k, vI (nb_ w (2 * k)), v5], [vI (am_w (am_ushL w ((8 * k) + 4)))], aq_h m s F c)) rfl rfl ?_
      refine am_E.go (t2 := (53, [vR o, vL w, vU, vI k, vI (nb_ w (2 * k)), v5], [vI 15, vI (am_w (am_ushL w ((8 * k) + 4)))], aq_h m s F c)) rfl rfl ?_
      have e_3 := nb_c1 (w := w) (k := k) hw h0 (by omega)
      have be_3 := nb_b w (2 * k + 1)
      refine ae_bin (z := nb_ w (2 * k + 1)) rfl rfl (congrArg some e_3) ?_
      refine am_E.go (t2 := (56, [vR o, vL w, vU, vI k, vI (nb_ w (2 * k)), vI (nb_ w (2 * k + 1))], [], aq_h m s F c)) rfl rfl ?_
      refine am_E.go (t2 := (58, [vR o, vL w, vU, vI k, vI (nb_ w (2 * k)), vI (nb_ w (2 * k + 1))], [vI (nb_ w (2 * k))], aq_h m s F c)) rfl rfl ?_
      refine am_E.go (t2 := (59, [vR o, vL w, vU, vI k, vI (nb_ w (2 * k)), vI (nb_ w (2 * k + 1))], [vR o, vI (nb_ w (2 * k))], aq_h m s F c)) rfl rfl ?_
      refine aq_gf (v := vI (2 * (n : Int))) rfl (by omega) hFo (by decide) rfl ?_
      show am_E _ (62, [vR o, vL w, vU, vI k, vI (nb_ w (2 * k)), vI (nb_ w (2 * k + 1))], [vI (2 * (n : Int)), vI (nb_ w (2 * k))], aq_h m s F c) _
      refine ae_icmp rfl (fun (q_4 : (2 * (n : Int)) ≤ (nb_ w (2 * k))) => ?_) (fun (q_4 : (nb_ w (2 * k)) < (2 * (n : Int))) => ?_)
      · refine am_E.go (t2 := (102, [vR o, vL w, vU, vI k, vI (nb_ w (2 * k)), vI (nb_ w (2 * k + 1))], [vI (-1)], aq_h m s F c)) rfl rfl ?_
        refine am_E.ret rfl rfl ?_
        exact ⟨_, rfl, hs, by rw [← hq, bm_, if_pos (by omega), if_neg (by omega)], hr⟩
      · refine am_E.go (t2 := (67, [vR o, vL w, vU, vI k, vI (nb_ w (2 * k)), vI (nb_ w (2 * k + 1))], [vI (nb_ w (2 * k + 1))], aq_h m s F c)) rfl rfl ?_
        refine am_E.go (t2 := (68, [vR o, vL w, vU, vI k, vI (nb_ w (2 * k)), vI (nb_ w (2 * k + 1))], [vR o, vI (nb_ w (2 * k + 1))], aq_h m s F c)) rfl rfl ?_
        refine aq_gf (v := vI (2 * (n : Int))) rfl (by omega) hFo (by decide) rfl ?_
        show am_E _ (71, [vR o, vL w, vU, vI k, vI (nb_ w (2 * k)), vI (nb_ w (2 * k + 1))], [vI (2 * (n : Int)), vI (nb_ w (2 * k + 1))], aq_h m s F c) _
        refine ae_icmp rfl (fun (q_5 : (2 * (n : Int)) ≤ (nb_ w (2 * k + 1))) => ?_) (fun (q_5 : (nb_ w (2 * k + 1)) < (2 * (n : Int))) => ?_)
        · refine am_E.go (t2 := (102, [vR o, vL w, vU, vI k, vI (nb_ w (2 * k)), vI (nb_ w (2 * k + 1))], [vI (-1)], aq_h m s F c)) rfl rfl ?_
          refine am_E.ret rfl rfl ?_
          exact ⟨_, rfl, hs, by rw [← hq, bm_, if_pos (by omega), if_neg (by omega)], hr⟩
        · refine am_E.go (t2 := (76, [vR o, vL w, vU, vI k, vI (nb_ w (2 * k)), vI (nb_ w (2 * k + 1))], [vI (nb_ w (2 * k))], aq_h m s F c)) rfl rfl ?_
          refine am_E.go (t2 := (78, [vR o, vL w, vU, vI k, vI (nb_ w (2 * k)), vI (nb_ w (2 * k + 1))], [vI (nb_ w (2 * k + 1)), vI (nb_ w (2 * k))], aq_h m s F c)) rfl rfl ?_
          refine ae_icmp rfl (fun (q_6 : (nb_ w (2 * k)) = (nb_ w (2 * k + 1))) => ?_) (fun (q_6 : (nb_ w (2 * k)) ≠ (nb_ w (2 * k + 1))) => ?_)
          · refine am_E.go (t2 := (102, [vR o, vL w, vU, vI k, vI (nb_ w (2 * k)), vI (nb_ w (2 * k + 1))], [vI (-1)], aq_h m s F c)) rfl rfl ?_
            refine am_E.ret rfl rfl ?_
            exact ⟨_, rfl, hs, by rw [← hq, bm_, if_pos (by omega), if_neg (by omega)], hr⟩
          · refine am_E.go (t2 := (82, [vR o, vL w, vU, vI k, vI (nb_ w (2 * k)), vI (nb_ w (2 * k + 1))], [vR o], aq_h m s F c)) rfl rfl ?_
            refine aq_gf (v := vR (o + 7 + 3 * K)) rfl (by omega) hFo (by decide) rfl ?_
            show am_E _ (85, [vR o, vL w, vU, vI k, vI (nb_ w (2 * k)), vI (nb_ w (2 * k + 1))], [vR (o + 7 + 3 * K)], aq_h m s F c) _
            refine am_E.go (t2 := (87, [vR o, vL w, vU, vI k, vI (nb_ w (2 * k)), vI (nb_ w (2 * k + 1))], [vI (nb_ w (2 * k)), vR (o + 7 + 3 * K)], aq_h m s F c)) rfl rfl ?_
            refine aq_al (ok := fun k => k == 1) (v := vI (c (o + 7 + 3 * K) (nb_ w (2 * k)))) rfl rfl (by omega) hFs rfl (by omega) (by omega) rfl ?_
            show am_E _ (88, [vR o, vL w, vU, vI k, vI (nb_ w (2 * k)), vI (nb_ w (2 * k + 1))], [vI (c (o + 7 + 3 * K) (nb_ w (2 * k)))], aq_h m s F c) _
            have f_7 := hM (nb_ w (2 * k)) (by omega) (by omega)
            refine ae_if0 rfl (fun (q_8 : (c (o + 7 + 3 * K) (nb_ w (2 * k))) ≠ 0) => ?_) (fun (q_8 : (c (o + 7 + 3 * K) (nb_ w (2 * k))) = 0) => ?_)
            · refine am_E.go (t2 := (102, [vR o, vL w, vU, vI k, vI (nb_ w (2 * k)), vI (nb_ w (2 * k + 1))], [vI (-1)], aq_h m s F c)) rfl rfl ?_
              refine am_E.ret rfl rfl ?_
              exact ⟨_, rfl, hs, by rw [← hq, bm_, if_pos (by omega), if_neg (by omega)], hr⟩
            · refine am_E.go (t2 := (92, [vR o, vL w, vU, vI k, vI (nb_ w (2 * k)), vI (nb_ w (2 * k + 1))], [vR o], aq_h m s F c)) rfl rfl ?_
              refine aq_gf (v := vR (o + 7 + 3 * K)) rfl (by omega) hFo (by decide) rfl ?_
              show am_E _ (95, [vR o, vL w, vU, vI k, vI (nb_ w (2 * k)), vI (nb_ w (2 * k + 1))], [vR (o + 7 + 3 * K)], aq_h m s F c) _
              refine am_E.go (t2 := (97, [vR o, vL w, vU, vI k, vI (nb_ w (2 * k)), vI (nb_ w (2 * k + 1))], [vI (nb_ w (2 * k + 1)), vR (o + 7 + 3 * K)], aq_h m s F c)) rfl rfl ?_
              refine aq_al (ok := fun k => k == 1) (v := vI (c (o + 7 + 3 * K) (nb_ w (2 * k + 1)))) rfl rfl (by omega) hFs rfl (by omega) (by omega) rfl ?_
              show am_E _ (98, [vR o, vL w, vU, vI k, vI (nb_ w (2 * k)), vI (nb_ w (2 * k + 1))], [vI (c (o + 7 + 3 * K) (nb_ w (2 * k + 1)))], aq_h m s F c) _
              have f_9 := hM (nb_ w (2 * k + 1)) (by omega) (by omega)
              refine ae_if0 rfl (fun (q_10 : (c (o + 7 + 3 * K) (nb_ w (2 * k + 1))) = 0) => ?_) (fun (q_10 : (c (o + 7 + 3 * K) (nb_ w (2 * k + 1))) ≠ 0) => ?_)
              · refine am_E.go (t2 := (104, [vR o, vL w, vU, vI k, vI (nb_ w (2 * k)), vI (nb_ w (2 * k + 1))], [vR o], aq_h m s F c)) rfl rfl ?_
                refine aq_gf (v := vR (o + 7 + 3 * K)) rfl (by omega) hFo (by decide) rfl ?_
                show am_E _ (107, [vR o, vL w, vU, vI k, vI (nb_ w (2 * k)), vI (nb_ w (2 * k + 1))], [vR (o + 7 + 3 * K)], aq_h m s F c) _
                refine am_E.go (t2 := (109, [vR o, vL w, vU, vI k, vI (nb_ w (2 * k)), vI (nb_ w (2 * k + 1))], [vI (nb_ w (2 * k)), vR (o + 7 + 3 * K)], aq_h m s F c)) rfl rfl ?_
                refine am_E.go (t2 := (110, [vR o, vL w, vU, vI k, vI (nb_ w (2 * k)), vI (nb_ w (2 * k + 1))], [vI 1, vI (nb_ w (2 * k)), vR (o + 7 + 3 * K)], aq_h m s F c)) rfl rfl ?_
                refine aq_as (kd := 1) rfl rfl (by omega) hFs (by omega) (by omega) rfl rfl ?_
                show am_E _ (111, [vR o, vL w, vU, vI k, vI (nb_ w (2 * k)), vI (nb_ w (2 * k + 1))], [], aq_h m s F (aq_u c (o + 7 + 3 * K) (nb_ w (2 * k)) 1)) _
                generalize hdc_11 : aq_u c (o + 7 + 3 * K) (nb_ w (2 * k)) 1 = c_11
                have sc_11 := aq_smu hs hdc_11 hSs
                have hdrc_11 := aq_rgn hr hdc_11 (by omega)
                refine am_E.go (t2 := (112, [vR o, vL w, vU, vI k, vI (nb_ w (2 * k)), vI (nb_ w (2 * k + 1))], [vR o], aq_h m s F c_11)) rfl rfl ?_
                refine aq_gf (v := vR (o + 7 + 3 * K)) rfl (by omega) hFo (by decide) rfl ?_
                show am_E _ (115, [vR o, vL w, vU, vI k, vI (nb_ w (2 * k)), vI (nb_ w (2 * k + 1))], [vR (o + 7 + 3 * K)], aq_h m s F c_11) _
                refine am_E.go (t2 := (117, [vR o, vL w, vU, vI k, vI (nb_ w (2 * k)), vI (nb_ w (2 * k + 1))], [vI (nb_ w (2 * k + 1)), vR (o + 7 + 3 * K)], aq_h m s F c_11)) rfl rfl ?_
                refine am_E.go (t2 := (118, [vR o, vL w, vU, vI k, vI (nb_ w (2 * k)), vI (nb_ w (2 * k + 1))], [vI 1, vI (nb_ w (2 * k + 1)), vR (o + 7 + 3 * K)], aq_h m s F c_11)) rfl rfl ?_
                refine aq_as (kd := 1) rfl rfl (by omega) hFs (by omega) (by omega) rfl rfl ?_
                show am_E _ (119, [vR o, vL w, vU, vI k, vI (nb_ w (2 * k)), vI (nb_ w (2 * k + 1))], [], aq_h m s F (aq_u c_11 (o + 7 + 3 * K) (nb_ w (2 * k + 1)) 1)) _
                generalize hdc_12 : aq_u c_11 (o + 7 + 3 * K) (nb_ w (2 * k + 1)) 1 = c_12
                have sc_12 := aq_smu sc_11 hdc_12 hSs
                have hdrc_12 := aq_rgn hdrc_11 hdc_12 (by omega)
                refine am_E.go (t2 := (120, [vR o, vL w, vU, vI k, vI (nb_ w (2 * k)), vI (nb_ w (2 * k + 1))], [vR o], aq_h m s F c_12)) rfl rfl ?_
                refine aq_gf (v := vR (o + 6 + 3 * K)) rfl (by omega) hFo (by decide) rfl ?_
                show am_E _ (123, [vR o, vL w, vU, vI k, vI (nb_ w (2 * k)), vI (nb_ w (2 * k + 1))], [vR (o + 6 + 3 * K)], aq_h m s F c_12) _
                refine am_E.go (t2 := (125, [vR o, vL w, vU, vI k, vI (nb_ w (2 * k)), vI (nb_ w (2 * k + 1))], [vI (nb_ w (2 * k)), vR (o + 6 + 3 * K)], aq_h m s F c_12)) rfl rfl ?_
                refine am_E.go (t2 := (127, [vR o, vL w, vU, vI k, vI (nb_ w (2 * k)), vI (nb_ w (2 * k + 1))], [vI (nb_ w (2 * k + 1)), vI (nb_ w (2 * k)), vR (o + 6 + 3 * K)], aq_h m s F c_12)) rfl rfl ?_
                refine am_E.call rfl rfl rfl (Nat.le_of_ble_eq_true rfl) (qn_X0_pair (by omega) hFd (by omega) (by omega) (by omega) (by omega)) ?_
                rintro r5 h5 ⟨rfl, rfl⟩
                show am_E _ (130, [vR o, vL w, vU, vI k, vI (nb_ w (2 * k)), vI (nb_ w (2 * k + 1))], [], aq_h m s F (aq_u (aq_u c_12 (o + 6 + 3 * K) (nb_ w (2 * k)) (nb_ w (2 * k + 1))) (o + 6 + 3 * K) (nb_ w (2 * k + 1)) (nb_ w (2 * k)))) _
                generalize hdc_13 : aq_u c_12 (o + 6 + 3 * K) (nb_ w (2 * k)) (nb_ w (2 * k + 1)) = c_13
                have sc_13 := aq_smu sc_12 hdc_13 hSd
                have hdrc_13 := aq_rgu hdrc_12 hdc_13 (by omega) (by omega)
                generalize hdc_14 : aq_u c_13 (o + 6 + 3 * K) (nb_ w (2 * k + 1)) (nb_ w (2 * k)) = c_14
                have sc_14 := aq_smu sc_13 hdc_14 hSd
                have hdrc_14 := aq_rgu hdrc_13 hdc_14 (by omega) (by omega)
                refine ae_iinc rfl rfl (am_ri (by omega) (by omega)) ?_
                show am_E _ (133, [vR o, vL w, vU, vI (k + 1), vI (nb_ w (2 * k)), vI (nb_ w (2 * k + 1))], [], aq_h m s F c_14) _
                refine am_E.go (t2 := (22, [vR o, vL w, vU, vI (k + 1), vI (nb_ w (2 * k)), vI (nb_ w (2 * k + 1))], [], aq_h m s F c_14)) rfl rfl ?_
                exact qy_ofPairs_l ⟨hm, hn1, hn4, hK, hFo, hFd, hFs⟩ hSd hSs hw d (up1 (up1 mm (nb_ w (2 * k)) (nb_ w (2 * k + 1))) (nb_ w (2 * k + 1)) (nb_ w (2 * k))) (k + 1) (vI (nb_ w (2 * k))) (vI (nb_ w (2 * k + 1))) c_14 sc_14 (by omega) (by omega) hdrc_14 (bo_w (by omega) (by omega) (by omega) (by omega) hM hdc_11 hdc_12 hdc_13 hdc_14) (bi_u hbi (by omega) (by omega) (by omega) (by omega) (by omega) (by omega) (by omega)) (by rw [← hq, bm_, if_pos (by omega), if_pos ⟨⟨by omega, by omega, by omega⟩, by omega, by omega⟩]) (by omega)
              · refine am_E.go (t2 := (102, [vR o, vL w, vU, vI k, vI (nb_ w (2 * k)), vI (nb_ w (2 * k + 1))], [vI (-1)], aq_h m s F c)) rfl rfl ?_
                refine am_E.ret rfl rfl ?_
                exact ⟨_, rfl, hs, by rw [← hq, bm_, if_pos (by omega), if_neg (by omega)], hr⟩

theorem qy_ofPairs {m s : Nat} {F : aq_F} {c : aq_C} {S : Nat → Prop} {o n K : Nat} (hB : bx_0 m F o n K) (hSd : S (o + 6 + 3 * K)) (hSs : S (o + 7 + 3 * K)) {w : Int} (hw : am_r64 w) (hr : aq_rg (o + 6 + 3 * K) (2 * (n : Int)) 0 (2 * (n : Int)) c) : am_E ac_X0_ofPairs (0, [vR o, vL w, vU, vU, vU, vU], [], aq_h m s F c) (aq_Z m s F S c (fun r d => r = some (vI (if bo_h (n : Int) w then bm_ (n : Int) w 6 0 (fun _ => -4) else -1)) ∧ aq_rg (o + 6 + 3 * K) (2 * (n : Int)) 0 (2 * (n : Int)) d)) := by
  obtain ⟨hm, hn1, hn4, hK, hFo, hFd, hFs⟩ := hB
  have hbc := bo_c (n := (n : Int)) hw (by omega) (by omega)
  refine am_E.go (t2 := (1, [vR o, vL w, vU, vU, vU, vU], [vL w], aq_h m s F c)) rfl rfl ?_
  refine am_E.go (t2 := (3, [vR o, vL w, vU, vU, vU, vU], [vI 8, vL w], aq_h m s F c)) rfl rfl ?_
  refine am_E.go (t2 := (4, [vR o, vL w, vU, vU, vU, vU], [vR o, vI 8, vL w], aq_h m s F c)) rfl rfl ?_
  refine aq_gf (v := vI (n : Int)) rfl (by omega) hFo (by decide) rfl ?_
  show am_E _ (7, [vR o, vL w, vU, vU, vU, vU], [vI (n : Int), vI 8, vL w], aq_h m s F c) _
  refine ae_mul rfl (am_ri (by omega) (by omega)) ?_
  show am_E _ (8, [vR o, vL w, vU, vU, vU, vU], [vI (8 * (n : Int)), vL w], aq_h m s F c) _
  refine am_E.go (t2 := (9, [vR o, vL w, vU, vU, vU, vU], [vL (am_ushL w (8 * (n : Int)))], aq_h m s F c)) rfl rfl ?_
  refine am_E.go (t2 := (10, [vR o, vL w, vU, vU, vU, vU], [vL 0, vL (am_ushL w (8 * (n : Int)))], aq_h m s F c)) rfl rfl ?_
  have ez_1 := am_lcf (am_ushL w (8 * (n : Int))) 0
  refine am_E.go (t2 := (11, [vR o, vL w, vU, vU, vU, vU], [vI (if (am_ushL w (8 * (n : Int))) < 0 then -1 else if (am_ushL w (8 * (n : Int))) = 0 then 0 else 1)], aq_h m s F c)) rfl rfl ?_
  generalize (if (am_ushL w (8 * (n : Int))) < 0 then -1 else if (am_ushL w (8 * (n : Int))) = 0 then 0 else 1) = z_1 at ez_1 ⊢
  refine ae_if0 rfl (fun (q_2 : z_1 = 0) => ?_) (fun (q_2 : z_1 ≠ 0) => ?_)
  · have hbo : bo_h (n : Int) w := hbc.mp (by omega)
    refine am_E.go (t2 := (17, [vR o, vL w, vU, vU, vU, vU], [vR o], aq_h m s F c)) rfl rfl ?_
    refine aq_callv (y := 1) (as2 := []) (rest := []) rfl rfl (by decide) (Nat.le_of_ble_eq_true rfl) rfl rfl (Nat.le_of_ble_eq_true rfl) (by omega) hFo rfl (Nat.le_of_ble_eq_true rfl) (qn_X0_forgetSeen ⟨hm, hn1, hn4, hK, hFo, hFd, hFs⟩) ?_
    rintro r5 h5 ⟨c_z, rfl, s_z, rfl, hz_z⟩
    show am_E _ (20, [vR o, vL w, vU, vU, vU, vU], [], aq_h m s F c_z) _
    refine am_E.go (t2 := (21, [vR o, vL w, vU, vU, vU, vU], [vI 0], aq_h m s F c_z)) rfl rfl ?_
    refine am_E.go (t2 := (22, [vR o, vL w, vU, vI 0, vU, vU], [], aq_h m s F c_z)) rfl rfl ?_
    exact qy_ofPairs_l ⟨hm, hn1, hn4, hK, hFo, hFd, hFs⟩ hSd hSs hw 6 (fun _ => -4) 0 (vU) (vU) c_z (aq_smt aq_sm0 (aq_smi s_z (fun a h => by rw [h]; exact hSs))) (by omega) (by omega) (aq_rgs hr s_z (by omega)) (fun i i0 i1 => Or.inl ⟨rfl, hz_z i i0 i1⟩) (bi_0 (by omega)) (by rw [if_pos hbo]) (by omega)
  · refine am_E.go (t2 := (15, [vR o, vL w, vU, vU, vU, vU], [vI (-1)], aq_h m s F c)) rfl rfl ?_
    refine am_E.ret rfl rfl ?_
    exact ⟨_, rfl, aq_sm0, by rw [if_neg (fun q5 => by have := hbc.mpr q5; omega)], hr⟩

theorem qe_X4_box {m s : Nat} {F : aq_F} {c : aq_C} (hC : sb_C m F) (hI : cl_I c) {nn w : Int} (hw : am_r64 w) : am_E ac_X4_box (0, [vR 0, vI nn, vL w, vU], [], aq_h m s F c) (aq_Z m s F (fun a => a < 527) c (fun r d => r = some (vI (bo_x nn w)) ∧ cl_I d)) := by
  obtain ⟨hCm, hC0, hC1, hC2, hC3, ⟨hma4, hFa4, hFn4, hFp4, hFf4⟩, ⟨hmx, hFx, hFl, hFw⟩, hCs, hCb, hCh⟩ := id hC
  refine am_E.go (t2 := (1, [vR 0, vI nn, vL w, vU], [vI nn], aq_h m s F c)) rfl rfl ?_
  refine am_E.call rfl rfl rfl (Nat.le_of_ble_eq_true rfl) (qn_X4_isStrands) ?_
  rintro r5 h5 ⟨rfl, v_1, rfl, hv_1⟩
  show am_E _ (4, [vR 0, vI nn, vL w, vU], [vI v_1], aq_h m s F c) _
  refine ae_if0 rfl (fun (q_2 : v_1 ≠ 0) => ?_) (fun (q_2 : v_1 = 0) => ?_)
  · refine am_E.go (t2 := (10, [vR 0, vI nn, vL w, vU], [vR 0], aq_h m s F c)) rfl rfl ?_
    refine aq_gf (v := vR 1) rfl (by omega) hC0 (by decide) rfl ?_
    show am_E _ (13, [vR 0, vI nn, vL w, vU], [vR 1], aq_h m s F c) _
    refine am_E.go (t2 := (14, [vR 0, vI nn, vL w, vU], [vI nn, vR 1], aq_h m s F c)) rfl rfl ?_
    refine am_E.go (t2 := (15, [vR 0, vI nn, vL w, vU], [vI 1, vI nn, vR 1], aq_h m s F c)) rfl rfl ?_
    refine ae_sub rfl (am_ri (by omega) (by omega)) ?_
    show am_E _ (16, [vR 0, vI nn, vL w, vU], [vI (nn - 1), vR 1], aq_h m s F c) _
    obtain ⟨o, n, K, e_o, e_n, e_K, e_j, e_k, tP, tG, tN, tR, tL, ⟨hm, hn1, hn4, hK, hFo, hFd, hFs⟩, ⟨hPg, hPr, hPt⟩, ⟨hL, hGg, hGr, hNg, hNr, hLt, hGt, hNt⟩, ⟨hR, hRt⟩, hst, hex⟩ := sb_box hC (i := (nn - 1)) (by omega) (by omega)
    have hb := sb_bnd ((nn - 1)).toNat (by omega)
    rw [e_o, e_k] at hb
    have hbK : (K : Int) = bx_K nn := by rw [e_K]; congr 1; omega
    refine aq_al (ok := fun k => decide (3 ≤ k) && decide (k < 7)) (v := vR o) rfl rfl (by omega) hC1 rfl (by omega) (by omega) (aq_gi2 (by omega) e_o) ?_
    show am_E _ (17, [vR 0, vI nn, vL w, vU], [vR o], aq_h m s F c) _
    refine am_E.go (t2 := (18, [vR 0, vI nn, vL w, vU], [vL w, vR o], aq_h m s F c)) rfl rfl ?_
    refine aq_callv (y := 2) (as2 := [vL w]) (rest := []) rfl rfl (by decide) (Nat.le_of_ble_eq_true rfl) rfl rfl (Nat.le_of_ble_eq_true rfl) (by omega) hFo rfl (Nat.le_of_ble_eq_true rfl) (qy_ofPairs (S := fun a => a = o + 6 + 3 * K ∨ a = o + 7 + 3 * K) ⟨hm, hn1, hn4, hK, hFo, hFd, hFs⟩ (Or.inl rfl) (Or.inr rfl) hw (by have h9 := hI.1 ((nn - 1)).toNat (by omega); rw [e_o, e_k, ← e_j] at h9; exact h9)) ?_
    rintro r5 h5 ⟨c_b, rfl, s_b, rfl, hr_b⟩
    show am_E _ (21, [vR 0, vI nn, vL w, vU], [vI (if bo_h (n : Int) w then bm_ (n : Int) w 6 0 (fun _ => -4) else -1)], aq_h m s F c_b) _
    refine am_E.ret rfl rfl ?_
    refine ⟨_, rfl, (aq_smt (aq_sm0 (S := fun a => a < 527)) (aq_smi s_b (fun a h => by omega))), ?_, cl_b hI (j := ((nn - 1)).toNat) (by omega) (by rw [e_o, e_k]; exact s_b) (by rw [e_o, e_k, ← e_j]; exact hr_b)⟩
    have e2 : (n : Int) = nn := by omega
    have e3 : bo_x nn w = (if bo_h nn w then bm_ nn w 6 0 (fun _ => -4) else -1) := by
      unfold bo_x
      by_cases q5 : bo_h nn w
      · rw [if_pos ⟨by omega, q5⟩, if_pos q5]
      · rw [if_neg (fun q6 => q5 q6.2), if_neg q5]
    rw [e3, e2]
  · refine am_E.go (t2 := (8, [vR 0, vI nn, vL w, vU], [vI (-1)], aq_h m s F c)) rfl rfl ?_
    refine am_E.ret rfl rfl ?_
    exact ⟨_, rfl, (aq_sm0 (S := fun a => a < 527)), by unfold bo_x; rw [if_neg (fun q5 => by omega)], hI⟩
/-! The reference: answer of box. Printed by wip/p20/sx/gND.py. -/

theorem bo_v {A : Nat} {N p q : Int} {m : Int → Int} {c c1 c2 : aq_C} (hM : ∀ i, 0 ≤ i → i < N → c A i = m i) (e1 : aq_u c A p q = c1) (e2 : aq_u c1 A q p = c2) : ∀ i, 0 ≤ i → i < N → c2 A i = up1 (up1 m p q) q p i := by
  intro i i0 i1
  unfold up1
  by_cases h1 : i = q
  · rw [if_pos h1, ← e2, h1, aq_us]
  · rw [if_neg h1, ← e2, aq_un (Or.inr h1)]
    by_cases h2 : i = p
    · rw [if_pos h2, ← e1, h2, aq_us]
    · rw [if_neg h2, ← e1, aq_un (Or.inr h2)]
      exact hM i i0 i1

theorem qy_mbox_2 {m s : Nat} {F : aq_F} {c0 : aq_C} {y : Nat} (hO : mo_0 m F y) {tbl : Int → Int} (hT : mo_T F y tbl) (hI : mo_I y c0) {n w : Int} (hw : am_r64 w) (hn1 : 1 ≤ n) (hn4 : n ≤ 4) {T : Int} : ∀ (d : Nat) (mm : Int → Int) (k : Int) (v5 : am_V) (v6 : am_V) (c : aq_C) (hs : aq_sm (fun a => a = y + 12) c0 c) (h0 : 0 ≤ k) (h1 : k ≤ n) (hM : ∀ i, 0 ≤ i → i < 8 → c (y + 12) i = mm i) (hbi : bi_ n k mm) (hq : bm_ n w d k mm = T) (hd : n - k < (d : Int)), am_E ac_X5_box (54, [vR y, vI n, vL w, vU, vI k, v5, v6], [], aq_h m s F c) (aq_Z m s F (fun a => y ≤ a ∧ a < y + 24) c0 (fun r d => r = some (vI (T)) ∧ mo_I y d))
  | 0, mm, k, v5, v6, c, hs, h0, h1, hM, hbi, hq, hd => by exfalso; omega
  | d + 1, mm, k, v5, v6, c, hs, h0, h1, hM, hbi, hq, hd => by
    obtain ⟨hm, hFo, hG5, hG6, hG7, hG8, hG9, hG10, hG11, hG12, hG13, hG14, hG15, hG16, hG17, hG18, hG19, hG20, hG21, hG22, hG23⟩ := hO
    obtain ⟨hT1, hTt⟩ := hT
    refine am_E.go (t2 := (56, [vR y, vI n, vL w, vU, vI k, v5, v6], [vI k], aq_h m s F c)) rfl rfl ?_
    refine am_E.go (t2 := (57, [vR y, vI n, vL w, vU, vI k, v5, v6], [vI n, vI k], aq_h m s F c)) rfl rfl ?_
    refine ae_icmp rfl (fun (q_1 : n ≤ k) => ?_) (fun (q_1 : k < n) => ?_)
    · refine am_E.go (t2 := (164, [vR y, vI n, vL w, vU, vI k, v5, v6], [vR y], aq_h m s F c)) rfl rfl ?_
      refine am_E.go (t2 := (165, [vR y, vI n, vL w, vU, vI k, v5, v6], [vI n, vR y], aq_h m s F c)) rfl rfl ?_
      refine aq_callv (y := 2) (as2 := [vI n]) (rest := []) rfl rfl (by decide) (Nat.le_of_ble_eq_true rfl) rfl rfl (Nat.le_of_ble_eq_true rfl) (by omega) hFo rfl (Nat.le_of_ble_eq_true rfl) (qm_numberOf ⟨hm, hFo, hG5, hG6, hG7, hG8, hG9, hG10, hG11, hG12, hG13, hG14, hG15, hG16, hG17, hG18, hG19, hG20, hG21, hG22, hG23⟩ ⟨hT1, hTt⟩ hn1 hn4) ?_
      rintro r5 h5 ⟨rfl, v_fin, rfl, hv_fin⟩
      show am_E _ (168, [vR y, vI n, vL w, vU, vI k, v5, v6], [vI v_fin], aq_h m s F c) _
      refine am_E.ret rfl rfl ?_
      have ek : k = n := by omega
      rw [ek] at hbi
      have hfi := bi_e (by omega) hbi
      refine ⟨_, rfl, aq_smi hs (fun a h => by omega), ?_, mo_Is hI hs (mo_ks mo_k0 hs (by omega)) (by omega) (by omega) (by omega) (by omega) (by omega)⟩
      rw [← hq, bm_, if_neg (by omega)]
      rcases hv_fin with ⟨h5, h6, h7⟩ | ⟨_, h7⟩
      · rw [nu_v (f := mm) hn1 hn4 h5 h6 (fun i k0 k1 => by rw [h7 i k0 k1, hM i k0 (by omega)])]
      · exfalso
        obtain ⟨b5, h8, h9, hA⟩ := pr_c hn1 hn4 hfi
        obtain ⟨i, hB, hC, hD⟩ := h7 b5 h8 h9
        exact hD (by rw [hA i hB hC, hM i hB (by omega)])
    · refine am_E.go (t2 := (61, [vR y, vI n, vL w, vU, vI k, v5, v6], [vL w], aq_h m s F c)) rfl rfl ?_
      refine am_E.go (t2 := (63, [vR y, vI n, vL w, vU, vI k, v5, v6], [vI 8, vL w], aq_h m s F c)) rfl rfl ?_
      refine am_E.go (t2 := (65, [vR y, vI n, vL w, vU, vI k, v5, v6], [vI k, vI 8, vL w], aq_h m s F c)) rfl rfl ?_
      refine ae_mul rfl (am_ri (by omega) (by omega)) ?_
      show am_E _ (66, [vR y, vI n, vL w, vU, vI k, v5, v6], [vI (8 * k), vL w], aq_h m s F c) _
      refine am_E.go (t2 := (67, [vR y, vI n, vL w, vU, vI k, v5, v6], [vL (am_shrL w (8 * k))], aq_h m s F c)) rfl rfl ?_
      refine am_E.go (t2 := (70, [vR y, vI n, vL w, vU, vI k, v5, v6], [vL 15, vL (am_shrL w (8 * k))], aq_h m s F c)) rfl rfl ?_
      refine am_E.go (t2 := (71, [vR y, vI n, vL w, vU, vI k, v5, v6], [vL (am_andl (am_shrL w (8 * k)) 15)], aq_h m s F c)) rfl rfl ?_
      refine am_E.go (t2 := (72, [vR y, vI n, vL w, vU, vI k, v5, v6], [vI (am_w (am_andl (am_shrL w (8 * k)) 15))], aq_h m s F c)) rfl rfl ?_
      rw [nb_m0 (w := w) (k := k) hw h0 (by omega)]
      have bnb_m0 := nb_b w (2 * k)
      refine am_E.go (t2 := (74, [vR y, vI n, vL w, vU, vI k, vI (nb_ w (2 * k)), v6], [], aq_h m s F c)) rfl rfl ?_
      refine am_E.go (t2 := (75, [vR y, vI n, vL w, vU, vI k, vI (nb_ w (2 * k)), v6], [vL w], aq_h m s F c)) rfl rfl ?_
      refine am_E.go (t2 := (77, [vR y, vI n, vL w, vU, vI k, vI (nb_ w (2 * k)), v6], [vI 8, vL w], aq_h m s F c)) rfl rfl ?_
      refine am_E.go (t2 := (79, [vR y, vI n, vL w, vU, vI k, vI (nb_ w (2 * k)), v6], [vI k, vI 8, vL w], aq_h m s F c)) rfl rfl ?_
      refine ae_mul rfl (am_ri (by omega) (by omega)) ?_
      show am_E _ (80, [vR y, vI n, vL w, vU, vI k, vI (nb_ w (2 * k)), v6], [vI (8 * k), vL w], aq_h m s F c) _
      refine am_E.go (t2 := (81, [vR y, vI n, vL w, vU, vI k, vI (nb_ w (2 * k)), v6], [vI 4, vI (8 * k), vL w], aq_h m s F c)) rfl rfl ?_
      refine ae_add rfl (am_ri (by omega) (by omega)) ?_
      show am_E _ (82, [vR y, vI n, vL w, vU, vI k, vI (nb_ w (2 * k)), v6], [vI ((8 * k) + 4), vL w], aq_h m s F c) _
      refine am_E.go (t2 := (83, [vR y, vI n, vL w, vU, vI k, vI (nb_ w (2 * k)), v6], [vL (am_shrL w ((8 * k) + 4))], aq_h m s F c)) rfl rfl ?_
      refine am_E.go (t2 := (86, [vR y, vI n, vL w, vU, vI k, vI (nb_ w (2 * k)), v6], [vL 15, vL (am_shrL w ((8 * k) + 4))], aq_h m s F c)) rfl rfl ?_
      refine am_E.go (t2 := (87, [vR y, vI n, vL w, vU, vI k, vI (nb_ w (2 * k)), v6], [vL (am_andl (am_shrL w ((8 * k) + 4)) 15)], aq_h m s F c)) rfl rfl ?_
      refine am_E.go (t2 := (88, [vR y, vI n, vL w, vU, vI k, vI (nb_ w (2 * k)), v6], [vI (am_w (am_andl (am_shrL w ((8 * k) + 4)) 15))], aq_h m s F c)) rfl rfl ?_
      rw [nb_m1 (w := w) (k := k) hw h0 (by omega)]
      have bnb_m1 := nb_b w (2 * k + 1)
      refine am_E.go (t2 := (90, [vR y, vI n, vL w, vU, vI k, vI (nb_ w (2 * k)), vI (nb_ w (2 * k + 1))], [], aq_h m s F c)) rfl rfl ?_
      refine am_E.go (t2 := (92, [vR y, vI n, vL w, vU, vI k, vI (nb_ w (2 * k)), vI (nb_ w (2 * k + 1))], [vI (nb_ w (2 * k))], aq_h m s F c)) rfl rfl ?_
      refine am_E.go (t2 := (93, [vR y, vI n, vL w, vU, vI k, vI (nb_ w (2 * k)), vI (nb_ w (2 * k + 1))], [vI 2, vI (nb_ w (2 * k))], aq_h m s F c)) rfl rfl ?_
      refine am_E.go (t2 := (94, [vR y, vI n, vL w, vU, vI k, vI (nb_ w (2 * k)), vI (nb_ w (2 * k + 1))], [vI n, vI 2, vI (nb_ w (2 * k))], aq_h m s F c)) rfl rfl ?_
      refine ae_mul rfl (am_ri (by omega) (by omega)) ?_
      show am_E _ (95, [vR y, vI n, vL w, vU, vI k, vI (nb_ w (2 * k)), vI (nb_ w (2 * k + 1))], [vI (2 * n), vI (nb_ w (2 * k))], aq_h m s F c) _
      refine ae_icmp rfl (fun (q_2 : (2 * n) ≤ (nb_ w (2 * k))) => ?_) (fun (q_2 : (nb_ w (2 * k)) < (2 * n)) => ?_)
      · refine am_E.go (t2 := (138, [vR y, vI n, vL w, vU, vI k, vI (nb_ w (2 * k)), vI (nb_ w (2 * k + 1))], [vI (-1)], aq_h m s F c)) rfl rfl ?_
        refine am_E.ret rfl rfl ?_
        exact ⟨_, rfl, aq_smi hs (fun a h => by omega), by rw [← hq, bm_, if_pos (by omega), if_neg (by omega)], mo_Is hI hs (mo_ks mo_k0 hs (by omega)) (by omega) (by omega) (by omega) (by omega) (by omega)⟩
      · refine am_E.go (t2 := (100, [vR y, vI n, vL w, vU, vI k, vI (nb_ w (2 * k)), vI (nb_ w (2 * k + 1))], [vI (nb_ w (2 * k + 1))], aq_h m s F c)) rfl rfl ?_
        refine am_E.go (t2 := (101, [vR y, vI n, vL w, vU, vI k, vI (nb_ w (2 * k)), vI (nb_ w (2 * k + 1))], [vI 2, vI (nb_ w (2 * k + 1))], aq_h m s F c)) rfl rfl ?_
        refine am_E.go (t2 := (102, [vR y, vI n, vL w, vU, vI k, vI (nb_ w (2 * k)), vI (nb_ w (2 * k + 1))], [vI n, vI 2, vI (nb_ w (2 * k + 1))], aq_h m s F c)) rfl rfl ?_
        refine ae_mul rfl (am_ri (by omega) (by omega)) ?_
        show am_E _ (103, [vR y, vI n, vL w, vU, vI k, vI (nb_ w (2 * k)), vI (nb_ w (2 * k + 1))], [vI (2 * n), vI (nb_ w (2 * k + 1))], aq_h m s F c) _
        refine ae_icmp rfl (fun (q_3 : (2 * n) ≤ (nb_ w (2 * k + 1))) => ?_) (fun (q_3 : (nb_ w (2 * k + 1)) < (2 * n)) => ?_)
        · refine am_E.go (t2 := (138, [vR y, vI n, vL w, vU, vI k, vI (nb_ w (2 * k)), vI (nb_ w (2 * k + 1))], [vI (-1)], aq_h m s F c)) rfl rfl ?_
          refine am_E.ret rfl rfl ?_
          exact ⟨_, rfl, aq_smi hs (fun a h => by omega), by rw [← hq, bm_, if_pos (by omega), if_neg (by omega)], mo_Is hI hs (mo_ks mo_k0 hs (by omega)) (by omega) (by omega) (by omega) (by omega) (by omega)⟩
        · refine am_E.go (t2 := (108, [vR y, vI n, vL w, vU, vI k, vI (nb_ w (2 * k)), vI (nb_ w (2 * k + 1))], [vI (nb_ w (2 * k))], aq_h m s F c)) rfl rfl ?_
          refine am_E.go (t2 := (110, [vR y, vI n, vL w, vU, vI k, vI (nb_ w (2 * k)), vI (nb_ w (2 * k + 1))], [vI (nb_ w (2 * k + 1)), vI (nb_ w (2 * k))], aq_h m s F c)) rfl rfl ?_
          refine ae_icmp rfl (fun (q_4 : (nb_ w (2 * k)) = (nb_ w (2 * k + 1))) => ?_) (fun (q_4 : (nb_ w (2 * k)) ≠ (nb_ w (2 * k + 1))) => ?_)
          · refine am_E.go (t2 := (138, [vR y, vI n, vL w, vU, vI k, vI (nb_ w (2 * k)), vI (nb_ w (2 * k + 1))], [vI (-1)], aq_h m s F c)) rfl rfl ?_
            refine am_E.ret rfl rfl ?_
            exact ⟨_, rfl, aq_smi hs (fun a h => by omega), by rw [← hq, bm_, if_pos (by omega), if_neg (by omega)], mo_Is hI hs (mo_ks mo_k0 hs (by omega)) (by omega) (by omega) (by omega) (by omega) (by omega)⟩
          · refine am_E.go (t2 := (114, [vR y, vI n, vL w, vU, vI k, vI (nb_ w (2 * k)), vI (nb_ w (2 * k + 1))], [vR y], aq_h m s F c)) rfl rfl ?_
            refine aq_gf (v := vR (y + 12)) rfl (by omega) hFo (by decide) rfl ?_
            show am_E _ (117, [vR y, vI n, vL w, vU, vI k, vI (nb_ w (2 * k)), vI (nb_ w (2 * k + 1))], [vR (y + 12)], aq_h m s F c) _
            refine am_E.go (t2 := (119, [vR y, vI n, vL w, vU, vI k, vI (nb_ w (2 * k)), vI (nb_ w (2 * k + 1))], [vI (nb_ w (2 * k)), vR (y + 12)], aq_h m s F c)) rfl rfl ?_
            refine aq_al (ok := fun k => k == 0) (v := vI (c (y + 12) (nb_ w (2 * k)))) rfl rfl (by omega) hG12 rfl (by omega) (by omega) rfl ?_
            show am_E _ (120, [vR y, vI n, vL w, vU, vI k, vI (nb_ w (2 * k)), vI (nb_ w (2 * k + 1))], [vI (c (y + 12) (nb_ w (2 * k)))], aq_h m s F c) _
            have f_5 := hM (nb_ w (2 * k)) (by omega) (by omega)
            refine am_E.go (t2 := (122, [vR y, vI n, vL w, vU, vI k, vI (nb_ w (2 * k)), vI (nb_ w (2 * k + 1))], [vI (-4), vI (c (y + 12) (nb_ w (2 * k)))], aq_h m s F c)) rfl rfl ?_
            refine ae_icmp rfl (fun (q_6 : (c (y + 12) (nb_ w (2 * k))) ≠ (-4)) => ?_) (fun (q_6 : (c (y + 12) (nb_ w (2 * k))) = (-4)) => ?_)
            · refine am_E.go (t2 := (138, [vR y, vI n, vL w, vU, vI k, vI (nb_ w (2 * k)), vI (nb_ w (2 * k + 1))], [vI (-1)], aq_h m s F c)) rfl rfl ?_
              refine am_E.ret rfl rfl ?_
              exact ⟨_, rfl, aq_smi hs (fun a h => by omega), by rw [← hq, bm_, if_pos (by omega), if_neg (by omega)], mo_Is hI hs (mo_ks mo_k0 hs (by omega)) (by omega) (by omega) (by omega) (by omega) (by omega)⟩
            · refine am_E.go (t2 := (126, [vR y, vI n, vL w, vU, vI k, vI (nb_ w (2 * k)), vI (nb_ w (2 * k + 1))], [vR y], aq_h m s F c)) rfl rfl ?_
              refine aq_gf (v := vR (y + 12)) rfl (by omega) hFo (by decide) rfl ?_
              show am_E _ (129, [vR y, vI n, vL w, vU, vI k, vI (nb_ w (2 * k)), vI (nb_ w (2 * k + 1))], [vR (y + 12)], aq_h m s F c) _
              refine am_E.go (t2 := (131, [vR y, vI n, vL w, vU, vI k, vI (nb_ w (2 * k)), vI (nb_ w (2 * k + 1))], [vI (nb_ w (2 * k + 1)), vR (y + 12)], aq_h m s F c)) rfl rfl ?_
              refine aq_al (ok := fun k => k == 0) (v := vI (c (y + 12) (nb_ w (2 * k + 1)))) rfl rfl (by omega) hG12 rfl (by omega) (by omega) rfl ?_
              show am_E _ (132, [vR y, vI n, vL w, vU, vI k, vI (nb_ w (2 * k)), vI (nb_ w (2 * k + 1))], [vI (c (y + 12) (nb_ w (2 * k + 1)))], aq_h m s F c) _
              have f_7 := hM (nb_ w (2 * k + 1)) (by omega) (by omega)
              refine am_E.go (t2 := (134, [vR y, vI n, vL w, vU, vI k, vI (nb_ w (2 * k)), vI (nb_ w (2 * k + 1))], [vI (-4), vI (c (y + 12) (nb_ w (2 * k + 1)))], aq_h m s F c)) rfl rfl ?_
              refine ae_icmp rfl (fun (q_8 : (c (y + 12) (nb_ w (2 * k + 1))) = (-4)) => ?_) (fun (q_8 : (c (y + 12) (nb_ w (2 * k + 1))) ≠ (-4)) => ?_)
              · refine am_E.go (t2 := (140, [vR y, vI n, vL w, vU, vI k, vI (nb_ w (2 * k)), vI (nb_ w (2 * k + 1))], [vR y], aq_h m s F c)) rfl rfl ?_
                refine aq_gf (v := vR (y + 12)) rfl (by omega) hFo (by decide) rfl ?_
                show am_E _ (143, [vR y, vI n, vL w, vU, vI k, vI (nb_ w (2 * k)), vI (nb_ w (2 * k + 1))], [vR (y + 12)], aq_h m s F c) _
                refine am_E.go (t2 := (145, [vR y, vI n, vL w, vU, vI k, vI (nb_ w (2 * k)), vI (nb_ w (2 * k + 1))], [vI (nb_ w (2 * k)), vR (y + 12)], aq_h m s F c)) rfl rfl ?_
                refine am_E.go (t2 := (147, [vR y, vI n, vL w, vU, vI k, vI (nb_ w (2 * k)), vI (nb_ w (2 * k + 1))], [vI (nb_ w (2 * k + 1)), vI (nb_ w (2 * k)), vR (y + 12)], aq_h m s F c)) rfl rfl ?_
                refine aq_as (kd := 0) rfl rfl (by omega) hG12 (by omega) (by omega) rfl rfl ?_
                show am_E _ (148, [vR y, vI n, vL w, vU, vI k, vI (nb_ w (2 * k)), vI (nb_ w (2 * k + 1))], [], aq_h m s F (aq_u c (y + 12) (nb_ w (2 * k)) (nb_ w (2 * k + 1)))) _
                generalize hdc_9 : aq_u c (y + 12) (nb_ w (2 * k)) (nb_ w (2 * k + 1)) = c_9
                have sc_9 := aq_smu hs hdc_9 rfl
                refine am_E.go (t2 := (149, [vR y, vI n, vL w, vU, vI k, vI (nb_ w (2 * k)), vI (nb_ w (2 * k + 1))], [vR y], aq_h m s F c_9)) rfl rfl ?_
                refine aq_gf (v := vR (y + 12)) rfl (by omega) hFo (by decide) rfl ?_
                show am_E _ (152, [vR y, vI n, vL w, vU, vI k, vI (nb_ w (2 * k)), vI (nb_ w (2 * k + 1))], [vR (y + 12)], aq_h m s F c_9) _
                refine am_E.go (t2 := (154, [vR y, vI n, vL w, vU, vI k, vI (nb_ w (2 * k)), vI (nb_ w (2 * k + 1))], [vI (nb_ w (2 * k + 1)), vR (y + 12)], aq_h m s F c_9)) rfl rfl ?_
                refine am_E.go (t2 := (156, [vR y, vI n, vL w, vU, vI k, vI (nb_ w (2 * k)), vI (nb_ w (2 * k + 1))], [vI (nb_ w (2 * k)), vI (nb_ w (2 * k + 1)), vR (y + 12)], aq_h m s F c_9)) rfl rfl ?_
                refine aq_as (kd := 0) rfl rfl (by omega) hG12 (by omega) (by omega) rfl rfl ?_
                show am_E _ (157, [vR y, vI n, vL w, vU, vI k, vI (nb_ w (2 * k)), vI (nb_ w (2 * k + 1))], [], aq_h m s F (aq_u c_9 (y + 12) (nb_ w (2 * k + 1)) (nb_ w (2 * k)))) _
                generalize hdc_10 : aq_u c_9 (y + 12) (nb_ w (2 * k + 1)) (nb_ w (2 * k)) = c_10
                have sc_10 := aq_smu sc_9 hdc_10 rfl
                refine ae_iinc rfl rfl (am_ri (by omega) (by omega)) ?_
                show am_E _ (160, [vR y, vI n, vL w, vU, vI (k + 1), vI (nb_ w (2 * k)), vI (nb_ w (2 * k + 1))], [], aq_h m s F c_10) _
                refine am_E.go (t2 := (54, [vR y, vI n, vL w, vU, vI (k + 1), vI (nb_ w (2 * k)), vI (nb_ w (2 * k + 1))], [], aq_h m s F c_10)) rfl rfl ?_
                exact qy_mbox_2 ⟨hm, hFo, hG5, hG6, hG7, hG8, hG9, hG10, hG11, hG12, hG13, hG14, hG15, hG16, hG17, hG18, hG19, hG20, hG21, hG22, hG23⟩ ⟨hT1, hTt⟩ hI hw hn1 hn4 d (up1 (up1 mm (nb_ w (2 * k)) (nb_ w (2 * k + 1))) (nb_ w (2 * k + 1)) (nb_ w (2 * k))) (k + 1) (vI (nb_ w (2 * k))) (vI (nb_ w (2 * k + 1))) c_10 sc_10 (by omega) (by omega) (bo_v hM hdc_9 hdc_10) (bi_u hbi (by omega) (by omega) (by omega) (by omega) (by omega) (by omega) (by omega)) (by rw [← hq, bm_, if_pos (by omega), if_pos ⟨⟨by omega, by omega, by omega⟩, by omega, by omega⟩]) (by omega)
              · refine am_E.go (t2 := (138, [vR y, vI n, vL w, vU, vI k, vI (nb_ w (2 * k)), vI (nb_ w (2 * k + 1))], [vI (-1)], aq_h m s F c)) rfl rfl ?_
                refine am_E.ret rfl rfl ?_
                exact ⟨_, rfl, aq_smi hs (fun a h => by omega), by rw [← hq, bm_, if_pos (by omega), if_neg (by omega)], mo_Is hI hs (mo_ks mo_k0 hs (by omega)) (by omega) (by omega) (by omega) (by omega) (by omega)⟩

theorem qy_mbox_1 {m s : Nat} {F : aq_F} {c0 : aq_C} {y : Nat} (hO : mo_0 m F y) {tbl : Int → Int} (hT : mo_T F y tbl) (hI : mo_I y c0) {n w : Int} (hw : am_r64 w) (hn1 : 1 ≤ n) (hn4 : n ≤ 4) {T : Int} (hTq : bm_ n w 6 0 (fun _ => -4) = T) : ∀ (d : Nat) (k : Int) (v5 : am_V) (v6 : am_V) (c : aq_C) (hs : aq_sm (fun a => a = y + 12) c0 c) (h0 : 0 ≤ k) (h1 : k ≤ 8) (hz : ∀ i, 0 ≤ i → i < k → c (y + 12) i = (fun _ => -4) i) (hd : 8 - k < (d : Int)), am_E ac_X5_box (29, [vR y, vI n, vL w, vU, vI k, v5, v6], [], aq_h m s F c) (aq_Z m s F (fun a => y ≤ a ∧ a < y + 24) c0 (fun r d => r = some (vI (T)) ∧ mo_I y d))
  | 0, k, v5, v6, c, hs, h0, h1, hz, hd => by exfalso; omega
  | d + 1, k, v5, v6, c, hs, h0, h1, hz, hd => by
    obtain ⟨hm, hFo, hG5, hG6, hG7, hG8, hG9, hG10, hG11, hG12, hG13, hG14, hG15, hG16, hG17, hG18, hG19, hG20, hG21, hG22, hG23⟩ := hO
    obtain ⟨hT1, hTt⟩ := hT
    refine am_E.go (t2 := (31, [vR y, vI n, vL w, vU, vI k, v5, v6], [vI k], aq_h m s F c)) rfl rfl ?_
    refine am_E.go (t2 := (33, [vR y, vI n, vL w, vU, vI k, v5, v6], [vI 8, vI k], aq_h m s F c)) rfl rfl ?_
    refine ae_icmp rfl (fun (q_1 : 8 ≤ k) => ?_) (fun (q_1 : k < 8) => ?_)
    · refine am_E.go (t2 := (52, [vR y, vI n, vL w, vU, vI k, v5, v6], [vI 0], aq_h m s F c)) rfl rfl ?_
      refine am_E.go (t2 := (54, [vR y, vI n, vL w, vU, vI 0, v5, v6], [], aq_h m s F c)) rfl rfl ?_
      exact qy_mbox_2 ⟨hm, hFo, hG5, hG6, hG7, hG8, hG9, hG10, hG11, hG12, hG13, hG14, hG15, hG16, hG17, hG18, hG19, hG20, hG21, hG22, hG23⟩ ⟨hT1, hTt⟩ hI hw hn1 hn4 6 (fun _ => -4) 0 (v5) (v6) c hs (by omega) (by omega) (fun i i0 i1 => hz i i0 (by omega)) (bi_0 (by omega)) hTq (by omega)
    · refine am_E.go (t2 := (37, [vR y, vI n, vL w, vU, vI k, v5, v6], [vR y], aq_h m s F c)) rfl rfl ?_
      refine aq_gf (v := vR (y + 12)) rfl (by omega) hFo (by decide) rfl ?_
      show am_E _ (40, [vR y, vI n, vL w, vU, vI k, v5, v6], [vR (y + 12)], aq_h m s F c) _
      refine am_E.go (t2 := (42, [vR y, vI n, vL w, vU, vI k, v5, v6], [vI k, vR (y + 12)], aq_h m s F c)) rfl rfl ?_
      refine am_E.go (t2 := (44, [vR y, vI n, vL w, vU, vI k, v5, v6], [vI (-4), vI k, vR (y + 12)], aq_h m s F c)) rfl rfl ?_
      refine aq_as (kd := 0) rfl rfl (by omega) hG12 (by omega) (by omega) rfl rfl ?_
      show am_E _ (45, [vR y, vI n, vL w, vU, vI k, v5, v6], [], aq_h m s F (aq_u c (y + 12) k (-4))) _
      generalize hdc_2 : aq_u c (y + 12) k (-4) = c_2
      have sc_2 := aq_smu hs hdc_2 rfl
      refine ae_iinc rfl rfl (am_ri (by omega) (by omega)) ?_
      show am_E _ (48, [vR y, vI n, vL w, vU, vI (k + 1), v5, v6], [], aq_h m s F c_2) _
      refine am_E.go (t2 := (29, [vR y, vI n, vL w, vU, vI (k + 1), v5, v6], [], aq_h m s F c_2)) rfl rfl ?_
      exact qy_mbox_1 ⟨hm, hFo, hG5, hG6, hG7, hG8, hG9, hG10, hG11, hG12, hG13, hG14, hG15, hG16, hG17, hG18, hG19, hG20, hG21, hG22, hG23⟩ ⟨hT1, hTt⟩ hI hw hn1 hn4 hTq d (k + 1) (v5) (v6) c_2 sc_2 (by omega) (by omega) (aq_fl hz hdc_2 rfl) (by omega)

theorem qe_X5_box {m s : Nat} {F : aq_F} {c : aq_C} {y : Nat} (hC : mo_C m F y) (hI : mo_I y c) {n w : Int} (hw : am_r64 w) : am_E ac_X5_box (0, [vR y, vI n, vL w, vU, vU, vU, vU], [], aq_h m s F c) (aq_Z m s F (fun a => y ≤ a ∧ a < y + 24) c (fun r d => r = some (vI (bo_x n w)) ∧ mo_I y d)) := by
  obtain ⟨⟨hm, hFo, hG5, hG6, hG7, hG8, hG9, hG10, hG11, hG12, hG13, hG14, hG15, hG16, hG17, hG18, hG19, hG20, hG21, hG22, hG23⟩, ⟨tbl, hT1, hTt⟩, ⟨tA, tB, tD, hL1, hL2, hL3, hLt⟩⟩ := hC
  refine am_E.go (t2 := (1, [vR y, vI n, vL w, vU, vU, vU, vU], [vI n], aq_h m s F c)) rfl rfl ?_
  refine am_E.call rfl rfl rfl (Nat.le_of_ble_eq_true rfl) (qm_isWide) ?_
  rintro r5 h5 ⟨rfl, v_1, rfl, hv_1⟩
  show am_E _ (4, [vR y, vI n, vL w, vU, vU, vU, vU], [vI v_1], aq_h m s F c) _
  refine ae_if0 rfl (fun (q_2 : v_1 = 0) => ?_) (fun (q_2 : v_1 ≠ 0) => ?_)
  · refine am_E.go (t2 := (25, [vR y, vI n, vL w, vU, vU, vU, vU], [vI (-1)], aq_h m s F c)) rfl rfl ?_
    refine am_E.ret rfl rfl ?_
    refine ⟨_, rfl, aq_sm0, ?_, hI⟩
    unfold bo_x
    rw [if_neg (fun q5 => by first | omega | (have h9 := (bo_m (n := n) hw (by omega) (by omega)).mpr q5.2; omega))]
  · refine am_E.go (t2 := (8, [vR y, vI n, vL w, vU, vU, vU, vU], [vI n], aq_h m s F c)) rfl rfl ?_
    refine am_E.go (t2 := (10, [vR y, vI n, vL w, vU, vU, vU, vU], [vI 8, vI n], aq_h m s F c)) rfl rfl ?_
    refine ae_icmp rfl (fun (q_3 : 8 ≤ n) => ?_) (fun (q_3 : n < 8) => ?_)
    · refine am_E.go (t2 := (27, [vR y, vI n, vL w, vU, vU, vU, vU], [vI 0], aq_h m s F c)) rfl rfl ?_
      refine am_E.go (t2 := (29, [vR y, vI n, vL w, vU, vI 0, vU, vU], [], aq_h m s F c)) rfl rfl ?_
      exact qy_mbox_1 ⟨hm, hFo, hG5, hG6, hG7, hG8, hG9, hG10, hG11, hG12, hG13, hG14, hG15, hG16, hG17, hG18, hG19, hG20, hG21, hG22, hG23⟩ ⟨hT1, hTt⟩ hI hw (by omega) (by omega) (by unfold bo_x; rw [if_pos ⟨by omega, (bo_m hw (by omega) (by omega)).mp (by omega)⟩]) 10 0 (vU) (vU) c (aq_sm0 (c := c) (S := (fun a => a = y + 12))) (by omega) (by omega) (fun i h1 h2 => absurd h2 (by omega)) (by omega)
    · refine am_E.go (t2 := (14, [vR y, vI n, vL w, vU, vU, vU, vU], [vL w], aq_h m s F c)) rfl rfl ?_
      refine am_E.go (t2 := (16, [vR y, vI n, vL w, vU, vU, vU, vU], [vI 8, vL w], aq_h m s F c)) rfl rfl ?_
      refine am_E.go (t2 := (17, [vR y, vI n, vL w, vU, vU, vU, vU], [vI n, vI 8, vL w], aq_h m s F c)) rfl rfl ?_
      refine ae_mul rfl (am_ri (by omega) (by omega)) ?_
      show am_E _ (18, [vR y, vI n, vL w, vU, vU, vU, vU], [vI (8 * n), vL w], aq_h m s F c) _
      refine am_E.go (t2 := (19, [vR y, vI n, vL w, vU, vU, vU, vU], [vL (am_shrL w (8 * n))], aq_h m s F c)) rfl rfl ?_
      refine am_E.go (t2 := (20, [vR y, vI n, vL w, vU, vU, vU, vU], [vL 0, vL (am_shrL w (8 * n))], aq_h m s F c)) rfl rfl ?_
      have ez_4 := am_lcf (am_shrL w (8 * n)) 0
      refine am_E.go (t2 := (21, [vR y, vI n, vL w, vU, vU, vU, vU], [vI (if (am_shrL w (8 * n)) < 0 then -1 else if (am_shrL w (8 * n)) = 0 then 0 else 1)], aq_h m s F c)) rfl rfl ?_
      generalize (if (am_shrL w (8 * n)) < 0 then -1 else if (am_shrL w (8 * n)) = 0 then 0 else 1) = z_4 at ez_4 ⊢
      refine ae_if0 rfl (fun (q_5 : z_4 = 0) => ?_) (fun (q_5 : z_4 ≠ 0) => ?_)
      · refine am_E.go (t2 := (27, [vR y, vI n, vL w, vU, vU, vU, vU], [vI 0], aq_h m s F c)) rfl rfl ?_
        refine am_E.go (t2 := (29, [vR y, vI n, vL w, vU, vI 0, vU, vU], [], aq_h m s F c)) rfl rfl ?_
        exact qy_mbox_1 ⟨hm, hFo, hG5, hG6, hG7, hG8, hG9, hG10, hG11, hG12, hG13, hG14, hG15, hG16, hG17, hG18, hG19, hG20, hG21, hG22, hG23⟩ ⟨hT1, hTt⟩ hI hw (by omega) (by omega) (by unfold bo_x; rw [if_pos ⟨by omega, (bo_m hw (by omega) (by omega)).mp (by omega)⟩]) 10 0 (vU) (vU) c (aq_sm0 (c := c) (S := (fun a => a = y + 12))) (by omega) (by omega) (fun i h1 h2 => absurd h2 (by omega)) (by omega)
      · refine am_E.go (t2 := (25, [vR y, vI n, vL w, vU, vU, vU, vU], [vI (-1)], aq_h m s F c)) rfl rfl ?_
        refine am_E.ret rfl rfl ?_
        refine ⟨_, rfl, aq_sm0, ?_, hI⟩
        unfold bo_x
        rw [if_neg (fun q5 => by first | omega | (have h9 := (bo_m (n := n) hw (by omega) (by omega)).mpr q5.2; omega))]
