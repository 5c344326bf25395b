/-! The reference: answer of about. Printed by wip/p20/sx/gEAm.py. -/

/-- a ring of the closed box, as the reference goes -/
def rz_ (n : Int) (f : Int → Int) (m : Int) : Nat → Int → (Int → Int) → Int → Int
  | 0, _, w => w
  | d + 1, p, w => if ac_ n (f p) = m then dc_u (dc_u w (p % n)) (f p % n) else rz_ n f m d (ac_ n (f p)) (dc_u (dc_u w (p % n)) (f p % n))
def ry_ (n : Int) (f : Int → Int) : Nat → Int → Int → (Int → Int) → Int
  | 0, _, x, _ => x
  | d + 1, k, x, w => if k < n then (if w k = 0 then ry_ n f d (k + 1) (x + 1) (rz_ n f k 4 k w) else ry_ n f d (k + 1) x w) else x
theorem rc_ac (n b p : Int) : rc_s n b p = ac_ n (prt n b p) := rfl

theorem ry_1 : ∀ b : Nat, b < 1 → ry_ 1 (prt 1 b) 6 0 0 (fun _ => 0) = rg_ 1 b := by decide +kernel
theorem ry_2 : ∀ b : Nat, b < 3 → ry_ 2 (prt 2 b) 6 0 0 (fun _ => 0) = rg_ 2 b := by decide +kernel
theorem ry_3 : ∀ b : Nat, b < 15 → ry_ 3 (prt 3 b) 6 0 0 (fun _ => 0) = rg_ 3 b := by decide +kernel
theorem ry_4 : ∀ b : Nat, b < 105 → ry_ 4 (prt 4 b) 6 0 0 (fun _ => 0) = rg_ 4 b := by decide +kernel
theorem ry_e {n x : Int} (h1 : 1 ≤ n) (h4 : n ≤ 4) (x0 : 0 ≤ x) (xK : x < bx_K n) : ry_ n (prt n x) 6 0 0 (fun _ => 0) = rg_ n x := by
  have ex : ((x.toNat : Nat) : Int) = x := Int.toNat_of_nonneg x0
  have h : n = 1 ∨ n = 2 ∨ n = 3 ∨ n = 4 := by omega
  rcases h with h | h | h | h <;> subst h
  · have g : bx_K 1 = 1 := by decide
    have := ry_1 x.toNat (by omega)
    rw [ex] at this
    exact this
  · have g : bx_K 2 = 3 := by decide
    have := ry_2 x.toNat (by omega)
    rw [ex] at this
    exact this
  · have g : bx_K 3 = 15 := by decide
    have := ry_3 x.toNat (by omega)
    rw [ex] at this
    exact this
  · have g : bx_K 4 = 105 := by decide
    have := ry_4 x.toNat (by omega)
    rw [ex] at this
    exact this
theorem ud_fi {n : Int} {f : Int → Int} (h : fi n f) : fi n (ud_f n f) := by
  intro p p0 p1
  have r := ac_r (n := n) p0 p1
  have r2 := h _ r.1 r.2
  have r3 := ac_r (n := n) r2.1 r2.2.1
  refine ⟨r3.1, r3.2, fun q => ?_, ?_⟩
  · have := congrArg (ac_ n) q
    unfold ud_f at this
    rw [ac_ac r2.1 r2.2.1] at this
    exact r2.2.2.1 this
  · unfold ud_f
    rw [ac_ac r2.1 r2.2.1, r2.2.2.2, ac_ac p0 p1]

theorem qy_mthrough_l {m s : Nat} {F : aq_F} {c : aq_C} {y : Nat} (hO : mo_0 m F y) {tbl : Int → Int} (hT : mo_T F y tbl) {n bb : Int} (hn1 : 1 ≤ n) (hn4 : n ≤ 4) (hb0 : 0 ≤ bb) (hb1 : bb < bx_K n) {T : Int} : ∀ (d : Nat) (x : Int) (p : Int) (h0 : 0 ≤ p) (h1 : p ≤ n) (h2 : 0 ≤ x) (h3 : x ≤ p) (ht : th_ n (prt n bb) d p x = T) (hd : n - p < (d : Int)), am_E ac_X5_through (5, [vR y, vI n, vI bb, vI x, vI p], [], aq_h m s F c) (aq_P m s F c (fun r => r = some (vI T)))
  | 0, x, p, h0, h1, h2, h3, ht, hd => by exfalso; omega
  | d + 1, x, p, h0, h1, h2, h3, ht, hd => by
    obtain ⟨hm, hFo, hG5, hG6, hG7, hG8, hG9, hG10, hG11, hG12, hG13, hG14, hG15, hG16, hG17, hG18, hG19, hG20, hG21, hG22, hG23⟩ := hO
    obtain ⟨hT1, hTt⟩ := hT
    have hfs := mo_fs n
    have hfi := pr_fi hn1 hn4 hb0 hb1
    refine am_E.go (t2 := (7, [vR y, vI n, vI bb, vI x, vI p], [vI p], aq_h m s F c)) rfl rfl ?_
    refine am_E.go (t2 := (8, [vR y, vI n, vI bb, vI x, vI p], [vI n, vI p], aq_h m s F c)) rfl rfl ?_
    refine ae_icmp rfl (fun (q_1 : n ≤ p) => ?_) (fun (q_1 : p < n) => ?_)
    · refine am_E.go (t2 := (43, [vR y, vI n, vI bb, vI x, vI p], [vI x], aq_h m s F c)) rfl rfl ?_
      refine am_E.ret rfl rfl ?_
      refine ⟨rfl, ?_⟩
      rw [← ht, th_, if_neg (by omega)]
    · refine am_E.go (t2 := (12, [vR y, vI n, vI bb, vI x, vI p], [vI x], aq_h m s F c)) rfl rfl ?_
      refine am_E.go (t2 := (13, [vR y, vI n, vI bb, vI x, vI p], [vR y, vI x], aq_h m s F c)) rfl rfl ?_
      refine aq_gf (v := vR (y + 1)) rfl (by omega) hFo (by decide) rfl ?_
      show am_E _ (16, [vR y, vI n, vI bb, vI x, vI p], [vR (y + 1), vI x], aq_h m s F c) _
      refine am_E.go (t2 := (17, [vR y, vI n, vI bb, vI x, vI p], [vI n, vR (y + 1), vI x], aq_h m s F c)) rfl rfl ?_
      refine am_E.go (t2 := (18, [vR y, vI n, vI bb, vI x, vI p], [vI bb, vI n, vR (y + 1), vI x], aq_h m s F c)) rfl rfl ?_
      refine am_E.call rfl rfl rfl (Nat.le_of_ble_eq_true rfl) (qm_at (by omega) (by omega)) ?_
      rintro r5 h5 ⟨rfl, xa, rfl, hxa⟩
      show am_E _ (21, [vR y, vI n, vI bb, vI x, vI p], [vI xa, vR (y + 1), vI x], aq_h m s F c) _
      refine am_E.go (t2 := (23, [vR y, vI n, vI bb, vI x, vI p], [vI p, vI xa, vR (y + 1), vI x], aq_h m s F c)) rfl rfl ?_
      refine ae_add rfl (am_ri (by omega) (by omega)) ?_
      show am_E _ (24, [vR y, vI n, vI bb, vI x, vI p], [vI (xa + p), vR (y + 1), vI x], aq_h m s F c) _
      have e_t := hTt n bb p (by omega) (by omega) (by omega) (by omega) (by omega) (by omega)
      have e_fg_2 := hfi p (by omega) (by omega)
      refine aq_alt (ok := fun k => k == 0) rfl rfl (by omega) hT1 rfl (by omega) (by omega) ?_
      rw [show tbl (xa + p) = prt n bb p by rw [hxa]; exact e_t]
      show am_E _ (25, [vR y, vI n, vI bb, vI x, vI p], [vI (prt n bb p), vI x], aq_h m s F c) _
      refine am_E.go (t2 := (26, [vR y, vI n, vI bb, vI x, vI p], [vI n, vI (prt n bb p), vI x], aq_h m s F c)) rfl rfl ?_
      refine ae_icmp rfl (fun (q_3 : (prt n bb p) < n) => ?_) (fun (q_3 : n ≤ (prt n bb p)) => ?_)
      · refine am_E.go (t2 := (34, [vR y, vI n, vI bb, vI x, vI p], [vI 0, vI x], aq_h m s F c)) rfl rfl ?_
        refine ae_add rfl (am_ri (by omega) (by omega)) ?_
        show am_E _ (35, [vR y, vI n, vI bb, vI x, vI p], [vI (x + 0)], aq_h m s F c) _
        refine am_E.go (t2 := (36, [vR y, vI n, vI bb, vI (x + 0), vI p], [], aq_h m s F c)) rfl rfl ?_
        refine ae_iinc rfl rfl (am_ri (by omega) (by omega)) ?_
        show am_E _ (39, [vR y, vI n, vI bb, vI (x + 0), vI (p + 1)], [], aq_h m s F c) _
        refine am_E.go (t2 := (5, [vR y, vI n, vI bb, vI (x + 0), vI (p + 1)], [], aq_h m s F c)) rfl rfl ?_
        exact qy_mthrough_l ⟨hm, hFo, hG5, hG6, hG7, hG8, hG9, hG10, hG11, hG12, hG13, hG14, hG15, hG16, hG17, hG18, hG19, hG20, hG21, hG22, hG23⟩ ⟨hT1, hTt⟩ hn1 hn4 hb0 hb1 d (x + 0) (p + 1) (by omega) (by omega) (by omega) (by omega) (by rw [← ht, th_, if_pos (by omega)]; first | rw [if_pos (by omega)] | rw [if_neg (by omega)]) (by omega)
      · refine am_E.go (t2 := (30, [vR y, vI n, vI bb, vI x, vI p], [vI 1, vI x], aq_h m s F c)) rfl rfl ?_
        refine am_E.go (t2 := (34, [vR y, vI n, vI bb, vI x, vI p], [vI 1, vI x], aq_h m s F c)) rfl rfl ?_
        refine ae_add rfl (am_ri (by omega) (by omega)) ?_
        show am_E _ (35, [vR y, vI n, vI bb, vI x, vI p], [vI (x + 1)], aq_h m s F c) _
        refine am_E.go (t2 := (36, [vR y, vI n, vI bb, vI (x + 1), vI p], [], aq_h m s F c)) rfl rfl ?_
        refine ae_iinc rfl rfl (am_ri (by omega) (by omega)) ?_
        show am_E _ (39, [vR y, vI n, vI bb, vI (x + 1), vI (p + 1)], [], aq_h m s F c) _
        refine am_E.go (t2 := (5, [vR y, vI n, vI bb, vI (x + 1), vI (p + 1)], [], aq_h m s F c)) rfl rfl ?_
        exact qy_mthrough_l ⟨hm, hFo, hG5, hG6, hG7, hG8, hG9, hG10, hG11, hG12, hG13, hG14, hG15, hG16, hG17, hG18, hG19, hG20, hG21, hG22, hG23⟩ ⟨hT1, hTt⟩ hn1 hn4 hb0 hb1 d (x + 1) (p + 1) (by omega) (by omega) (by omega) (by omega) (by rw [← ht, th_, if_pos (by omega)]; first | rw [if_pos (by omega)] | rw [if_neg (by omega)]) (by omega)

theorem qy_mthrough {m s : Nat} {F : aq_F} {c : aq_C} {y : Nat} (hO : mo_0 m F y) {tbl : Int → Int} (hT : mo_T F y tbl) {n bb : Int} (hn1 : 1 ≤ n) (hn4 : n ≤ 4) (hb0 : 0 ≤ bb) (hb1 : bb < bx_K n) : am_E ac_X5_through (0, [vR y, vI n, vI bb, vU, vU], [], aq_h m s F c) (aq_P m s F c (fun r => r = some (vI (th_ n (prt n bb) 9 0 0)))) := by
  obtain ⟨hm, hFo, hG5, hG6, hG7, hG8, hG9, hG10, hG11, hG12, hG13, hG14, hG15, hG16, hG17, hG18, hG19, hG20, hG21, hG22, hG23⟩ := hO
  obtain ⟨hT1, hTt⟩ := hT
  have hfs := mo_fs n
  have hfi := pr_fi hn1 hn4 hb0 hb1
  refine am_E.go (t2 := (1, [vR y, vI n, vI bb, vU, vU], [vI 0], aq_h m s F c)) rfl rfl ?_
  refine am_E.go (t2 := (2, [vR y, vI n, vI bb, vI 0, vU], [], aq_h m s F c)) rfl rfl ?_
  refine am_E.go (t2 := (3, [vR y, vI n, vI bb, vI 0, vU], [vI 0], aq_h m s F c)) rfl rfl ?_
  refine am_E.go (t2 := (5, [vR y, vI n, vI bb, vI 0, vI 0], [], aq_h m s F c)) rfl rfl ?_
  exact qy_mthrough_l ⟨hm, hFo, hG5, hG6, hG7, hG8, hG9, hG10, hG11, hG12, hG13, hG14, hG15, hG16, hG17, hG18, hG19, hG20, hG21, hG22, hG23⟩ ⟨hT1, hTt⟩ hn1 hn4 hb0 hb1 9 0 0 (by omega) (by omega) (by omega) (by omega) rfl (by omega)

theorem qy_mupside_l {m s : Nat} {F : aq_F} {c0 : aq_C} {S : Nat → Prop} {y : Nat} (hO : mo_0 m F y) (hS12 : S (y + 12)) {tbl : Int → Int} (hT : mo_T F y tbl) {n bb : Int} (hn1 : 1 ≤ n) (hn4 : n ≤ 4) (hb0 : 0 ≤ bb) (hb1 : bb < bx_K n) : ∀ (d : Nat) (p : Int) (v4 : am_V) (c : aq_C) (hs : aq_sm S c0 c) (h0 : 0 ≤ p) (h1 : p ≤ 2 * n) (hz : ∀ i, 0 ≤ i → i < p → c (y + 12) (ac_ n i) = ac_ n (prt n bb i)) (hd : 2 * n - p < (d : Int)), am_E ac_X5_upsideDown (2, [vR y, vI n, vI bb, vI p, v4], [], aq_h m s F c) (aq_Z m s F S c0 (fun r _ => r = some (vI (ud_ n (prt n bb)))))
  | 0, p, v4, c, hs, h0, h1, hz, hd => by exfalso; omega
  | d + 1, p, v4, c, hs, h0, h1, hz, hd => by
    obtain ⟨hm, hFo, hG5, hG6, hG7, hG8, hG9, hG10, hG11, hG12, hG13, hG14, hG15, hG16, hG17, hG18, hG19, hG20, hG21, hG22, hG23⟩ := hO
    obtain ⟨hT1, hTt⟩ := hT
    have hfs := mo_fs n
    have hfi := pr_fi hn1 hn4 hb0 hb1
    refine am_E.go (t2 := (3, [vR y, vI n, vI bb, vI p, v4], [vI p], aq_h m s F c)) rfl rfl ?_
    refine am_E.go (t2 := (4, [vR y, vI n, vI bb, vI p, v4], [vI 2, vI p], aq_h m s F c)) rfl rfl ?_
    refine am_E.go (t2 := (5, [vR y, vI n, vI bb, vI p, v4], [vI n, vI 2, vI p], aq_h m s F c)) rfl rfl ?_
    refine ae_mul rfl (am_ri (by omega) (by omega)) ?_
    show am_E _ (6, [vR y, vI n, vI bb, vI p, v4], [vI (2 * n), vI p], aq_h m s F c) _
    refine ae_icmp rfl (fun (q_1 : (2 * n) ≤ p) => ?_) (fun (q_1 : p < (2 * n)) => ?_)
    · refine am_E.go (t2 := (66, [vR y, vI n, vI bb, vI p, v4], [vR y], aq_h m s F c)) rfl rfl ?_
      refine am_E.go (t2 := (67, [vR y, vI n, vI bb, vI p, v4], [vI n, vR y], aq_h m s F c)) rfl rfl ?_
      refine aq_callv (y := 2) (as2 := [vI n]) (rest := []) rfl rfl (by decide) (Nat.le_of_ble_eq_true rfl) rfl rfl (Nat.le_of_ble_eq_true rfl) (by omega) hFo rfl (Nat.le_of_ble_eq_true rfl) (qm_numberOf ⟨hm, hFo, hG5, hG6, hG7, hG8, hG9, hG10, hG11, hG12, hG13, hG14, hG15, hG16, hG17, hG18, hG19, hG20, hG21, hG22, hG23⟩ ⟨hT1, hTt⟩ hn1 hn4) ?_
      rintro r5 h5 ⟨rfl, v_fin, rfl, hv_fin⟩
      show am_E _ (70, [vR y, vI n, vI bb, vI p, v4], [vI v_fin], aq_h m s F c) _
      refine am_E.ret rfl rfl ?_
      have hmd : ∀ q, 0 ≤ q → q < 2 * n → c (y + 12) q = ud_f n (prt n bb) q := fun q q0 q1 => by
        have r := ac_r (n := n) q0 q1
        have := hz (ac_ n q) r.1 (by omega)
        rw [ac_ac q0 q1] at this
        exact this
      refine ⟨_, rfl, hs, ?_⟩
      rcases hv_fin with ⟨h5, h6, h7⟩ | ⟨_, h7⟩
      · have := nu_v (f := ud_f n (prt n bb)) hn1 hn4 h5 h6 (fun i k0 k1 => by rw [h7 i k0 k1, hmd i k0 k1])
        rw [← this]
        rfl
      · exfalso
        obtain ⟨b5, h8, h9, hA⟩ := pr_c hn1 hn4 (ud_fi hfi)
        obtain ⟨i, hB, hC, hD⟩ := h7 b5 h8 h9
        exact hD (by rw [hA i hB hC, hmd i hB hC])
    · refine am_E.go (t2 := (10, [vR y, vI n, vI bb, vI p, v4], [vR y], aq_h m s F c)) rfl rfl ?_
      refine aq_gf (v := vR (y + 1)) rfl (by omega) hFo (by decide) rfl ?_
      show am_E _ (13, [vR y, vI n, vI bb, vI p, v4], [vR (y + 1)], aq_h m s F c) _
      refine am_E.go (t2 := (14, [vR y, vI n, vI bb, vI p, v4], [vI n, vR (y + 1)], aq_h m s F c)) rfl rfl ?_
      refine am_E.go (t2 := (15, [vR y, vI n, vI bb, vI p, v4], [vI bb, vI n, vR (y + 1)], aq_h m s F c)) rfl rfl ?_
      refine am_E.call rfl rfl rfl (Nat.le_of_ble_eq_true rfl) (qm_at (by omega) (by omega)) ?_
      rintro r5 h5 ⟨rfl, xa, rfl, hxa⟩
      show am_E _ (18, [vR y, vI n, vI bb, vI p, v4], [vI xa, vR (y + 1)], aq_h m s F c) _
      refine am_E.go (t2 := (19, [vR y, vI n, vI bb, vI p, v4], [vI p, vI xa, vR (y + 1)], aq_h m s F c)) rfl rfl ?_
      refine ae_add rfl (am_ri (by omega) (by omega)) ?_
      show am_E _ (20, [vR y, vI n, vI bb, vI p, v4], [vI (xa + p), vR (y + 1)], aq_h m s F c) _
      have e_t := hTt n bb p (by omega) (by omega) (by omega) (by omega) (by omega) (by omega)
      have e_fg_2 := hfi p (by omega) (by omega)
      refine aq_alt (ok := fun k => k == 0) rfl rfl (by omega) hT1 rfl (by omega) (by omega) ?_
      rw [show tbl (xa + p) = prt n bb p by rw [hxa]; exact e_t]
      show am_E _ (21, [vR y, vI n, vI bb, vI p, v4], [vI (prt n bb p)], aq_h m s F c) _
      refine am_E.go (t2 := (23, [vR y, vI n, vI bb, vI p, vI (prt n bb p)], [], aq_h m s F c)) rfl rfl ?_
      refine am_E.go (t2 := (24, [vR y, vI n, vI bb, vI p, vI (prt n bb p)], [vR y], aq_h m s F c)) rfl rfl ?_
      refine aq_gf (v := vR (y + 12)) rfl (by omega) hFo (by decide) rfl ?_
      show am_E _ (27, [vR y, vI n, vI bb, vI p, vI (prt n bb p)], [vR (y + 12)], aq_h m s F c) _
      refine am_E.go (t2 := (28, [vR y, vI n, vI bb, vI p, vI (prt n bb p)], [vI p, vR (y + 12)], aq_h m s F c)) rfl rfl ?_
      refine am_E.go (t2 := (29, [vR y, vI n, vI bb, vI p, vI (prt n bb p)], [vI n, vI p, vR (y + 12)], aq_h m s F c)) rfl rfl ?_
      refine ae_icmp rfl (fun (q_3 : n ≤ p) => ?_) (fun (q_3 : p < n) => ?_)
      · refine am_E.go (t2 := (39, [vR y, vI n, vI bb, vI p, vI (prt n bb p)], [vI p, vR (y + 12)], aq_h m s F c)) rfl rfl ?_
        refine am_E.go (t2 := (40, [vR y, vI n, vI bb, vI p, vI (prt n bb p)], [vI n, vI p, vR (y + 12)], aq_h m s F c)) rfl rfl ?_
        refine ae_sub rfl (am_ri (by omega) (by omega)) ?_
        show am_E _ (41, [vR y, vI n, vI bb, vI p, vI (prt n bb p)], [vI (p - n), vR (y + 12)], aq_h m s F c) _
        refine am_E.go (t2 := (43, [vR y, vI n, vI bb, vI p, vI (prt n bb p)], [vI (prt n bb p), vI (p - n), vR (y + 12)], aq_h m s F c)) rfl rfl ?_
        refine am_E.go (t2 := (44, [vR y, vI n, vI bb, vI p, vI (prt n bb p)], [vI n, vI (prt n bb p), vI (p - n), vR (y + 12)], aq_h m s F c)) rfl rfl ?_
        refine ae_icmp rfl (fun (q_4 : n ≤ (prt n bb p)) => ?_) (fun (q_4 : (prt n bb p) < n) => ?_)
        · refine am_E.go (t2 := (56, [vR y, vI n, vI bb, vI p, vI (prt n bb p)], [vI (prt n bb p), vI (p - n), vR (y + 12)], aq_h m s F c)) rfl rfl ?_
          refine am_E.go (t2 := (57, [vR y, vI n, vI bb, vI p, vI (prt n bb p)], [vI n, vI (prt n bb p), vI (p - n), vR (y + 12)], aq_h m s F c)) rfl rfl ?_
          refine ae_sub rfl (am_ri (by omega) (by omega)) ?_
          show am_E _ (58, [vR y, vI n, vI bb, vI p, vI (prt n bb p)], [vI ((prt n bb p) - n), vI (p - n), vR (y + 12)], aq_h m s F c) _
          refine aq_as (kd := 0) rfl rfl (by omega) hG12 (by omega) (by omega) rfl rfl ?_
          show am_E _ (59, [vR y, vI n, vI bb, vI p, vI (prt n bb p)], [], aq_h m s F (aq_u c (y + 12) (p - n) ((prt n bb p) - n))) _
          have eA1 : (p - n) = ac_ n p := by unfold ac_; first | rw [if_pos (by omega)] | (rw [if_neg (by omega)])
          have eA2 : ((prt n bb p) - n) = ac_ n (prt n bb p) := by unfold ac_; first | rw [if_pos (by omega)] | (rw [if_neg (by omega)])
          generalize hdc_5 : aq_u c (y + 12) (p - n) ((prt n bb p) - n) = c_5
          have sc_5 := aq_smu hs hdc_5 hS12
          refine ae_iinc rfl rfl (am_ri (by omega) (by omega)) ?_
          show am_E _ (62, [vR y, vI n, vI bb, vI (p + 1), vI (prt n bb p)], [], aq_h m s F c_5) _
          refine am_E.go (t2 := (2, [vR y, vI n, vI bb, vI (p + 1), vI (prt n bb p)], [], aq_h m s F c_5)) rfl rfl ?_
          exact qy_mupside_l ⟨hm, hFo, hG5, hG6, hG7, hG8, hG9, hG10, hG11, hG12, hG13, hG14, hG15, hG16, hG17, hG18, hG19, hG20, hG21, hG22, hG23⟩ hS12 ⟨hT1, hTt⟩ hn1 hn4 hb0 hb1 d (p + 1) (vI (prt n bb p)) c_5 sc_5 (by omega) (by omega) (fun i h5 h6 => by rw [← hdc_5]; by_cases e : i = p; (rw [e, ← eA1, ← eA2, aq_us]); (rw [aq_un (Or.inr (by rw [eA1]; exact ac_i h5 (by omega) h0 (by omega) e))]; exact hz i h5 (by omega))) (by omega)
        · refine am_E.go (t2 := (49, [vR y, vI n, vI bb, vI p, vI (prt n bb p)], [vI (prt n bb p), vI (p - n), vR (y + 12)], aq_h m s F c)) rfl rfl ?_
          refine am_E.go (t2 := (50, [vR y, vI n, vI bb, vI p, vI (prt n bb p)], [vI n, vI (prt n bb p), vI (p - n), vR (y + 12)], aq_h m s F c)) rfl rfl ?_
          refine ae_add rfl (am_ri (by omega) (by omega)) ?_
          show am_E _ (51, [vR y, vI n, vI bb, vI p, vI (prt n bb p)], [vI ((prt n bb p) + n), vI (p - n), vR (y + 12)], aq_h m s F c) _
          refine am_E.go (t2 := (58, [vR y, vI n, vI bb, vI p, vI (prt n bb p)], [vI ((prt n bb p) + n), vI (p - n), vR (y + 12)], aq_h m s F c)) rfl rfl ?_
          refine aq_as (kd := 0) rfl rfl (by omega) hG12 (by omega) (by omega) rfl rfl ?_
          show am_E _ (59, [vR y, vI n, vI bb, vI p, vI (prt n bb p)], [], aq_h m s F (aq_u c (y + 12) (p - n) ((prt n bb p) + n))) _
          have eA1 : (p - n) = ac_ n p := by unfold ac_; first | rw [if_pos (by omega)] | (rw [if_neg (by omega)])
          have eA2 : ((prt n bb p) + n) = ac_ n (prt n bb p) := by unfold ac_; first | rw [if_pos (by omega)] | (rw [if_neg (by omega)])
          generalize hdc_6 : aq_u c (y + 12) (p - n) ((prt n bb p) + n) = c_6
          have sc_6 := aq_smu hs hdc_6 hS12
          refine ae_iinc rfl rfl (am_ri (by omega) (by omega)) ?_
          show am_E _ (62, [vR y, vI n, vI bb, vI (p + 1), vI (prt n bb p)], [], aq_h m s F c_6) _
          refine am_E.go (t2 := (2, [vR y, vI n, vI bb, vI (p + 1), vI (prt n bb p)], [], aq_h m s F c_6)) rfl rfl ?_
          exact qy_mupside_l ⟨hm, hFo, hG5, hG6, hG7, hG8, hG9, hG10, hG11, hG12, hG13, hG14, hG15, hG16, hG17, hG18, hG19, hG20, hG21, hG22, hG23⟩ hS12 ⟨hT1, hTt⟩ hn1 hn4 hb0 hb1 d (p + 1) (vI (prt n bb p)) c_6 sc_6 (by omega) (by omega) (fun i h5 h6 => by rw [← hdc_6]; by_cases e : i = p; (rw [e, ← eA1, ← eA2, aq_us]); (rw [aq_un (Or.inr (by rw [eA1]; exact ac_i h5 (by omega) h0 (by omega) e))]; exact hz i h5 (by omega))) (by omega)
      · refine am_E.go (t2 := (33, [vR y, vI n, vI bb, vI p, vI (prt n bb p)], [vI p, vR (y + 12)], aq_h m s F c)) rfl rfl ?_
        refine am_E.go (t2 := (34, [vR y, vI n, vI bb, vI p, vI (prt n bb p)], [vI n, vI p, vR (y + 12)], aq_h m s F c)) rfl rfl ?_
        refine ae_add rfl (am_ri (by omega) (by omega)) ?_
        show am_E _ (35, [vR y, vI n, vI bb, vI p, vI (prt n bb p)], [vI (p + n), vR (y + 12)], aq_h m s F c) _
        refine am_E.go (t2 := (41, [vR y, vI n, vI bb, vI p, vI (prt n bb p)], [vI (p + n), vR (y + 12)], aq_h m s F c)) rfl rfl ?_
        refine am_E.go (t2 := (43, [vR y, vI n, vI bb, vI p, vI (prt n bb p)], [vI (prt n bb p), vI (p + n), vR (y + 12)], aq_h m s F c)) rfl rfl ?_
        refine am_E.go (t2 := (44, [vR y, vI n, vI bb, vI p, vI (prt n bb p)], [vI n, vI (prt n bb p), vI (p + n), vR (y + 12)], aq_h m s F c)) rfl rfl ?_
        refine ae_icmp rfl (fun (q_7 : n ≤ (prt n bb p)) => ?_) (fun (q_7 : (prt n bb p) < n) => ?_)
        · refine am_E.go (t2 := (56, [vR y, vI n, vI bb, vI p, vI (prt n bb p)], [vI (prt n bb p), vI (p + n), vR (y + 12)], aq_h m s F c)) rfl rfl ?_
          refine am_E.go (t2 := (57, [vR y, vI n, vI bb, vI p, vI (prt n bb p)], [vI n, vI (prt n bb p), vI (p + n), vR (y + 12)], aq_h m s F c)) rfl rfl ?_
          refine ae_sub rfl (am_ri (by omega) (by omega)) ?_
          show am_E _ (58, [vR y, vI n, vI bb, vI p, vI (prt n bb p)], [vI ((prt n bb p) - n), vI (p + n), vR (y + 12)], aq_h m s F c) _
          refine aq_as (kd := 0) rfl rfl (by omega) hG12 (by omega) (by omega) rfl rfl ?_
          show am_E _ (59, [vR y, vI n, vI bb, vI p, vI (prt n bb p)], [], aq_h m s F (aq_u c (y + 12) (p + n) ((prt n bb p) - n))) _
          have eA1 : (p + n) = ac_ n p := by unfold ac_; first | rw [if_pos (by omega)] | (rw [if_neg (by omega)])
          have eA2 : ((prt n bb p) - n) = ac_ n (prt n bb p) := by unfold ac_; first | rw [if_pos (by omega)] | (rw [if_neg (by omega)])
          generalize hdc_8 : aq_u c (y + 12) (p + n) ((prt n bb p) - n) = c_8
          have sc_8 := aq_smu hs hdc_8 hS12
          refine ae_iinc rfl rfl (am_ri (by omega) (by omega)) ?_
          show am_E _ (62, [vR y, vI n, vI bb, vI (p + 1), vI (prt n bb p)], [], aq_h m s F c_8) _
          refine am_E.go (t2 := (2, [vR y, vI n, vI bb, vI (p + 1), vI (prt n bb p)], [], aq_h m s F c_8)) rfl rfl ?_
          exact qy_mupside_l ⟨hm, hFo, hG5, hG6, hG7, hG8, hG9, hG10, hG11, hG12, hG13, hG14, hG15, hG16, hG17, hG18, hG19, hG20, hG21, hG22, hG23⟩ hS12 ⟨hT1, hTt⟩ hn1 hn4 hb0 hb1 d (p + 1) (vI (prt n bb p)) c_8 sc_8 (by omega) (by omega) (fun i h5 h6 => by rw [← hdc_8]; by_cases e : i = p; (rw [e, ← eA1, ← eA2, aq_us]); (rw [aq_un (Or.inr (by rw [eA1]; exact ac_i h5 (by omega) h0 (by omega) e))]; exact hz i h5 (by omega))) (by omega)
        · refine am_E.go (t2 := (49, [vR y, vI n, vI bb, vI p, vI (prt n bb p)], [vI (prt n bb p), vI (p + n), vR (y + 12)], aq_h m s F c)) rfl rfl ?_
          refine am_E.go (t2 := (50, [vR y, vI n, vI bb, vI p, vI (prt n bb p)], [vI n, vI (prt n bb p), vI (p + n), vR (y + 12)], aq_h m s F c)) rfl rfl ?_
          refine ae_add rfl (am_ri (by omega) (by omega)) ?_
          show am_E _ (51, [vR y, vI n, vI bb, vI p, vI (prt n bb p)], [vI ((prt n bb p) + n), vI (p + n), vR (y + 12)], aq_h m s F c) _
          refine am_E.go (t2 := (58, [vR y, vI n, vI bb, vI p, vI (prt n bb p)], [vI ((prt n bb p) + n), vI (p + n), vR (y + 12)], aq_h m s F c)) rfl rfl ?_
          refine aq_as (kd := 0) rfl rfl (by omega) hG12 (by omega) (by omega) rfl rfl ?_
          show am_E _ (59, [vR y, vI n, vI bb, vI p, vI (prt n bb p)], [], aq_h m s F (aq_u c (y + 12) (p + n) ((prt n bb p) + n))) _
          have eA1 : (p + n) = ac_ n p := by unfold ac_; first | rw [if_pos (by omega)] | (rw [if_neg (by omega)])
          have eA2 : ((prt n bb p) + n) = ac_ n (prt n bb p) := by unfold ac_; first | rw [if_pos (by omega)] | (rw [if_neg (by omega)])
          generalize hdc_9 : aq_u c (y + 12) (p + n) ((prt n bb p) + n) = c_9
          have sc_9 := aq_smu hs hdc_9 hS12
          refine ae_iinc rfl rfl (am_ri (by omega) (by omega)) ?_
          show am_E _ (62, [vR y, vI n, vI bb, vI (p + 1), vI (prt n bb p)], [], aq_h m s F c_9) _
          refine am_E.go (t2 := (2, [vR y, vI n, vI bb, vI (p + 1), vI (prt n bb p)], [], aq_h m s F c_9)) rfl rfl ?_
          exact qy_mupside_l ⟨hm, hFo, hG5, hG6, hG7, hG8, hG9, hG10, hG11, hG12, hG13, hG14, hG15, hG16, hG17, hG18, hG19, hG20, hG21, hG22, hG23⟩ hS12 ⟨hT1, hTt⟩ hn1 hn4 hb0 hb1 d (p + 1) (vI (prt n bb p)) c_9 sc_9 (by omega) (by omega) (fun i h5 h6 => by rw [← hdc_9]; by_cases e : i = p; (rw [e, ← eA1, ← eA2, aq_us]); (rw [aq_un (Or.inr (by rw [eA1]; exact ac_i h5 (by omega) h0 (by omega) e))]; exact hz i h5 (by omega))) (by omega)

theorem qy_mupside {m s : Nat} {F : aq_F} {c : aq_C} {S : Nat → Prop} {y : Nat} (hO : mo_0 m F y) (hS12 : S (y + 12)) {tbl : Int → Int} (hT : mo_T F y tbl) {n bb : Int} (hn1 : 1 ≤ n) (hn4 : n ≤ 4) (hb0 : 0 ≤ bb) (hb1 : bb < bx_K n) : am_E ac_X5_upsideDown (0, [vR y, vI n, vI bb, vU, vU], [], aq_h m s F c) (aq_Z m s F S c (fun r _ => r = some (vI (ud_ n (prt n bb))))) := by
  obtain ⟨hm, hFo, hG5, hG6, hG7, hG8, hG9, hG10, hG11, hG12, hG13, hG14, hG15, hG16, hG17, hG18, hG19, hG20, hG21, hG22, hG23⟩ := hO
  obtain ⟨hT1, hTt⟩ := hT
  have hfs := mo_fs n
  have hfi := pr_fi hn1 hn4 hb0 hb1
  refine am_E.go (t2 := (1, [vR y, vI n, vI bb, vU, vU], [vI 0], aq_h m s F c)) rfl rfl ?_
  refine am_E.go (t2 := (2, [vR y, vI n, vI bb, vI 0, vU], [], aq_h m s F c)) rfl rfl ?_
  exact qy_mupside_l ⟨hm, hFo, hG5, hG6, hG7, hG8, hG9, hG10, hG11, hG12, hG13, hG14, hG15, hG16, hG17, hG18, hG19, hG20, hG21, hG22, hG23⟩ hS12 ⟨hT1, hTt⟩ hn1 hn4 hb0 hb1 9 0 (vU) c aq_sm0 (by omega) (by omega) (fun i h5 h6 => absurd h6 (by omega)) (by omega)

theorem qy_rings_3 {m s : Nat} {F : aq_F} {c0 : aq_C} {S : Nat → Prop} {y : Nat} (hO : mo_0 m F y) (hS13 : S (y + 13)) {tbl : Int → Int} (hT : mo_T F y tbl) {n bb : Int} (hn1 : 1 ≤ n) (hn4 : n ≤ 4) (hb0 : 0 ≤ bb) (hb1 : bb < bx_K n) {xa : Int} (hxa : xa = 8 * (mo_f n + bb)) {T : Int} {Wd : Int → Int} : ∀ (d : Nat) (w : Int → Int) (x : Int) (k : Int) (p : Int) (v8 : am_V) (c : aq_C) (hs : aq_sm S c0 c) (h0 : 0 ≤ p) (h1 : p < 2 * n) (hw : ∀ q, 0 ≤ q → q < 4 → c (y + 13) q = w q) (he : rc_d n bb k d p) (ht : rz_ n (prt n bb) k d p w = Wd) (K0 : ∀ (p2 : Int) (v82 : am_V) (c2 : aq_C) (hs2 : aq_sm S c0 c2) (hw2 : ∀ q, 0 ≤ q → q < 4 → c2 (y + 13) q = Wd q), am_E ac_X5_ringsClosed (133, [vR y, vI n, vI bb, vI xa, vI x, vI k, vI p2, vI 0, v82], [], aq_h m s F c2) (aq_Z m s F S c0 (fun r d => r = some (vI T)))), am_E ac_X5_ringsClosed (61, [vR y, vI n, vI bb, vI xa, vI x, vI k, vI p, vI 1, v8], [], aq_h m s F c) (aq_Z m s F S c0 (fun r d => r = some (vI T)))
  | 0, w, x, k, p, v8, c, hs, h0, h1, hw, he, ht, K0 => he.elim
  | d + 1, w, x, k, p, v8, c, hs, h0, h1, hw, he, ht, K0 => by
    obtain ⟨hm, hFo, hG5, hG6, hG7, hG8, hG9, hG10, hG11, hG12, hG13, hG14, hG15, hG16, hG17, hG18, hG19, hG20, hG21, hG22, hG23⟩ := hO
    obtain ⟨hT1, hTt⟩ := hT
    have hfs := mo_fs n
    have hfi := pr_fi hn1 hn4 hb0 hb1
    refine am_E.go (t2 := (63, [vR y, vI n, vI bb, vI xa, vI x, vI k, vI p, vI 1, v8], [vI 1], aq_h m s F c)) rfl rfl ?_
    refine am_E.go (t2 := (66, [vR y, vI n, vI bb, vI xa, vI x, vI k, vI p, vI 1, v8], [], aq_h m s F c)) rfl rfl ?_
    refine am_E.go (t2 := (67, [vR y, vI n, vI bb, vI xa, vI x, vI k, vI p, vI 1, v8], [vR y], aq_h m s F c)) rfl rfl ?_
    refine aq_gf (v := vR (y + 13)) rfl (by omega) hFo (by decide) rfl ?_
    show am_E _ (70, [vR y, vI n, vI bb, vI xa, vI x, vI k, vI p, vI 1, v8], [vR (y + 13)], aq_h m s F c) _
    refine am_E.go (t2 := (72, [vR y, vI n, vI bb, vI xa, vI x, vI k, vI p, vI 1, v8], [vI p, vR (y + 13)], aq_h m s F c)) rfl rfl ?_
    refine am_E.go (t2 := (73, [vR y, vI n, vI bb, vI xa, vI x, vI k, vI p, vI 1, v8], [vI n, vI p, vR (y + 13)], aq_h m s F c)) rfl rfl ?_
    have g_1a := Int.emod_nonneg p (show n ≠ 0 by omega)
    have g_1b := Int.emod_lt_of_pos p (show 0 < n by omega)
    refine ae_bin (z := p % n) rfl rfl (am_rem_e (by omega) (by omega)) ?_
    refine am_E.go (t2 := (75, [vR y, vI n, vI bb, vI xa, vI x, vI k, vI p, vI 1, v8], [vI 1, vI (p % n), vR (y + 13)], aq_h m s F c)) rfl rfl ?_
    refine aq_as (kd := 1) rfl rfl (by omega) hG13 (by omega) (by omega) rfl rfl ?_
    show am_E _ (76, [vR y, vI n, vI bb, vI xa, vI x, vI k, vI p, vI 1, v8], [], aq_h m s F (aq_u c (y + 13) (p % n) 1)) _
    generalize hdc_2 : aq_u c (y + 13) (p % n) 1 = c_2
    have sc_2 := aq_smu hs hdc_2 hS13
    have wc_2 := dc_ac2 hw hdc_2
    refine am_E.go (t2 := (77, [vR y, vI n, vI bb, vI xa, vI x, vI k, vI p, vI 1, v8], [vR y], aq_h m s F c_2)) rfl rfl ?_
    refine aq_gf (v := vR (y + 1)) rfl (by omega) hFo (by decide) rfl ?_
    show am_E _ (80, [vR y, vI n, vI bb, vI xa, vI x, vI k, vI p, vI 1, v8], [vR (y + 1)], aq_h m s F c_2) _
    refine am_E.go (t2 := (81, [vR y, vI n, vI bb, vI xa, vI x, vI k, vI p, vI 1, v8], [vI xa, vR (y + 1)], aq_h m s F c_2)) rfl rfl ?_
    refine am_E.go (t2 := (83, [vR y, vI n, vI bb, vI xa, vI x, vI k, vI p, vI 1, v8], [vI p, vI xa, vR (y + 1)], aq_h m s F c_2)) rfl rfl ?_
    refine ae_add rfl (am_ri (by omega) (by omega)) ?_
    show am_E _ (84, [vR y, vI n, vI bb, vI xa, vI x, vI k, vI p, vI 1, v8], [vI (xa + p), vR (y + 1)], aq_h m s F c_2) _
    have e_t0 := hTt n bb p (by omega) (by omega) (by omega) (by omega) (by omega) (by omega)
    have e_f0 := hfi p (by omega) (by omega)
    refine aq_alt (ok := fun k => k == 0) rfl rfl (by omega) hT1 rfl (by omega) (by omega) ?_
    rw [hxa, e_t0, ← hxa]
    show am_E _ (85, [vR y, vI n, vI bb, vI xa, vI x, vI k, vI p, vI 1, v8], [vI (prt n bb p)], aq_h m s F c_2) _
    refine am_E.go (t2 := (87, [vR y, vI n, vI bb, vI xa, vI x, vI k, vI p, vI 1, vI (prt n bb p)], [], aq_h m s F c_2)) rfl rfl ?_
    refine am_E.go (t2 := (88, [vR y, vI n, vI bb, vI xa, vI x, vI k, vI p, vI 1, vI (prt n bb p)], [vR y], aq_h m s F c_2)) rfl rfl ?_
    refine aq_gf (v := vR (y + 13)) rfl (by omega) hFo (by decide) rfl ?_
    show am_E _ (91, [vR y, vI n, vI bb, vI xa, vI x, vI k, vI p, vI 1, vI (prt n bb p)], [vR (y + 13)], aq_h m s F c_2) _
    refine am_E.go (t2 := (93, [vR y, vI n, vI bb, vI xa, vI x, vI k, vI p, vI 1, vI (prt n bb p)], [vI (prt n bb p), vR (y + 13)], aq_h m s F c_2)) rfl rfl ?_
    refine am_E.go (t2 := (94, [vR y, vI n, vI bb, vI xa, vI x, vI k, vI p, vI 1, vI (prt n bb p)], [vI n, vI (prt n bb p), vR (y + 13)], aq_h m s F c_2)) rfl rfl ?_
    have g_3a := Int.emod_nonneg (prt n bb p) (show n ≠ 0 by omega)
    have g_3b := Int.emod_lt_of_pos (prt n bb p) (show 0 < n by omega)
    refine ae_bin (z := (prt n bb p) % n) rfl rfl (am_rem_e (by omega) (by omega)) ?_
    refine am_E.go (t2 := (96, [vR y, vI n, vI bb, vI xa, vI x, vI k, vI p, vI 1, vI (prt n bb p)], [vI 1, vI ((prt n bb p) % n), vR (y + 13)], aq_h m s F c_2)) rfl rfl ?_
    refine aq_as (kd := 1) rfl rfl (by omega) hG13 (by omega) (by omega) rfl rfl ?_
    show am_E _ (97, [vR y, vI n, vI bb, vI xa, vI x, vI k, vI p, vI 1, vI (prt n bb p)], [], aq_h m s F (aq_u c_2 (y + 13) ((prt n bb p) % n) 1)) _
    generalize hdc_4 : aq_u c_2 (y + 13) ((prt n bb p) % n) 1 = c_4
    have sc_4 := aq_smu sc_2 hdc_4 hS13
    have wc_4 := dc_ac2 wc_2 hdc_4
    refine am_E.go (t2 := (99, [vR y, vI n, vI bb, vI xa, vI x, vI k, vI p, vI 1, vI (prt n bb p)], [vI (prt n bb p)], aq_h m s F c_4)) rfl rfl ?_
    refine am_E.go (t2 := (100, [vR y, vI n, vI bb, vI xa, vI x, vI k, vI p, vI 1, vI (prt n bb p)], [vI n, vI (prt n bb p)], aq_h m s F c_4)) rfl rfl ?_
    refine ae_icmp rfl (fun (q_5 : n ≤ (prt n bb p)) => ?_) (fun (q_5 : (prt n bb p) < n) => ?_)
    · refine am_E.go (t2 := (112, [vR y, vI n, vI bb, vI xa, vI x, vI k, vI p, vI 1, vI (prt n bb p)], [vI (prt n bb p)], aq_h m s F c_4)) rfl rfl ?_
      refine am_E.go (t2 := (113, [vR y, vI n, vI bb, vI xa, vI x, vI k, vI p, vI 1, vI (prt n bb p)], [vI n, vI (prt n bb p)], aq_h m s F c_4)) rfl rfl ?_
      refine ae_sub rfl (am_ri (by omega) (by omega)) ?_
      show am_E _ (114, [vR y, vI n, vI bb, vI xa, vI x, vI k, vI p, vI 1, vI (prt n bb p)], [vI ((prt n bb p) - n)], aq_h m s F c_4) _
      refine am_E.go (t2 := (116, [vR y, vI n, vI bb, vI xa, vI x, vI k, vI ((prt n bb p) - n), vI 1, vI (prt n bb p)], [], aq_h m s F c_4)) rfl rfl ?_
      refine am_E.go (t2 := (118, [vR y, vI n, vI bb, vI xa, vI x, vI k, vI ((prt n bb p) - n), vI 1, vI (prt n bb p)], [vI ((prt n bb p) - n)], aq_h m s F c_4)) rfl rfl ?_
      refine am_E.go (t2 := (120, [vR y, vI n, vI bb, vI xa, vI x, vI k, vI ((prt n bb p) - n), vI 1, vI (prt n bb p)], [vI k, vI ((prt n bb p) - n)], aq_h m s F c_4)) rfl rfl ?_
      refine ae_icmp rfl (fun (q_6 : ((prt n bb p) - n) = k) => ?_) (fun (q_6 : ((prt n bb p) - n) ≠ k) => ?_)
      · refine am_E.go (t2 := (128, [vR y, vI n, vI bb, vI xa, vI x, vI k, vI ((prt n bb p) - n), vI 1, vI (prt n bb p)], [vI 0], aq_h m s F c_4)) rfl rfl ?_
        refine am_E.go (t2 := (130, [vR y, vI n, vI bb, vI xa, vI x, vI k, vI ((prt n bb p) - n), vI 0, vI (prt n bb p)], [], aq_h m s F c_4)) rfl rfl ?_
        refine am_E.go (t2 := (61, [vR y, vI n, vI bb, vI xa, vI x, vI k, vI ((prt n bb p) - n), vI 0, vI (prt n bb p)], [], aq_h m s F c_4)) rfl rfl ?_
        refine am_E.go (t2 := (63, [vR y, vI n, vI bb, vI xa, vI x, vI k, vI ((prt n bb p) - n), vI 0, vI (prt n bb p)], [vI 0], aq_h m s F c_4)) rfl rfl ?_
        refine am_E.go (t2 := (133, [vR y, vI n, vI bb, vI xa, vI x, vI k, vI ((prt n bb p) - n), vI 0, vI (prt n bb p)], [], aq_h m s F c_4)) rfl rfl ?_
        exact K0 ((prt n bb p) - n) (vI (prt n bb p)) c_4 sc_4 (by rw [← ht, rz_, if_pos (by rw [← show ((prt n bb p) - n) = ac_ n (prt n bb p) from (by unfold ac_; first | (rw [if_pos (by omega)]) | (rw [if_neg (by omega)]))]; omega)]; exact wc_4)
      · refine am_E.go (t2 := (124, [vR y, vI n, vI bb, vI xa, vI x, vI k, vI ((prt n bb p) - n), vI 1, vI (prt n bb p)], [vI 1], aq_h m s F c_4)) rfl rfl ?_
        refine am_E.go (t2 := (128, [vR y, vI n, vI bb, vI xa, vI x, vI k, vI ((prt n bb p) - n), vI 1, vI (prt n bb p)], [vI 1], aq_h m s F c_4)) rfl rfl ?_
        refine am_E.go (t2 := (130, [vR y, vI n, vI bb, vI xa, vI x, vI k, vI ((prt n bb p) - n), vI 1, vI (prt n bb p)], [], aq_h m s F c_4)) rfl rfl ?_
        refine am_E.go (t2 := (61, [vR y, vI n, vI bb, vI xa, vI x, vI k, vI ((prt n bb p) - n), vI 1, vI (prt n bb p)], [], aq_h m s F c_4)) rfl rfl ?_
        exact qy_rings_3 ⟨hm, hFo, hG5, hG6, hG7, hG8, hG9, hG10, hG11, hG12, hG13, hG14, hG15, hG16, hG17, hG18, hG19, hG20, hG21, hG22, hG23⟩ hS13 ⟨hT1, hTt⟩ hn1 hn4 hb0 hb1 hxa d (dc_u (dc_u w (p % n)) ((prt n bb p) % n)) x k ((prt n bb p) - n) (vI (prt n bb p)) c_4 sc_4 (by omega) (by omega) wc_4 (by have e9 := he (by unfold rc_s; first | (rw [if_pos (by omega)]; omega) | (rw [if_neg (by omega)]; omega)); unfold rc_s at e9; first | (rw [if_pos (by omega)] at e9; exact e9) | (rw [if_neg (by omega)] at e9; exact e9)) (by rw [show ((prt n bb p) - n) = ac_ n (prt n bb p) from (by unfold ac_; first | (rw [if_pos (by omega)]) | (rw [if_neg (by omega)])), ← ht, rz_, if_neg (by rw [← show ((prt n bb p) - n) = ac_ n (prt n bb p) from (by unfold ac_; first | (rw [if_pos (by omega)]) | (rw [if_neg (by omega)]))]; omega)]) K0
    · refine am_E.go (t2 := (105, [vR y, vI n, vI bb, vI xa, vI x, vI k, vI p, vI 1, vI (prt n bb p)], [vI (prt n bb p)], aq_h m s F c_4)) rfl rfl ?_
      refine am_E.go (t2 := (106, [vR y, vI n, vI bb, vI xa, vI x, vI k, vI p, vI 1, vI (prt n bb p)], [vI n, vI (prt n bb p)], aq_h m s F c_4)) rfl rfl ?_
      refine ae_add rfl (am_ri (by omega) (by omega)) ?_
      show am_E _ (107, [vR y, vI n, vI bb, vI xa, vI x, vI k, vI p, vI 1, vI (prt n bb p)], [vI ((prt n bb p) + n)], aq_h m s F c_4) _
      refine am_E.go (t2 := (114, [vR y, vI n, vI bb, vI xa, vI x, vI k, vI p, vI 1, vI (prt n bb p)], [vI ((prt n bb p) + n)], aq_h m s F c_4)) rfl rfl ?_
      refine am_E.go (t2 := (116, [vR y, vI n, vI bb, vI xa, vI x, vI k, vI ((prt n bb p) + n), vI 1, vI (prt n bb p)], [], aq_h m s F c_4)) rfl rfl ?_
      refine am_E.go (t2 := (118, [vR y, vI n, vI bb, vI xa, vI x, vI k, vI ((prt n bb p) + n), vI 1, vI (prt n bb p)], [vI ((prt n bb p) + n)], aq_h m s F c_4)) rfl rfl ?_
      refine am_E.go (t2 := (120, [vR y, vI n, vI bb, vI xa, vI x, vI k, vI ((prt n bb p) + n), vI 1, vI (prt n bb p)], [vI k, vI ((prt n bb p) + n)], aq_h m s F c_4)) rfl rfl ?_
      refine ae_icmp rfl (fun (q_7 : ((prt n bb p) + n) = k) => ?_) (fun (q_7 : ((prt n bb p) + n) ≠ k) => ?_)
      · refine am_E.go (t2 := (128, [vR y, vI n, vI bb, vI xa, vI x, vI k, vI ((prt n bb p) + n), vI 1, vI (prt n bb p)], [vI 0], aq_h m s F c_4)) rfl rfl ?_
        refine am_E.go (t2 := (130, [vR y, vI n, vI bb, vI xa, vI x, vI k, vI ((prt n bb p) + n), vI 0, vI (prt n bb p)], [], aq_h m s F c_4)) rfl rfl ?_
        refine am_E.go (t2 := (61, [vR y, vI n, vI bb, vI xa, vI x, vI k, vI ((prt n bb p) + n), vI 0, vI (prt n bb p)], [], aq_h m s F c_4)) rfl rfl ?_
        refine am_E.go (t2 := (63, [vR y, vI n, vI bb, vI xa, vI x, vI k, vI ((prt n bb p) + n), vI 0, vI (prt n bb p)], [vI 0], aq_h m s F c_4)) rfl rfl ?_
        refine am_E.go (t2 := (133, [vR y, vI n, vI bb, vI xa, vI x, vI k, vI ((prt n bb p) + n), vI 0, vI (prt n bb p)], [], aq_h m s F c_4)) rfl rfl ?_
        exact K0 ((prt n bb p) + n) (vI (prt n bb p)) c_4 sc_4 (by rw [← ht, rz_, if_pos (by rw [← show ((prt n bb p) + n) = ac_ n (prt n bb p) from (by unfold ac_; first | (rw [if_pos (by omega)]) | (rw [if_neg (by omega)]))]; omega)]; exact wc_4)
      · refine am_E.go (t2 := (124, [vR y, vI n, vI bb, vI xa, vI x, vI k, vI ((prt n bb p) + n), vI 1, vI (prt n bb p)], [vI 1], aq_h m s F c_4)) rfl rfl ?_
        refine am_E.go (t2 := (128, [vR y, vI n, vI bb, vI xa, vI x, vI k, vI ((prt n bb p) + n), vI 1, vI (prt n bb p)], [vI 1], aq_h m s F c_4)) rfl rfl ?_
        refine am_E.go (t2 := (130, [vR y, vI n, vI bb, vI xa, vI x, vI k, vI ((prt n bb p) + n), vI 1, vI (prt n bb p)], [], aq_h m s F c_4)) rfl rfl ?_
        refine am_E.go (t2 := (61, [vR y, vI n, vI bb, vI xa, vI x, vI k, vI ((prt n bb p) + n), vI 1, vI (prt n bb p)], [], aq_h m s F c_4)) rfl rfl ?_
        exact qy_rings_3 ⟨hm, hFo, hG5, hG6, hG7, hG8, hG9, hG10, hG11, hG12, hG13, hG14, hG15, hG16, hG17, hG18, hG19, hG20, hG21, hG22, hG23⟩ hS13 ⟨hT1, hTt⟩ hn1 hn4 hb0 hb1 hxa d (dc_u (dc_u w (p % n)) ((prt n bb p) % n)) x k ((prt n bb p) + n) (vI (prt n bb p)) c_4 sc_4 (by omega) (by omega) wc_4 (by have e9 := he (by unfold rc_s; first | (rw [if_pos (by omega)]; omega) | (rw [if_neg (by omega)]; omega)); unfold rc_s at e9; first | (rw [if_pos (by omega)] at e9; exact e9) | (rw [if_neg (by omega)] at e9; exact e9)) (by rw [show ((prt n bb p) + n) = ac_ n (prt n bb p) from (by unfold ac_; first | (rw [if_pos (by omega)]) | (rw [if_neg (by omega)])), ← ht, rz_, if_neg (by rw [← show ((prt n bb p) + n) = ac_ n (prt n bb p) from (by unfold ac_; first | (rw [if_pos (by omega)]) | (rw [if_neg (by omega)]))]; omega)]) K0

theorem qy_rings_2 {m s : Nat} {F : aq_F} {c0 : aq_C} {S : Nat → Prop} {y : Nat} (hO : mo_0 m F y) (hS13 : S (y + 13)) {tbl : Int → Int} (hT : mo_T F y tbl) {n bb : Int} (hn1 : 1 ≤ n) (hn4 : n ≤ 4) (hb0 : 0 ≤ bb) (hb1 : bb < bx_K n) {xa : Int} (hxa : xa = 8 * (mo_f n + bb)) {T : Int} : ∀ (d : Nat) (w : Int → Int) (x : Int) (k : Int) (v6 : am_V) (v7 : am_V) (v8 : am_V) (c : aq_C) (hs : aq_sm S c0 c) (h0 : 0 ≤ k) (h1 : k ≤ n) (h2 : 0 ≤ x) (h3 : x ≤ k) (hw : ∀ q, 0 ≤ q → q < 4 → c (y + 13) q = w q) (ht : ry_ n (prt n bb) d k x w = T) (hd : n - k < (d : Int)), am_E ac_X5_ringsClosed (35, [vR y, vI n, vI bb, vI xa, vI x, vI k, v6, v7, v8], [], aq_h m s F c) (aq_Z m s F S c0 (fun r d => r = some (vI T)))
  | 0, w, x, k, v6, v7, v8, c, hs, h0, h1, h2, h3, hw, ht, hd => by exfalso; omega
  | d + 1, w, x, k, v6, v7, v8, c, hs, h0, h1, h2, h3, hw, ht, hd => by
    obtain ⟨hm, hFo, hG5, hG6, hG7, hG8, hG9, hG10, hG11, hG12, hG13, hG14, hG15, hG16, hG17, hG18, hG19, hG20, hG21, hG22, hG23⟩ := hO
    obtain ⟨hT1, hTt⟩ := hT
    have hfs := mo_fs n
    have hfi := pr_fi hn1 hn4 hb0 hb1
    refine am_E.go (t2 := (37, [vR y, vI n, vI bb, vI xa, vI x, vI k, v6, v7, v8], [vI k], aq_h m s F c)) rfl rfl ?_
    refine am_E.go (t2 := (38, [vR y, vI n, vI bb, vI xa, vI x, vI k, v6, v7, v8], [vI n, vI k], aq_h m s F c)) rfl rfl ?_
    refine ae_icmp rfl (fun (q_1 : n ≤ k) => ?_) (fun (q_1 : k < n) => ?_)
    · refine am_E.go (t2 := (141, [vR y, vI n, vI bb, vI xa, vI x, vI k, v6, v7, v8], [vI x], aq_h m s F c)) rfl rfl ?_
      refine am_E.ret rfl rfl ?_
      refine ⟨_, rfl, hs, ?_⟩
      rw [← ht, ry_, if_neg (by omega)]
    · refine am_E.go (t2 := (42, [vR y, vI n, vI bb, vI xa, vI x, vI k, v6, v7, v8], [vR y], aq_h m s F c)) rfl rfl ?_
      refine aq_gf (v := vR (y + 13)) rfl (by omega) hFo (by decide) rfl ?_
      show am_E _ (45, [vR y, vI n, vI bb, vI xa, vI x, vI k, v6, v7, v8], [vR (y + 13)], aq_h m s F c) _
      refine am_E.go (t2 := (47, [vR y, vI n, vI bb, vI xa, vI x, vI k, v6, v7, v8], [vI k, vR (y + 13)], aq_h m s F c)) rfl rfl ?_
      refine aq_al (ok := fun k => k == 1) (v := vI (c (y + 13) k)) rfl rfl (by omega) hG13 rfl (by omega) (by omega) rfl ?_
      show am_E _ (48, [vR y, vI n, vI bb, vI xa, vI x, vI k, v6, v7, v8], [vI (c (y + 13) k)], aq_h m s F c) _
      have f_2 := hw k (by omega) (by omega)
      refine ae_if0 rfl (fun (q_3 : (c (y + 13) k) ≠ 0) => ?_) (fun (q_3 : (c (y + 13) k) = 0) => ?_)
      · refine ae_iinc rfl rfl (am_ri (by omega) (by omega)) ?_
        show am_E _ (136, [vR y, vI n, vI bb, vI xa, vI x, vI (k + 1), v6, v7, v8], [], aq_h m s F c) _
        refine am_E.go (t2 := (35, [vR y, vI n, vI bb, vI xa, vI x, vI (k + 1), v6, v7, v8], [], aq_h m s F c)) rfl rfl ?_
        exact qy_rings_2 ⟨hm, hFo, hG5, hG6, hG7, hG8, hG9, hG10, hG11, hG12, hG13, hG14, hG15, hG16, hG17, hG18, hG19, hG20, hG21, hG22, hG23⟩ hS13 ⟨hT1, hTt⟩ hn1 hn4 hb0 hb1 hxa d w x (k + 1) (v6) (v7) (v8) c hs (by omega) (by omega) (by omega) (by omega) hw (by rw [← ht, ry_, if_pos (by omega)]; first | rw [if_neg (by omega)] | rw [if_pos (by omega)]) (by omega)
      · refine ae_iinc rfl rfl (am_ri (by omega) (by omega)) ?_
        show am_E _ (54, [vR y, vI n, vI bb, vI xa, vI (x + 1), vI k, v6, v7, v8], [], aq_h m s F c) _
        refine am_E.go (t2 := (56, [vR y, vI n, vI bb, vI xa, vI (x + 1), vI k, v6, v7, v8], [vI k], aq_h m s F c)) rfl rfl ?_
        refine am_E.go (t2 := (58, [vR y, vI n, vI bb, vI xa, vI (x + 1), vI k, vI k, v7, v8], [], aq_h m s F c)) rfl rfl ?_
        refine am_E.go (t2 := (59, [vR y, vI n, vI bb, vI xa, vI (x + 1), vI k, vI k, v7, v8], [vI 1], aq_h m s F c)) rfl rfl ?_
        refine am_E.go (t2 := (61, [vR y, vI n, vI bb, vI xa, vI (x + 1), vI k, vI k, vI 1, v8], [], aq_h m s F c)) rfl rfl ?_
        refine qy_rings_3 ⟨hm, hFo, hG5, hG6, hG7, hG8, hG9, hG10, hG11, hG12, hG13, hG14, hG15, hG16, hG17, hG18, hG19, hG20, hG21, hG22, hG23⟩ hS13 ⟨hT1, hTt⟩ hn1 hn4 hb0 hb1 hxa 4 w (x + 1) k k (v8) c hs (by omega) (by omega) hw (rc_dn (rc_n hn1 hn4 hb0 hb1 h0 (by omega))) rfl ?_
        · intro p2_61 v82_61 c_4 sc_4 hw2_61
          refine ae_iinc rfl rfl (am_ri (by omega) (by omega)) ?_
          show am_E _ (136, [vR y, vI n, vI bb, vI xa, vI (x + 1), vI (k + 1), vI p2_61, vI 0, v82_61], [], aq_h m s F c_4) _
          refine am_E.go (t2 := (35, [vR y, vI n, vI bb, vI xa, vI (x + 1), vI (k + 1), vI p2_61, vI 0, v82_61], [], aq_h m s F c_4)) rfl rfl ?_
          exact qy_rings_2 ⟨hm, hFo, hG5, hG6, hG7, hG8, hG9, hG10, hG11, hG12, hG13, hG14, hG15, hG16, hG17, hG18, hG19, hG20, hG21, hG22, hG23⟩ hS13 ⟨hT1, hTt⟩ hn1 hn4 hb0 hb1 hxa d (rz_ n (prt n bb) k 4 k w) (x + 1) (k + 1) (vI p2_61) (vI 0) (v82_61) c_4 sc_4 (by omega) (by omega) (by omega) (by omega) hw2_61 (by rw [← ht, ry_, if_pos (by omega)]; first | rw [if_neg (by omega)] | rw [if_pos (by omega)]) (by omega)

theorem qy_rings_1 {m s : Nat} {F : aq_F} {c0 : aq_C} {S : Nat → Prop} {y : Nat} (hO : mo_0 m F y) (hS13 : S (y + 13)) {tbl : Int → Int} (hT : mo_T F y tbl) {n bb : Int} (hn1 : 1 ≤ n) (hn4 : n ≤ 4) (hb0 : 0 ≤ bb) (hb1 : bb < bx_K n) {xa : Int} (hxa : xa = 8 * (mo_f n + bb)) {T : Int} (hTW : ry_ n (prt n bb) 6 0 0 (fun _ => 0) = T) : ∀ (d : Nat) (k : Int) (v5 : am_V) (v6 : am_V) (v7 : am_V) (v8 : am_V) (c : aq_C) (hs : aq_sm S c0 c) (h0 : 0 ≤ k) (h1 : k ≤ 4) (hz : ∀ i, 0 ≤ i → i < k → c (y + 13) i = (fun _ => 0) i) (hd : 4 - k < (d : Int)), am_E ac_X5_ringsClosed (9, [vR y, vI n, vI bb, vI xa, vI k, v5, v6, v7, v8], [], aq_h m s F c) (aq_Z m s F S c0 (fun r d => r = some (vI T)))
  | 0, k, v5, v6, v7, v8, c, hs, h0, h1, hz, hd => by exfalso; omega
  | d + 1, k, v5, v6, v7, v8, c, hs, h0, h1, hz, hd => by
    obtain ⟨hm, hFo, hG5, hG6, hG7, hG8, hG9, hG10, hG11, hG12, hG13, hG14, hG15, hG16, hG17, hG18, hG19, hG20, hG21, hG22, hG23⟩ := hO
    obtain ⟨hT1, hTt⟩ := hT
    have hfs := mo_fs n
    have hfi := pr_fi hn1 hn4 hb0 hb1
    refine am_E.go (t2 := (11, [vR y, vI n, vI bb, vI xa, vI k, v5, v6, v7, v8], [vI k], aq_h m s F c)) rfl rfl ?_
    refine am_E.go (t2 := (12, [vR y, vI n, vI bb, vI xa, vI k, v5, v6, v7, v8], [vI 4, vI k], aq_h m s F c)) rfl rfl ?_
    refine ae_icmp rfl (fun (q_1 : 4 ≤ k) => ?_) (fun (q_1 : k < 4) => ?_)
    · refine am_E.go (t2 := (30, [vR y, vI n, vI bb, vI xa, vI k, v5, v6, v7, v8], [vI 0], aq_h m s F c)) rfl rfl ?_
      refine am_E.go (t2 := (32, [vR y, vI n, vI bb, vI xa, vI 0, v5, v6, v7, v8], [], aq_h m s F c)) rfl rfl ?_
      refine am_E.go (t2 := (33, [vR y, vI n, vI bb, vI xa, vI 0, v5, v6, v7, v8], [vI 0], aq_h m s F c)) rfl rfl ?_
      refine am_E.go (t2 := (35, [vR y, vI n, vI bb, vI xa, vI 0, vI 0, v6, v7, v8], [], aq_h m s F c)) rfl rfl ?_
      exact qy_rings_2 ⟨hm, hFo, hG5, hG6, hG7, hG8, hG9, hG10, hG11, hG12, hG13, hG14, hG15, hG16, hG17, hG18, hG19, hG20, hG21, hG22, hG23⟩ hS13 ⟨hT1, hTt⟩ hn1 hn4 hb0 hb1 hxa 6 (fun _ => 0) 0 0 (v6) (v7) (v8) c hs (by omega) (by omega) (by omega) (by omega) (fun q q0 q1 => hz q q0 (by omega)) hTW (by omega)
    · refine am_E.go (t2 := (16, [vR y, vI n, vI bb, vI xa, vI k, v5, v6, v7, v8], [vR y], aq_h m s F c)) rfl rfl ?_
      refine aq_gf (v := vR (y + 13)) rfl (by omega) hFo (by decide) rfl ?_
      show am_E _ (19, [vR y, vI n, vI bb, vI xa, vI k, v5, v6, v7, v8], [vR (y + 13)], aq_h m s F c) _
      refine am_E.go (t2 := (21, [vR y, vI n, vI bb, vI xa, vI k, v5, v6, v7, v8], [vI k, vR (y + 13)], aq_h m s F c)) rfl rfl ?_
      refine am_E.go (t2 := (22, [vR y, vI n, vI bb, vI xa, vI k, v5, v6, v7, v8], [vI 0, vI k, vR (y + 13)], aq_h m s F c)) rfl rfl ?_
      refine aq_as (kd := 1) rfl rfl (by omega) hG13 (by omega) (by omega) rfl rfl ?_
      show am_E _ (23, [vR y, vI n, vI bb, vI xa, vI k, v5, v6, v7, v8], [], aq_h m s F (aq_u c (y + 13) k 0)) _
      generalize hdc_2 : aq_u c (y + 13) k 0 = c_2
      have sc_2 := aq_smu hs hdc_2 hS13
      refine ae_iinc rfl rfl (am_ri (by omega) (by omega)) ?_
      show am_E _ (26, [vR y, vI n, vI bb, vI xa, vI (k + 1), v5, v6, v7, v8], [], aq_h m s F c_2) _
      refine am_E.go (t2 := (9, [vR y, vI n, vI bb, vI xa, vI (k + 1), v5, v6, v7, v8], [], aq_h m s F c_2)) rfl rfl ?_
      exact qy_rings_1 ⟨hm, hFo, hG5, hG6, hG7, hG8, hG9, hG10, hG11, hG12, hG13, hG14, hG15, hG16, hG17, hG18, hG19, hG20, hG21, hG22, hG23⟩ hS13 ⟨hT1, hTt⟩ hn1 hn4 hb0 hb1 hxa hTW d (k + 1) (v5) (v6) (v7) (v8) c_2 sc_2 (by omega) (by omega) (aq_fl hz hdc_2 rfl) (by omega)

theorem qy_mrings {m s : Nat} {F : aq_F} {c : aq_C} {S : Nat → Prop} {y : Nat} (hO : mo_0 m F y) (hS13 : S (y + 13)) {tbl : Int → Int} (hT : mo_T F y tbl) {n bb : Int} (hn1 : 1 ≤ n) (hn4 : n ≤ 4) (hb0 : 0 ≤ bb) (hb1 : bb < bx_K n) : am_E ac_X5_ringsClosed (0, [vR y, vI n, vI bb, vU, vU, vU, vU, vU, vU], [], aq_h m s F c) (aq_Z m s F S c (fun r d => r = some (vI (ry_ n (prt n bb) 6 0 0 (fun _ => 0))))) := by
  obtain ⟨hm, hFo, hG5, hG6, hG7, hG8, hG9, hG10, hG11, hG12, hG13, hG14, hG15, hG16, hG17, hG18, hG19, hG20, hG21, hG22, hG23⟩ := hO
  obtain ⟨hT1, hTt⟩ := hT
  have hfs := mo_fs n
  have hfi := pr_fi hn1 hn4 hb0 hb1
  refine am_E.go (t2 := (1, [vR y, vI n, vI bb, vU, vU, vU, vU, vU, vU], [vI n], aq_h m s F c)) rfl rfl ?_
  refine am_E.go (t2 := (2, [vR y, vI n, vI bb, vU, vU, vU, vU, vU, vU], [vI bb, vI n], aq_h m s F c)) rfl rfl ?_
  refine am_E.call rfl rfl rfl (Nat.le_of_ble_eq_true rfl) (qm_at (by omega) (by omega)) ?_
  rintro r5 h5 ⟨rfl, xa, rfl, hxa⟩
  show am_E _ (5, [vR y, vI n, vI bb, vU, vU, vU, vU, vU, vU], [vI xa], aq_h m s F c) _
  refine am_E.go (t2 := (6, [vR y, vI n, vI bb, vI xa, vU, vU, vU, vU, vU], [], aq_h m s F c)) rfl rfl ?_
  refine am_E.go (t2 := (7, [vR y, vI n, vI bb, vI xa, vU, vU, vU, vU, vU], [vI 0], aq_h m s F c)) rfl rfl ?_
  refine am_E.go (t2 := (9, [vR y, vI n, vI bb, vI xa, vI 0, vU, vU, vU, vU], [], aq_h m s F c)) rfl rfl ?_
  exact qy_rings_1 ⟨hm, hFo, hG5, hG6, hG7, hG8, hG9, hG10, hG11, hG12, hG13, hG14, hG15, hG16, hG17, hG18, hG19, hG20, hG21, hG22, hG23⟩ hS13 ⟨hT1, hTt⟩ hn1 hn4 hb0 hb1 hxa rfl 6 0 (vU) (vU) (vU) (vU) c aq_sm0 (by omega) (by omega) (fun i h1 h2 => absurd h2 (by omega)) (by omega)

theorem qe_X5_about {m s : Nat} {F : aq_F} {c : aq_C} {y : Nat} (hC : mo_C m F y) (hI : mo_I y c) {n bb w : Int} : am_E ac_X5_about (0, [vR y, vI n, vI bb, vI w], [], aq_h m s F c) (aq_Z m s F (fun a => y ≤ a ∧ a < y + 24) c (fun r d => r = some (vI (ab_a n bb w)) ∧ mo_I y d)) := by
  obtain ⟨⟨hm, hFo, hG5, hG6, hG7, hG8, hG9, hG10, hG11, hG12, hG13, hG14, hG15, hG16, hG17, hG18, hG19, hG20, hG21, hG22, hG23⟩, ⟨tbl, hT1, hTt⟩, ⟨tA, tB, tD, hL1, hL2, hL3, hLt⟩⟩ := hC
  have hfs := mo_fs n
  refine am_E.go (t2 := (1, [vR y, vI n, vI bb, vI w], [vI n], aq_h m s F c)) rfl rfl ?_
  refine am_E.go (t2 := (2, [vR y, vI n, vI bb, vI w], [vI bb, vI n], aq_h m s F c)) rfl rfl ?_
  refine am_E.call rfl rfl rfl (Nat.le_of_ble_eq_true rfl) (qm_isBox) ?_
  rintro r5 h5 ⟨rfl, v_1, rfl, hv_1⟩
  show am_E _ (5, [vR y, vI n, vI bb, vI w], [vI v_1], aq_h m s F c) _
  refine ae_if0 rfl (fun (q_2 : v_1 = 0) => ?_) (fun (q_2 : v_1 ≠ 0) => ?_)
  · refine am_E.go (t2 := (21, [vR y, vI n, vI bb, vI w], [vI (-1)], aq_h m s F c)) rfl rfl ?_
    refine am_E.ret rfl rfl ?_
    exact ⟨_, rfl, (aq_sm0 (c := c) (S := fun a => y ≤ a ∧ a < y + 24)), by unfold ab_a; (repeat' split) <;> first | rfl | (exfalso; omega), hI⟩
  · refine am_E.go (t2 := (9, [vR y, vI n, vI bb, vI w], [vI w], aq_h m s F c)) rfl rfl ?_
    refine am_E.go (t2 := (10, [vR y, vI n, vI bb, vI w], [vL w], aq_h m s F c)) rfl rfl ?_
    refine am_E.go (t2 := (11, [vR y, vI n, vI bb, vI w], [vL 0, vL w], aq_h m s F c)) rfl rfl ?_
    refine am_E.go (t2 := (14, [vR y, vI n, vI bb, vI w], [vL 4, vL 0, vL w], aq_h m s F c)) rfl rfl ?_
    refine am_E.call rfl rfl rfl (Nat.le_of_ble_eq_true rfl) (qm_in) ?_
    rintro r5 h5 ⟨rfl, v_3, rfl, hv_3⟩
    show am_E _ (17, [vR y, vI n, vI bb, vI w], [vI v_3], aq_h m s F c) _
    refine ae_if0 rfl (fun (q_4 : v_3 ≠ 0) => ?_) (fun (q_4 : v_3 = 0) => ?_)
    · refine am_E.go (t2 := (23, [vR y, vI n, vI bb, vI w], [vI w], aq_h m s F c)) rfl rfl ?_
      have hsw : w = 0 ∨ w = 1 ∨ w = 2 ∨ w = 3 ∨ (w < 0 ∨ 3 < w) := by omega
      rcases hsw with h | h | h | h | h
      · subst h
        refine am_E.go (t2 := (52, [vR y, vI n, vI bb, vI 0], [], aq_h m s F c)) rfl rfl ?_
        refine am_E.go (t2 := (53, [vR y, vI n, vI bb, vI 0], [vR y], aq_h m s F c)) rfl rfl ?_
        refine am_E.go (t2 := (54, [vR y, vI n, vI bb, vI 0], [vI n, vR y], aq_h m s F c)) rfl rfl ?_
        refine am_E.go (t2 := (55, [vR y, vI n, vI bb, vI 0], [vI bb, vI n, vR y], aq_h m s F c)) rfl rfl ?_
        refine aq_callv (y := 3) (as2 := [vI n, vI bb]) (rest := []) rfl rfl (by decide) (Nat.le_of_ble_eq_true rfl) rfl rfl (Nat.le_of_ble_eq_true rfl) (by omega) hFo rfl (Nat.le_of_ble_eq_true rfl) (qz_misPlane ⟨hm, hFo, hG5, hG6, hG7, hG8, hG9, hG10, hG11, hG12, hG13, hG14, hG15, hG16, hG17, hG18, hG19, hG20, hG21, hG22, hG23⟩ ⟨hT1, hTt⟩ (by omega) (by omega) (by omega) (by omega)) ?_
        rintro r5 h5 ⟨rfl, rfl⟩
        show am_E _ (58, [vR y, vI n, vI bb, vI 0], [vI (ro_ n (prt n bb) 9 0 1)], aq_h m s F c) _
        have hpo := ro_b (n := n) (f := prt n bb) 9 0 1 (Or.inr rfl)
        have hrp := rp_n (n := n) (b := bb) (by omega) (by omega) (by omega) (by omega)
        refine ae_if0 rfl (fun (q_5 : (ro_ n (prt n bb) 9 0 1) = 0) => ?_) (fun (q_5 : (ro_ n (prt n bb) 9 0 1) ≠ 0) => ?_)
        · refine am_E.go (t2 := (66, [vR y, vI n, vI bb, vI 0], [vI 0], aq_h m s F c)) rfl rfl ?_
          refine am_E.ret rfl rfl ?_
          refine ⟨_, rfl, (aq_sm0 (c := c) (S := fun a => y ≤ a ∧ a < y + 24)), ?_, hI⟩
          have e3 : ab_a n bb 0 = po_ n (prt n bb) 9 0 := by unfold ab_a; rw [if_pos (by omega)]; rfl
          rw [e3]
          have e5 : po_ n (prt n bb) 9 0 = 0 := by omega
          rw [e5]
        · refine am_E.go (t2 := (62, [vR y, vI n, vI bb, vI 0], [vI 1], aq_h m s F c)) rfl rfl ?_
          refine am_E.go (t2 := (66, [vR y, vI n, vI bb, vI 0], [vI 1], aq_h m s F c)) rfl rfl ?_
          refine am_E.ret rfl rfl ?_
          refine ⟨_, rfl, (aq_sm0 (c := c) (S := fun a => y ≤ a ∧ a < y + 24)), ?_, hI⟩
          have e3 : ab_a n bb 0 = po_ n (prt n bb) 9 0 := by unfold ab_a; rw [if_pos (by omega)]; rfl
          rw [e3]
          have e5 : po_ n (prt n bb) 9 0 = 1 := by omega
          rw [e5]
      · subst h
        refine am_E.go (t2 := (67, [vR y, vI n, vI bb, vI 1], [], aq_h m s F c)) rfl rfl ?_
        refine am_E.go (t2 := (68, [vR y, vI n, vI bb, vI 1], [vR y], aq_h m s F c)) rfl rfl ?_
        refine am_E.go (t2 := (69, [vR y, vI n, vI bb, vI 1], [vI n, vR y], aq_h m s F c)) rfl rfl ?_
        refine am_E.go (t2 := (70, [vR y, vI n, vI bb, vI 1], [vI bb, vI n, vR y], aq_h m s F c)) rfl rfl ?_
        refine aq_callv (y := 3) (as2 := [vI n, vI bb]) (rest := []) rfl rfl (by decide) (Nat.le_of_ble_eq_true rfl) rfl rfl (Nat.le_of_ble_eq_true rfl) (by omega) hFo rfl (Nat.le_of_ble_eq_true rfl) (qy_mthrough ⟨hm, hFo, hG5, hG6, hG7, hG8, hG9, hG10, hG11, hG12, hG13, hG14, hG15, hG16, hG17, hG18, hG19, hG20, hG21, hG22, hG23⟩ ⟨hT1, hTt⟩ (by omega) (by omega) (by omega) (by omega)) ?_
        rintro r5 h5 ⟨rfl, rfl⟩
        show am_E _ (73, [vR y, vI n, vI bb, vI 1], [vI (th_ n (prt n bb) 9 0 0)], aq_h m s F c) _
        refine am_E.ret rfl rfl ?_
        refine ⟨_, rfl, (aq_sm0 (c := c) (S := fun a => y ≤ a ∧ a < y + 24)), ?_, hI⟩
        have e3 : ab_a n bb 1 = th_ n (prt n bb) 9 0 0 := by unfold ab_a; rw [if_pos (by omega)]; rfl
        rw [e3]
      · subst h
        refine am_E.go (t2 := (74, [vR y, vI n, vI bb, vI 2], [], aq_h m s F c)) rfl rfl ?_
        refine am_E.go (t2 := (75, [vR y, vI n, vI bb, vI 2], [vR y], aq_h m s F c)) rfl rfl ?_
        refine am_E.go (t2 := (76, [vR y, vI n, vI bb, vI 2], [vI n, vR y], aq_h m s F c)) rfl rfl ?_
        refine am_E.go (t2 := (77, [vR y, vI n, vI bb, vI 2], [vI bb, vI n, vR y], aq_h m s F c)) rfl rfl ?_
        refine aq_callv (y := 3) (as2 := [vI n, vI bb]) (rest := []) rfl rfl (by decide) (Nat.le_of_ble_eq_true rfl) rfl rfl (Nat.le_of_ble_eq_true rfl) (by omega) hFo rfl (Nat.le_of_ble_eq_true rfl) (qy_mupside (S := fun a => a = y + 12) ⟨hm, hFo, hG5, hG6, hG7, hG8, hG9, hG10, hG11, hG12, hG13, hG14, hG15, hG16, hG17, hG18, hG19, hG20, hG21, hG22, hG23⟩ rfl ⟨hT1, hTt⟩ (by omega) (by omega) (by omega) (by omega)) ?_
        rintro r5 h5 ⟨c_b, rfl, s_b, rfl⟩
        show am_E _ (80, [vR y, vI n, vI bb, vI 2], [vI (ud_ n (prt n bb))], aq_h m s F c_b) _
        refine am_E.ret rfl rfl ?_
        refine ⟨_, rfl, (aq_smt (aq_sm0 (c := c) (S := fun a => y ≤ a ∧ a < y + 24)) (aq_smi s_b (fun a h => by omega))), ?_, mo_Is hI s_b (mo_ks mo_k0 s_b (by omega)) (by omega) (by omega) (by omega) (by omega) (by omega)⟩
        have e3 : ab_a n bb 2 = ud_ n (prt n bb) := by unfold ab_a; rw [if_pos (by omega)]; rfl
        rw [e3]
      · subst h
        refine am_E.go (t2 := (81, [vR y, vI n, vI bb, vI 3], [], aq_h m s F c)) rfl rfl ?_
        refine am_E.go (t2 := (82, [vR y, vI n, vI bb, vI 3], [vR y], aq_h m s F c)) rfl rfl ?_
        refine am_E.go (t2 := (83, [vR y, vI n, vI bb, vI 3], [vI n, vR y], aq_h m s F c)) rfl rfl ?_
        refine am_E.go (t2 := (84, [vR y, vI n, vI bb, vI 3], [vI bb, vI n, vR y], aq_h m s F c)) rfl rfl ?_
        refine aq_callv (y := 3) (as2 := [vI n, vI bb]) (rest := []) rfl rfl (by decide) (Nat.le_of_ble_eq_true rfl) rfl rfl (Nat.le_of_ble_eq_true rfl) (by omega) hFo rfl (Nat.le_of_ble_eq_true rfl) (qy_mrings (S := fun a => a = y + 13) ⟨hm, hFo, hG5, hG6, hG7, hG8, hG9, hG10, hG11, hG12, hG13, hG14, hG15, hG16, hG17, hG18, hG19, hG20, hG21, hG22, hG23⟩ rfl ⟨hT1, hTt⟩ (by omega) (by omega) (by omega) (by omega)) ?_
        rintro r5 h5 ⟨c_b, rfl, s_b, rfl⟩
        show am_E _ (87, [vR y, vI n, vI bb, vI 3], [vI (ry_ n (prt n bb) 6 0 0 (fun _ => 0))], aq_h m s F c_b) _
        refine am_E.ret rfl rfl ?_
        refine ⟨_, rfl, (aq_smt (aq_sm0 (c := c) (S := fun a => y ≤ a ∧ a < y + 24)) (aq_smi s_b (fun a h => by omega))), ?_, mo_Is hI s_b (mo_ks mo_k0 s_b (by omega)) (by omega) (by omega) (by omega) (by omega) (by omega)⟩
        have e3 : ab_a n bb 3 = rg_ n bb := by unfold ab_a; rw [if_pos (by omega)]; rfl
        rw [e3]
        rw [ry_e (by omega) (by omega) (by omega) (by omega)]
      · refine ae_swd rfl h ?_
        show am_E _ (88, [vR y, vI n, vI bb, vI w], [], aq_h m s F c) _
        refine am_E.go (t2 := (89, [vR y, vI n, vI bb, vI w], [vR y], aq_h m s F c)) rfl rfl ?_
        refine aq_gf (v := vR (y + 4)) rfl (by omega) hFo (by decide) rfl ?_
        show am_E _ (92, [vR y, vI n, vI bb, vI w], [vR (y + 4)], aq_h m s F c) _
        refine am_E.go (t2 := (93, [vR y, vI n, vI bb, vI w], [vI n, vR (y + 4)], aq_h m s F c)) rfl rfl ?_
        refine am_E.call rfl rfl rfl (Nat.le_of_ble_eq_true rfl) (qm_first) ?_
        rintro r5 h5 ⟨rfl, fr, rfl, hfr⟩
        show am_E _ (96, [vR y, vI n, vI bb, vI w], [vI fr, vR (y + 4)], aq_h m s F c) _
        refine am_E.go (t2 := (97, [vR y, vI n, vI bb, vI w], [vI bb, vI fr, vR (y + 4)], aq_h m s F c)) rfl rfl ?_
        refine ae_add rfl (am_ri (by omega) (by omega)) ?_
        show am_E _ (98, [vR y, vI n, vI bb, vI w], [vI (fr + bb), vR (y + 4)], aq_h m s F c) _
        refine aq_alt (ok := fun k => k == 0) rfl rfl (by omega) hL3 rfl (by omega) (by omega) ?_
        show am_E _ (99, [vR y, vI n, vI bb, vI w], [vI (tD (fr + bb))], aq_h m s F c) _
        have f_6 := (hLt n bb (by omega) (by omega) (by omega) (by omega)).2.2.2.2.1
        rw [← hfr] at f_6
        have eD := f_6
        refine am_E.ret rfl rfl ?_
        refine ⟨_, rfl, (aq_sm0 (c := c) (S := fun a => y ≤ a ∧ a < y + 24)), ?_, hI⟩
        have ew : w = 4 := by omega
        have e3 : ab_a n bb w = ln_ n bb := by rw [ew]; unfold ab_a; rw [if_pos (by omega)]; rfl
        rw [e3, eD]
    · refine am_E.go (t2 := (21, [vR y, vI n, vI bb, vI w], [vI (-1)], aq_h m s F c)) rfl rfl ?_
      refine am_E.ret rfl rfl ?_
      exact ⟨_, rfl, (aq_sm0 (c := c) (S := fun a => y ≤ a ∧ a < y + 24)), by unfold ab_a; (repeat' split) <;> first | rfl | (exfalso; omega), hI⟩
