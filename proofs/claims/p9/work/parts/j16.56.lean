
/-- along a strand and across -/
def rc_s (n b p : Int) : Int := if prt n b p < n then prt n b p + n else prt n b p - n
theorem rc_1 : ∀ b : Nat, b < 1 → ∀ p : Nat, p < 1 → rc_s 1 b p = p ∨ rc_s 1 b (rc_s 1 b p) = p ∨ rc_s 1 b (rc_s 1 b (rc_s 1 b p)) = p ∨ rc_s 1 b (rc_s 1 b (rc_s 1 b (rc_s 1 b p))) = p := by decide +kernel
theorem rc_2 : ∀ b : Nat, b < 3 → ∀ p : Nat, p < 2 → rc_s 2 b p = p ∨ rc_s 2 b (rc_s 2 b p) = p ∨ rc_s 2 b (rc_s 2 b (rc_s 2 b p)) = p ∨ rc_s 2 b (rc_s 2 b (rc_s 2 b (rc_s 2 b p))) = p := by decide +kernel
theorem rc_3 : ∀ b : Nat, b < 15 → ∀ p : Nat, p < 3 → rc_s 3 b p = p ∨ rc_s 3 b (rc_s 3 b p) = p ∨ rc_s 3 b (rc_s 3 b (rc_s 3 b p)) = p ∨ rc_s 3 b (rc_s 3 b (rc_s 3 b (rc_s 3 b p))) = p := by decide +kernel
theorem rc_4 : ∀ b : Nat, b < 105 → ∀ p : Nat, p < 4 → rc_s 4 b p = p ∨ rc_s 4 b (rc_s 4 b p) = p ∨ rc_s 4 b (rc_s 4 b (rc_s 4 b p)) = p ∨ rc_s 4 b (rc_s 4 b (rc_s 4 b (rc_s 4 b p))) = p := by decide +kernel
theorem rc_n {n b p : Int} (h1 : 1 ≤ n) (h4 : n ≤ 4) (h0 : 0 ≤ b) (hb : b < bx_K n) (hp : 0 ≤ p) (hq : p < n) : rc_s n b p = p ∨ rc_s n b (rc_s n b p) = p ∨ rc_s n b (rc_s n b (rc_s n b p)) = p ∨ rc_s n b (rc_s n b (rc_s n b (rc_s n b p))) = p := by
  have h : n = 1 ∨ n = 2 ∨ n = 3 ∨ n = 4 := by omega
  have eb : ((b.toNat : Nat) : Int) = b := Int.toNat_of_nonneg h0
  have ep : ((p.toNat : Nat) : Int) = p := Int.toNat_of_nonneg hp
  rcases h with h | h | h | h <;> subst h
  · have hk : bx_K 1 = 1 := rfl
    have := rc_1 b.toNat (by omega) p.toNat (by omega)
    rw [eb, ep] at this
    exact this
  · have hk : bx_K 2 = 3 := rfl
    have := rc_2 b.toNat (by omega) p.toNat (by omega)
    rw [eb, ep] at this
    exact this
  · have hk : bx_K 3 = 15 := rfl
    have := rc_3 b.toNat (by omega) p.toNat (by omega)
    rw [eb, ep] at this
    exact this
  · have hk : bx_K 4 = 105 := rfl
    have := rc_4 b.toNat (by omega) p.toNat (by omega)
    rw [eb, ep] at this
    exact this

/-- from p back to m in so many steps -/
def rc_d (n b m : Int) : Nat → Int → Prop
  | 0, _ => False
  | d + 1, p => rc_s n b p ≠ m → rc_d n b m d (rc_s n b p)
theorem rc_dn {n b m : Int} (h : rc_s n b m = m ∨ rc_s n b (rc_s n b m) = m ∨ rc_s n b (rc_s n b (rc_s n b m)) = m ∨ rc_s n b (rc_s n b (rc_s n b (rc_s n b m))) = m) : rc_d n b m 4 m := by
  intro h1
  intro h2
  intro h3
  intro h4
  rcases h with h | h | h | h
  · exact h1 h
  · exact h2 h
  · exact h3 h
  · exact h4 h

theorem qm_rings_3 {m s : Nat} {F : aq_F} {c0 : aq_C} {S : Nat → Prop} {y : Nat} (hO : mo_0 m F y) (hS13 : S (y + 13)) {tbl : Int → Int} (hT : mo_T F y tbl) {n bb : Int} (hn1 : 1 ≤ n) (hn4 : n ≤ 4) (hb0 : 0 ≤ bb) (hb1 : bb < bx_K n) {xa : Int} (hxa : xa = 8 * (mo_f n + bb)) : ∀ (d : Nat) (x : Int) (k : Int) (p : Int) (v8 : am_V) (c : aq_C) (hs : aq_sm S c0 c) (h0 : 0 ≤ p) (h1 : p < 2 * n) (he : rc_d n bb k d p) (K0 : ∀ (p2 : Int) (v82 : am_V) (c2 : aq_C) (hs2 : aq_sm S c0 c2), am_E ac_X5_ringsClosed (133, [vR y, vI n, vI bb, vI xa, vI x, vI k, vI p2, vI 0, v82], [], aq_h m s F c2) (aq_Z m s F S c0 (fun r d => ∃ v, r = some (vI v) ∧ 0 ≤ v ∧ v ≤ n))), am_E ac_X5_ringsClosed (61, [vR y, vI n, vI bb, vI xa, vI x, vI k, vI p, vI 1, v8], [], aq_h m s F c) (aq_Z m s F S c0 (fun r d => ∃ v, r = some (vI v) ∧ 0 ≤ v ∧ v ≤ n))
  | 0, x, k, p, v8, c, hs, h0, h1, he, K0 => he.elim
  | d + 1, x, k, p, v8, c, hs, h0, h1, he, K0 => by
    obtain ⟨hm, hFo, hG5, hG6, hG7, hG8, hG9, hG10, hG11, hG12, hG13, hG14, hG15, hG16, hG17, hG18, hG19, hG20, hG21, hG22, hG23⟩ := hO
    obtain ⟨hT1, hTt⟩ := hT
    have hfs := mo_fs n
    have hfi := pr_fi hn1 hn4 hb0 hb1
    refine am_E.go (t2 := (63, [vR y, vI n, vI bb, vI xa, vI x, vI k, vI p, vI 1, v8], [vI 1], aq_h m s F c)) rfl rfl ?_
    refine am_E.go (t2 := (66, [vR y, vI n, vI bb, vI xa, vI x, vI k, vI p, vI 1, v8], [], aq_h m s F c)) rfl rfl ?_
    refine am_E.go (t2 := (67, [vR y, vI n, vI bb, vI xa, vI x, vI k, vI p, vI 1, v8], [vR y], aq_h m s F c)) rfl rfl ?_
    refine aq_gf (v := vR (y + 13)) rfl (by omega) hFo (by decide) rfl ?_
    show am_E _ (70, [vR y, vI n, vI bb, vI xa, vI x, vI k, vI p, vI 1, v8], [vR (y + 13)], aq_h m s F c) _
    refine am_E.go (t2 := (72, [vR y, vI n, vI bb, vI xa, vI x, vI k, vI p, vI 1, v8], [vI p, vR (y + 13)], aq_h m s F c)) rfl rfl ?_
    refine am_E.go (t2 := (73, [vR y, vI n, vI bb, vI xa, vI x, vI k, vI p, vI 1, v8], [vI n, vI p, vR (y + 13)], aq_h m s F c)) rfl rfl ?_
    have g_1a := Int.emod_nonneg p (show n ≠ 0 by omega)
    have g_1b := Int.emod_lt_of_pos p (show 0 < n by omega)
    refine ae_bin (z := p % n) rfl rfl (am_rem_e (by omega) (by omega)) ?_
    generalize p % n = g_1 at g_1a g_1b ⊢
    refine am_E.go (t2 := (75, [vR y, vI n, vI bb, vI xa, vI x, vI k, vI p, vI 1, v8], [vI 1, vI g_1, vR (y + 13)], aq_h m s F c)) rfl rfl ?_
    refine aq_as (kd := 1) rfl rfl (by omega) hG13 (by omega) (by omega) rfl rfl ?_
    show am_E _ (76, [vR y, vI n, vI bb, vI xa, vI x, vI k, vI p, vI 1, v8], [], aq_h m s F (aq_u c (y + 13) g_1 1)) _
    generalize hdc_2 : aq_u c (y + 13) g_1 1 = c_2
    have sc_2 := aq_smu hs hdc_2 (hS13)
    refine am_E.go (t2 := (77, [vR y, vI n, vI bb, vI xa, vI x, vI k, vI p, vI 1, v8], [vR y], aq_h m s F c_2)) rfl rfl ?_
    refine aq_gf (v := vR (y + 1)) rfl (by omega) hFo (by decide) rfl ?_
    show am_E _ (80, [vR y, vI n, vI bb, vI xa, vI x, vI k, vI p, vI 1, v8], [vR (y + 1)], aq_h m s F c_2) _
    refine am_E.go (t2 := (81, [vR y, vI n, vI bb, vI xa, vI x, vI k, vI p, vI 1, v8], [vI xa, vR (y + 1)], aq_h m s F c_2)) rfl rfl ?_
    refine am_E.go (t2 := (83, [vR y, vI n, vI bb, vI xa, vI x, vI k, vI p, vI 1, v8], [vI p, vI xa, vR (y + 1)], aq_h m s F c_2)) rfl rfl ?_
    refine ae_add rfl (am_ri (by omega) (by omega)) ?_
    show am_E _ (84, [vR y, vI n, vI bb, vI xa, vI x, vI k, vI p, vI 1, v8], [vI (xa + p), vR (y + 1)], aq_h m s F c_2) _
    have e_t0 := hTt n bb p (by omega) (by omega) (by omega) (by omega) (by omega) (by omega)
    have e_f0 := hfi p (by omega) (by omega)
    refine aq_alt (ok := fun k => k == 0) rfl rfl (by omega) hT1 rfl (by omega) (by omega) ?_
    rw [hxa, e_t0, ← hxa]
    show am_E _ (85, [vR y, vI n, vI bb, vI xa, vI x, vI k, vI p, vI 1, v8], [vI (prt n bb p)], aq_h m s F c_2) _
    refine am_E.go (t2 := (87, [vR y, vI n, vI bb, vI xa, vI x, vI k, vI p, vI 1, vI (prt n bb p)], [], aq_h m s F c_2)) rfl rfl ?_
    refine am_E.go (t2 := (88, [vR y, vI n, vI bb, vI xa, vI x, vI k, vI p, vI 1, vI (prt n bb p)], [vR y], aq_h m s F c_2)) rfl rfl ?_
    refine aq_gf (v := vR (y + 13)) rfl (by omega) hFo (by decide) rfl ?_
    show am_E _ (91, [vR y, vI n, vI bb, vI xa, vI x, vI k, vI p, vI 1, vI (prt n bb p)], [vR (y + 13)], aq_h m s F c_2) _
    refine am_E.go (t2 := (93, [vR y, vI n, vI bb, vI xa, vI x, vI k, vI p, vI 1, vI (prt n bb p)], [vI (prt n bb p), vR (y + 13)], aq_h m s F c_2)) rfl rfl ?_
    refine am_E.go (t2 := (94, [vR y, vI n, vI bb, vI xa, vI x, vI k, vI p, vI 1, vI (prt n bb p)], [vI n, vI (prt n bb p), vR (y + 13)], aq_h m s F c_2)) rfl rfl ?_
    have g_3a := Int.emod_nonneg (prt n bb p) (show n ≠ 0 by omega)
    have g_3b := Int.emod_lt_of_pos (prt n bb p) (show 0 < n by omega)
    refine ae_bin (z := (prt n bb p) % n) rfl rfl (am_rem_e (by omega) (by omega)) ?_
    generalize (prt n bb p) % n = g_3 at g_3a g_3b ⊢
    refine am_E.go (t2 := (96, [vR y, vI n, vI bb, vI xa, vI x, vI k, vI p, vI 1, vI (prt n bb p)], [vI 1, vI g_3, vR (y + 13)], aq_h m s F c_2)) rfl rfl ?_
    refine aq_as (kd := 1) rfl rfl (by omega) hG13 (by omega) (by omega) rfl rfl ?_
    show am_E _ (97, [vR y, vI n, vI bb, vI xa, vI x, vI k, vI p, vI 1, vI (prt n bb p)], [], aq_h m s F (aq_u c_2 (y + 13) g_3 1)) _
    generalize hdc_4 : aq_u c_2 (y + 13) g_3 1 = c_4
    have sc_4 := aq_smu sc_2 hdc_4 (hS13)
    refine am_E.go (t2 := (99, [vR y, vI n, vI bb, vI xa, vI x, vI k, vI p, vI 1, vI (prt n bb p)], [vI (prt n bb p)], aq_h m s F c_4)) rfl rfl ?_
    refine am_E.go (t2 := (100, [vR y, vI n, vI bb, vI xa, vI x, vI k, vI p, vI 1, vI (prt n bb p)], [vI n, vI (prt n bb p)], aq_h m s F c_4)) rfl rfl ?_
    refine ae_icmp rfl (fun (q_5 : n ≤ (prt n bb p)) => ?_) (fun (q_5 : (prt n bb p) < n) => ?_)
    · refine am_E.go (t2 := (112, [vR y, vI n, vI bb, vI xa, vI x, vI k, vI p, vI 1, vI (prt n bb p)], [vI (prt n bb p)], aq_h m s F c_4)) rfl rfl ?_
      refine am_E.go (t2 := (113, [vR y, vI n, vI bb, vI xa, vI x, vI k, vI p, vI 1, vI (prt n bb p)], [vI n, vI (prt n bb p)], aq_h m s F c_4)) rfl rfl ?_
      refine ae_sub rfl (am_ri (by omega) (by omega)) ?_
      show am_E _ (114, [vR y, vI n, vI bb, vI xa, vI x, vI k, vI p, vI 1, vI (prt n bb p)], [vI ((prt n bb p) - n)], aq_h m s F c_4) _
      refine am_E.go (t2 := (116, [vR y, vI n, vI bb, vI xa, vI x, vI k, vI ((prt n bb p) - n), vI 1, vI (prt n bb p)], [], aq_h m s F c_4)) rfl rfl ?_
      refine am_E.go (t2 := (118, [vR y, vI n, vI bb, vI xa, vI x, vI k, vI ((prt n bb p) - n), vI 1, vI (prt n bb p)], [vI ((prt n bb p) - n)], aq_h m s F c_4)) rfl rfl ?_
      refine am_E.go (t2 := (120, [vR y, vI n, vI bb, vI xa, vI x, vI k, vI ((prt n bb p) - n), vI 1, vI (prt n bb p)], [vI k, vI ((prt n bb p) - n)], aq_h m s F c_4)) rfl rfl ?_
      refine ae_icmp rfl (fun (q_6 : ((prt n bb p) - n) = k) => ?_) (fun (q_6 : ((prt n bb p) - n) ≠ k) => ?_)
      · refine am_E.go (t2 := (128, [vR y, vI n, vI bb, vI xa, vI x, vI k, vI ((prt n bb p) - n), vI 1, vI (prt n bb p)], [vI 0], aq_h m s F c_4)) rfl rfl ?_
        refine am_E.go (t2 := (130, [vR y, vI n, vI bb, vI xa, vI x, vI k, vI ((prt n bb p) - n), vI 0, vI (prt n bb p)], [], aq_h m s F c_4)) rfl rfl ?_
        refine am_E.go (t2 := (61, [vR y, vI n, vI bb, vI xa, vI x, vI k, vI ((prt n bb p) - n), vI 0, vI (prt n bb p)], [], aq_h m s F c_4)) rfl rfl ?_
        refine am_E.go (t2 := (63, [vR y, vI n, vI bb, vI xa, vI x, vI k, vI ((prt n bb p) - n), vI 0, vI (prt n bb p)], [vI 0], aq_h m s F c_4)) rfl rfl ?_
        refine am_E.go (t2 := (133, [vR y, vI n, vI bb, vI xa, vI x, vI k, vI ((prt n bb p) - n), vI 0, vI (prt n bb p)], [], aq_h m s F c_4)) rfl rfl ?_
        exact K0 ((prt n bb p) - n) (vI (prt n bb p)) c_4 sc_4
      · refine am_E.go (t2 := (124, [vR y, vI n, vI bb, vI xa, vI x, vI k, vI ((prt n bb p) - n), vI 1, vI (prt n bb p)], [vI 1], aq_h m s F c_4)) rfl rfl ?_
        refine am_E.go (t2 := (128, [vR y, vI n, vI bb, vI xa, vI x, vI k, vI ((prt n bb p) - n), vI 1, vI (prt n bb p)], [vI 1], aq_h m s F c_4)) rfl rfl ?_
        refine am_E.go (t2 := (130, [vR y, vI n, vI bb, vI xa, vI x, vI k, vI ((prt n bb p) - n), vI 1, vI (prt n bb p)], [], aq_h m s F c_4)) rfl rfl ?_
        refine am_E.go (t2 := (61, [vR y, vI n, vI bb, vI xa, vI x, vI k, vI ((prt n bb p) - n), vI 1, vI (prt n bb p)], [], aq_h m s F c_4)) rfl rfl ?_
        exact qm_rings_3 ⟨hm, hFo, hG5, hG6, hG7, hG8, hG9, hG10, hG11, hG12, hG13, hG14, hG15, hG16, hG17, hG18, hG19, hG20, hG21, hG22, hG23⟩ hS13 ⟨hT1, hTt⟩ hn1 hn4 hb0 hb1 hxa d x k ((prt n bb p) - n) (vI (prt n bb p)) c_4 sc_4 (by omega) (by omega) (by have e9 := he (by unfold rc_s; first | (rw [if_pos (by omega)]; omega) | (rw [if_neg (by omega)]; omega)); unfold rc_s at e9; first | (rw [if_pos (by omega)] at e9; exact e9) | (rw [if_neg (by omega)] at e9; exact e9)) K0
    · refine am_E.go (t2 := (105, [vR y, vI n, vI bb, vI xa, vI x, vI k, vI p, vI 1, vI (prt n bb p)], [vI (prt n bb p)], aq_h m s F c_4)) rfl rfl ?_
      refine am_E.go (t2 := (106, [vR y, vI n, vI bb, vI xa, vI x, vI k, vI p, vI 1, vI (prt n bb p)], [vI n, vI (prt n bb p)], aq_h m s F c_4)) rfl rfl ?_
      refine ae_add rfl (am_ri (by omega) (by omega)) ?_
      show am_E _ (107, [vR y, vI n, vI bb, vI xa, vI x, vI k, vI p, vI 1, vI (prt n bb p)], [vI ((prt n bb p) + n)], aq_h m s F c_4) _
      refine am_E.go (t2 := (114, [vR y, vI n, vI bb, vI xa, vI x, vI k, vI p, vI 1, vI (prt n bb p)], [vI ((prt n bb p) + n)], aq_h m s F c_4)) rfl rfl ?_
      refine am_E.go (t2 := (116, [vR y, vI n, vI bb, vI xa, vI x, vI k, vI ((prt n bb p) + n), vI 1, vI (prt n bb p)], [], aq_h m s F c_4)) rfl rfl ?_
      refine am_E.go (t2 := (118, [vR y, vI n, vI bb, vI xa, vI x, vI k, vI ((prt n bb p) + n), vI 1, vI (prt n bb p)], [vI ((prt n bb p) + n)], aq_h m s F c_4)) rfl rfl ?_
      refine am_E.go (t2 := (120, [vR y, vI n, vI bb, vI xa, vI x, vI k, vI ((prt n bb p) + n), vI 1, vI (prt n bb p)], [vI k, vI ((prt n bb p) + n)], aq_h m s F c_4)) rfl rfl ?_
      refine ae_icmp rfl (fun (q_7 : ((prt n bb p) + n) = k) => ?_) (fun (q_7 : ((prt n bb p) + n) ≠ k) => ?_)
      · refine am_E.go (t2 := (128, [vR y, vI n, vI bb, vI xa, vI x, vI k, vI ((prt n bb p) + n), vI 1, vI (prt n bb p)], [vI 0], aq_h m s F c_4)) rfl rfl ?_
        refine am_E.go (t2 := (130, [vR y, vI n, vI bb, vI xa, vI x, vI k, vI ((prt n bb p) + n), vI 0, vI (prt n bb p)], [], aq_h m s F c_4)) rfl rfl ?_
        refine am_E.go (t2 := (61, [vR y, vI n, vI bb, vI xa, vI x, vI k, vI ((prt n bb p) + n), vI 0, vI (prt n bb p)], [], aq_h m s F c_4)) rfl rfl ?_
        refine am_E.go (t2 := (63, [vR y, vI n, vI bb, vI xa, vI x, vI k, vI ((prt n bb p) + n), vI 0, vI (prt n bb p)], [vI 0], aq_h m s F c_4)) rfl rfl ?_
        refine am_E.go (t2 := (133, [vR y, vI n, vI bb, vI xa, vI x, vI k, vI ((prt n bb p) + n), vI 0, vI (prt n bb p)], [], aq_h m s F c_4)) rfl rfl ?_
        exact K0 ((prt n bb p) + n) (vI (prt n bb p)) c_4 sc_4
      · refine am_E.go (t2 := (124, [vR y, vI n, vI bb, vI xa, vI x, vI k, vI ((prt n bb p) + n), vI 1, vI (prt n bb p)], [vI 1], aq_h m s F c_4)) rfl rfl ?_
        refine am_E.go (t2 := (128, [vR y, vI n, vI bb, vI xa, vI x, vI k, vI ((prt n bb p) + n), vI 1, vI (prt n bb p)], [vI 1], aq_h m s F c_4)) rfl rfl ?_
        refine am_E.go (t2 := (130, [vR y, vI n, vI bb, vI xa, vI x, vI k, vI ((prt n bb p) + n), vI 1, vI (prt n bb p)], [], aq_h m s F c_4)) rfl rfl ?_
        refine am_E.go (t2 := (61, [vR y, vI n, vI bb, vI xa, vI x, vI k, vI ((prt n bb p) + n), vI 1, vI (prt n bb p)], [], aq_h m s F c_4)) rfl rfl ?_
        exact qm_rings_3 ⟨hm, hFo, hG5, hG6, hG7, hG8, hG9, hG10, hG11, hG12, hG13, hG14, hG15, hG16, hG17, hG18, hG19, hG20, hG21, hG22, hG23⟩ hS13 ⟨hT1, hTt⟩ hn1 hn4 hb0 hb1 hxa d x k ((prt n bb p) + n) (vI (prt n bb p)) c_4 sc_4 (by omega) (by omega) (by have e9 := he (by unfold rc_s; first | (rw [if_pos (by omega)]; omega) | (rw [if_neg (by omega)]; omega)); unfold rc_s at e9; first | (rw [if_pos (by omega)] at e9; exact e9) | (rw [if_neg (by omega)] at e9; exact e9)) K0

theorem qm_rings_2 {m s : Nat} {F : aq_F} {c0 : aq_C} {S : Nat → Prop} {y : Nat} (hO : mo_0 m F y) (hS13 : S (y + 13)) {tbl : Int → Int} (hT : mo_T F y tbl) {n bb : Int} (hn1 : 1 ≤ n) (hn4 : n ≤ 4) (hb0 : 0 ≤ bb) (hb1 : bb < bx_K n) {xa : Int} (hxa : xa = 8 * (mo_f n + bb)) : ∀ (d : Nat) (x : Int) (k : Int) (v6 : am_V) (v7 : am_V) (v8 : am_V) (c : aq_C) (hs : aq_sm S c0 c) (h0 : 0 ≤ k) (h1 : k ≤ n) (h2 : 0 ≤ x) (h3 : x ≤ k) (hd : n - k < (d : Int)), am_E ac_X5_ringsClosed (35, [vR y, vI n, vI bb, vI xa, vI x, vI k, v6, v7, v8], [], aq_h m s F c) (aq_Z m s F S c0 (fun r d => ∃ v, r = some (vI v) ∧ 0 ≤ v ∧ v ≤ n))
  | 0, x, k, v6, v7, v8, c, hs, h0, h1, h2, h3, hd => by exfalso; omega
  | d + 1, x, k, v6, v7, v8, c, hs, h0, h1, h2, h3, hd => by
    obtain ⟨hm, hFo, hG5, hG6, hG7, hG8, hG9, hG10, hG11, hG12, hG13, hG14, hG15, hG16, hG17, hG18, hG19, hG20, hG21, hG22, hG23⟩ := hO
    obtain ⟨hT1, hTt⟩ := hT
    have hfs := mo_fs n
    have hfi := pr_fi hn1 hn4 hb0 hb1
    refine am_E.go (t2 := (37, [vR y, vI n, vI bb, vI xa, vI x, vI k, v6, v7, v8], [vI k], aq_h m s F c)) rfl rfl ?_
    refine am_E.go (t2 := (38, [vR y, vI n, vI bb, vI xa, vI x, vI k, v6, v7, v8], [vI n, vI k], aq_h m s F c)) rfl rfl ?_
    refine ae_icmp rfl (fun (q_1 : n ≤ k) => ?_) (fun (q_1 : k < n) => ?_)
    · refine am_E.go (t2 := (141, [vR y, vI n, vI bb, vI xa, vI x, vI k, v6, v7, v8], [vI x], aq_h m s F c)) rfl rfl ?_
      refine am_E.ret rfl rfl ?_
      exact ⟨_, rfl, hs, _, rfl, by omega, by omega⟩
    · refine am_E.go (t2 := (42, [vR y, vI n, vI bb, vI xa, vI x, vI k, v6, v7, v8], [vR y], aq_h m s F c)) rfl rfl ?_
      refine aq_gf (v := vR (y + 13)) rfl (by omega) hFo (by decide) rfl ?_
      show am_E _ (45, [vR y, vI n, vI bb, vI xa, vI x, vI k, v6, v7, v8], [vR (y + 13)], aq_h m s F c) _
      refine am_E.go (t2 := (47, [vR y, vI n, vI bb, vI xa, vI x, vI k, v6, v7, v8], [vI k, vR (y + 13)], aq_h m s F c)) rfl rfl ?_
      refine aq_al (ok := fun k => k == 1) (v := vI (c (y + 13) k)) rfl rfl (by omega) hG13 rfl (by omega) (by omega) rfl ?_
      show am_E _ (48, [vR y, vI n, vI bb, vI xa, vI x, vI k, v6, v7, v8], [vI (c (y + 13) k)], aq_h m s F c) _
      refine ae_if0 rfl (fun (q_2 : (c (y + 13) k) ≠ 0) => ?_) (fun (q_2 : (c (y + 13) k) = 0) => ?_)
      · refine ae_iinc rfl rfl (am_ri (by omega) (by omega)) ?_
        show am_E _ (136, [vR y, vI n, vI bb, vI xa, vI x, vI (k + 1), v6, v7, v8], [], aq_h m s F c) _
        refine am_E.go (t2 := (35, [vR y, vI n, vI bb, vI xa, vI x, vI (k + 1), v6, v7, v8], [], aq_h m s F c)) rfl rfl ?_
        exact qm_rings_2 ⟨hm, hFo, hG5, hG6, hG7, hG8, hG9, hG10, hG11, hG12, hG13, hG14, hG15, hG16, hG17, hG18, hG19, hG20, hG21, hG22, hG23⟩ hS13 ⟨hT1, hTt⟩ hn1 hn4 hb0 hb1 hxa d x (k + 1) (v6) (v7) (v8) c hs (by omega) (by omega) (by omega) (by omega) (by omega)
      · refine ae_iinc rfl rfl (am_ri (by omega) (by omega)) ?_
        show am_E _ (54, [vR y, vI n, vI bb, vI xa, vI (x + 1), vI k, v6, v7, v8], [], aq_h m s F c) _
        refine am_E.go (t2 := (56, [vR y, vI n, vI bb, vI xa, vI (x + 1), vI k, v6, v7, v8], [vI k], aq_h m s F c)) rfl rfl ?_
        refine am_E.go (t2 := (58, [vR y, vI n, vI bb, vI xa, vI (x + 1), vI k, vI k, v7, v8], [], aq_h m s F c)) rfl rfl ?_
        refine am_E.go (t2 := (59, [vR y, vI n, vI bb, vI xa, vI (x + 1), vI k, vI k, v7, v8], [vI 1], aq_h m s F c)) rfl rfl ?_
        refine am_E.go (t2 := (61, [vR y, vI n, vI bb, vI xa, vI (x + 1), vI k, vI k, vI 1, v8], [], aq_h m s F c)) rfl rfl ?_
        refine qm_rings_3 ⟨hm, hFo, hG5, hG6, hG7, hG8, hG9, hG10, hG11, hG12, hG13, hG14, hG15, hG16, hG17, hG18, hG19, hG20, hG21, hG22, hG23⟩ hS13 ⟨hT1, hTt⟩ hn1 hn4 hb0 hb1 hxa 4 (x + 1) k k (v8) c hs (by omega) (by omega) (rc_dn (rc_n hn1 hn4 hb0 hb1 h0 (by omega))) ?_
        · intro p2_61 v82_61 c_3 sc_3
          refine ae_iinc rfl rfl (am_ri (by omega) (by omega)) ?_
          show am_E _ (136, [vR y, vI n, vI bb, vI xa, vI (x + 1), vI (k + 1), vI p2_61, vI 0, v82_61], [], aq_h m s F c_3) _
          refine am_E.go (t2 := (35, [vR y, vI n, vI bb, vI xa, vI (x + 1), vI (k + 1), vI p2_61, vI 0, v82_61], [], aq_h m s F c_3)) rfl rfl ?_
          exact qm_rings_2 ⟨hm, hFo, hG5, hG6, hG7, hG8, hG9, hG10, hG11, hG12, hG13, hG14, hG15, hG16, hG17, hG18, hG19, hG20, hG21, hG22, hG23⟩ hS13 ⟨hT1, hTt⟩ hn1 hn4 hb0 hb1 hxa d (x + 1) (k + 1) (vI p2_61) (vI 0) (v82_61) c_3 sc_3 (by omega) (by omega) (by omega) (by omega) (by omega)

theorem qm_rings_1 {m s : Nat} {F : aq_F} {c0 : aq_C} {S : Nat → Prop} {y : Nat} (hO : mo_0 m F y) (hS13 : S (y + 13)) {tbl : Int → Int} (hT : mo_T F y tbl) {n bb : Int} (hn1 : 1 ≤ n) (hn4 : n ≤ 4) (hb0 : 0 ≤ bb) (hb1 : bb < bx_K n) {xa : Int} (hxa : xa = 8 * (mo_f n + bb)) : ∀ (d : Nat) (k : Int) (v5 : am_V) (v6 : am_V) (v7 : am_V) (v8 : am_V) (c : aq_C) (hs : aq_sm S c0 c) (h0 : 0 ≤ k) (h1 : k ≤ 4) (hd : 4 - k < (d : Int)), am_E ac_X5_ringsClosed (9, [vR y, vI n, vI bb, vI xa, vI k, v5, v6, v7, v8], [], aq_h m s F c) (aq_Z m s F S c0 (fun r d => ∃ v, r = some (vI v) ∧ 0 ≤ v ∧ v ≤ n))
  | 0, k, v5, v6, v7, v8, c, hs, h0, h1, hd => by exfalso; omega
  | d + 1, k, v5, v6, v7, v8, c, hs, h0, h1, hd => by
    obtain ⟨hm, hFo, hG5, hG6, hG7, hG8, hG9, hG10, hG11, hG12, hG13, hG14, hG15, hG16, hG17, hG18, hG19, hG20, hG21, hG22, hG23⟩ := hO
    obtain ⟨hT1, hTt⟩ := hT
    have hfs := mo_fs n
    have hfi := pr_fi hn1 hn4 hb0 hb1
    refine am_E.go (t2 := (11, [vR y, vI n, vI bb, vI xa, vI k, v5, v6, v7, v8], [vI k], aq_h m s F c)) rfl rfl ?_
    refine am_E.go (t2 := (12, [vR y, vI n, vI bb, vI xa, vI k, v5, v6, v7, v8], [vI 4, vI k], aq_h m s F c)) rfl rfl ?_
    refine ae_icmp rfl (fun (q_1 : 4 ≤ k) => ?_) (fun (q_1 : k < 4) => ?_)
    · refine am_E.go (t2 := (30, [vR y, vI n, vI bb, vI xa, vI k, v5, v6, v7, v8], [vI 0], aq_h m s F c)) rfl rfl ?_
      refine am_E.go (t2 := (32, [vR y, vI n, vI bb, vI xa, vI 0, v5, v6, v7, v8], [], aq_h m s F c)) rfl rfl ?_
      refine am_E.go (t2 := (33, [vR y, vI n, vI bb, vI xa, vI 0, v5, v6, v7, v8], [vI 0], aq_h m s F c)) rfl rfl ?_
      refine am_E.go (t2 := (35, [vR y, vI n, vI bb, vI xa, vI 0, vI 0, v6, v7, v8], [], aq_h m s F c)) rfl rfl ?_
      exact qm_rings_2 ⟨hm, hFo, hG5, hG6, hG7, hG8, hG9, hG10, hG11, hG12, hG13, hG14, hG15, hG16, hG17, hG18, hG19, hG20, hG21, hG22, hG23⟩ hS13 ⟨hT1, hTt⟩ hn1 hn4 hb0 hb1 hxa 6 0 0 (v6) (v7) (v8) c hs (by omega) (by omega) (by omega) (by omega) (by omega)
    · refine am_E.go (t2 := (16, [vR y, vI n, vI bb, vI xa, vI k, v5, v6, v7, v8], [vR y], aq_h m s F c)) rfl rfl ?_
      refine aq_gf (v := vR (y + 13)) rfl (by omega) hFo (by decide) rfl ?_
      show am_E _ (19, [vR y, vI n, vI bb, vI xa, vI k, v5, v6, v7, v8], [vR (y + 13)], aq_h m s F c) _
      refine am_E.go (t2 := (21, [vR y, vI n, vI bb, vI xa, vI k, v5, v6, v7, v8], [vI k, vR (y + 13)], aq_h m s F c)) rfl rfl ?_
      refine am_E.go (t2 := (22, [vR y, vI n, vI bb, vI xa, vI k, v5, v6, v7, v8], [vI 0, vI k, vR (y + 13)], aq_h m s F c)) rfl rfl ?_
      refine aq_as (kd := 1) rfl rfl (by omega) hG13 (by omega) (by omega) rfl rfl ?_
      show am_E _ (23, [vR y, vI n, vI bb, vI xa, vI k, v5, v6, v7, v8], [], aq_h m s F (aq_u c (y + 13) k 0)) _
      generalize hdc_2 : aq_u c (y + 13) k 0 = c_2
      have sc_2 := aq_smu hs hdc_2 (hS13)
      refine ae_iinc rfl rfl (am_ri (by omega) (by omega)) ?_
      show am_E _ (26, [vR y, vI n, vI bb, vI xa, vI (k + 1), v5, v6, v7, v8], [], aq_h m s F c_2) _
      refine am_E.go (t2 := (9, [vR y, vI n, vI bb, vI xa, vI (k + 1), v5, v6, v7, v8], [], aq_h m s F c_2)) rfl rfl ?_
      exact qm_rings_1 ⟨hm, hFo, hG5, hG6, hG7, hG8, hG9, hG10, hG11, hG12, hG13, hG14, hG15, hG16, hG17, hG18, hG19, hG20, hG21, hG22, hG23⟩ hS13 ⟨hT1, hTt⟩ hn1 hn4 hb0 hb1 hxa d (k + 1) (v5) (v6) (v7) (v8) c_2 sc_2 (by omega) (by omega) (by omega)

theorem qm_rings {m s : Nat} {F : aq_F} {c : aq_C} {S : Nat → Prop} {y : Nat} (hO : mo_0 m F y) (hS13 : S (y + 13)) {tbl : Int → Int} (hT : mo_T F y tbl) {n bb : Int} (hn1 : 1 ≤ n) (hn4 : n ≤ 4) (hb0 : 0 ≤ bb) (hb1 : bb < bx_K n) : am_E ac_X5_ringsClosed (0, [vR y, vI n, vI bb, vU, vU, vU, vU, vU, vU], [], aq_h m s F c) (aq_Z m s F S c (fun r d => ∃ v, r = some (vI v) ∧ 0 ≤ v ∧ v ≤ n)) := by
  obtain ⟨hm, hFo, hG5, hG6, hG7, hG8, hG9, hG10, hG11, hG12, hG13, hG14, hG15, hG16, hG17, hG18, hG19, hG20, hG21, hG22, hG23⟩ := hO
  obtain ⟨hT1, hTt⟩ := hT
  have hfs := mo_fs n
  have hfi := pr_fi hn1 hn4 hb0 hb1
  refine am_E.go (t2 := (1, [vR y, vI n, vI bb, vU, vU, vU, vU, vU, vU], [vI n], aq_h m s F c)) rfl rfl ?_
  refine am_E.go (t2 := (2, [vR y, vI n, vI bb, vU, vU, vU, vU, vU, vU], [vI bb, vI n], aq_h m s F c)) rfl rfl ?_
  refine am_E.call rfl rfl rfl (Nat.le_of_ble_eq_true rfl) (qm_at (by omega) (by omega)) ?_
  rintro r5 h5 ⟨rfl, xa, rfl, hxa⟩
  show am_E _ (5, [vR y, vI n, vI bb, vU, vU, vU, vU, vU, vU], [vI xa], aq_h m s F c) _
  refine am_E.go (t2 := (6, [vR y, vI n, vI bb, vI xa, vU, vU, vU, vU, vU], [], aq_h m s F c)) rfl rfl ?_
  refine am_E.go (t2 := (7, [vR y, vI n, vI bb, vI xa, vU, vU, vU, vU, vU], [vI 0], aq_h m s F c)) rfl rfl ?_
  refine am_E.go (t2 := (9, [vR y, vI n, vI bb, vI xa, vI 0, vU, vU, vU, vU], [], aq_h m s F c)) rfl rfl ?_
  exact qm_rings_1 ⟨hm, hFo, hG5, hG6, hG7, hG8, hG9, hG10, hG11, hG12, hG13, hG14, hG15, hG16, hG17, hG18, hG19, hG20, hG21, hG22, hG23⟩ hS13 ⟨hT1, hTt⟩ hn1 hn4 hb0 hb1 hxa 6 0 (vU) (vU) (vU) (vU) c aq_sm0 (by omega) (by omega) (by omega)

/-- a plain box's pairing -/
def mo_pl (n l i : Int) : Int := if l = 0 then (if i < n then n + i else i - n) else if l < 10 then (if i = n + l then n + l - 1 else if i = n + l - 1 then n + l else if i = l then l - 1 else if i = l - 1 then l else (if i < n then n + i else i - n)) else (if i = n + l % 10 then l % 10 - 1 else if i = n + l % 10 - 1 then l % 10 else if i = l % 10 then n + l % 10 - 1 else if i = l % 10 - 1 then n + l % 10 else (if i < n then n + i else i - n))

theorem pl_fi {n l : Int} (h1 : 1 ≤ n) (h4 : n ≤ 4) (hl : l = 0 ∨ (1 ≤ l ∧ l < n) ∨ (11 ≤ l ∧ l < 10 + n)) : fi n (mo_pl n l) := by
  have h : n = 1 ∨ n = 2 ∨ n = 3 ∨ n = 4 := by omega
  rcases h with h | h | h | h <;> subst h
  · have hl2 : l = 0 := by omega
    subst hl2
    intro p hp hq
    have h5 : p = 0 ∨ p = 1 := by omega
    rcases h5 with h5 | h5 <;> subst h5 <;> decide
  · have hl2 : l = 0 ∨ l = 1 ∨ l = 11 := by omega
    rcases hl2 with h | h | h <;> subst h <;> intro p hp hq
    · have h5 : p = 0 ∨ p = 1 ∨ p = 2 ∨ p = 3 := by omega
      rcases h5 with h5 | h5 | h5 | h5 <;> subst h5 <;> decide
    · have h5 : p = 0 ∨ p = 1 ∨ p = 2 ∨ p = 3 := by omega
      rcases h5 with h5 | h5 | h5 | h5 <;> subst h5 <;> decide
    · have h5 : p = 0 ∨ p = 1 ∨ p = 2 ∨ p = 3 := by omega
      rcases h5 with h5 | h5 | h5 | h5 <;> subst h5 <;> decide
  · have hl2 : l = 0 ∨ l = 1 ∨ l = 2 ∨ l = 11 ∨ l = 12 := by omega
    rcases hl2 with h | h | h | h | h <;> subst h <;> intro p hp hq
    · have h5 : p = 0 ∨ p = 1 ∨ p = 2 ∨ p = 3 ∨ p = 4 ∨ p = 5 := by omega
      rcases h5 with h5 | h5 | h5 | h5 | h5 | h5 <;> subst h5 <;> decide
    · have h5 : p = 0 ∨ p = 1 ∨ p = 2 ∨ p = 3 ∨ p = 4 ∨ p = 5 := by omega
      rcases h5 with h5 | h5 | h5 | h5 | h5 | h5 <;> subst h5 <;> decide
    · have h5 : p = 0 ∨ p = 1 ∨ p = 2 ∨ p = 3 ∨ p = 4 ∨ p = 5 := by omega
      rcases h5 with h5 | h5 | h5 | h5 | h5 | h5 <;> subst h5 <;> decide
    · have h5 : p = 0 ∨ p = 1 ∨ p = 2 ∨ p = 3 ∨ p = 4 ∨ p = 5 := by omega
      rcases h5 with h5 | h5 | h5 | h5 | h5 | h5 <;> subst h5 <;> decide
    · have h5 : p = 0 ∨ p = 1 ∨ p = 2 ∨ p = 3 ∨ p = 4 ∨ p = 5 := by omega
      rcases h5 with h5 | h5 | h5 | h5 | h5 | h5 <;> subst h5 <;> decide
  · have hl2 : l = 0 ∨ l = 1 ∨ l = 2 ∨ l = 3 ∨ l = 11 ∨ l = 12 ∨ l = 13 := by omega
    rcases hl2 with h | h | h | h | h | h | h <;> subst h <;> intro p hp hq
    · have h5 : p = 0 ∨ p = 1 ∨ p = 2 ∨ p = 3 ∨ p = 4 ∨ p = 5 ∨ p = 6 ∨ p = 7 := by omega
      rcases h5 with h5 | h5 | h5 | h5 | h5 | h5 | h5 | h5 <;> subst h5 <;> decide
    · have h5 : p = 0 ∨ p = 1 ∨ p = 2 ∨ p = 3 ∨ p = 4 ∨ p = 5 ∨ p = 6 ∨ p = 7 := by omega
      rcases h5 with h5 | h5 | h5 | h5 | h5 | h5 | h5 | h5 <;> subst h5 <;> decide
    · have h5 : p = 0 ∨ p = 1 ∨ p = 2 ∨ p = 3 ∨ p = 4 ∨ p = 5 ∨ p = 6 ∨ p = 7 := by omega
      rcases h5 with h5 | h5 | h5 | h5 | h5 | h5 | h5 | h5 <;> subst h5 <;> decide
    · have h5 : p = 0 ∨ p = 1 ∨ p = 2 ∨ p = 3 ∨ p = 4 ∨ p = 5 ∨ p = 6 ∨ p = 7 := by omega
      rcases h5 with h5 | h5 | h5 | h5 | h5 | h5 | h5 | h5 <;> subst h5 <;> decide
    · have h5 : p = 0 ∨ p = 1 ∨ p = 2 ∨ p = 3 ∨ p = 4 ∨ p = 5 ∨ p = 6 ∨ p = 7 := by omega
      rcases h5 with h5 | h5 | h5 | h5 | h5 | h5 | h5 | h5 <;> subst h5 <;> decide
    · have h5 : p = 0 ∨ p = 1 ∨ p = 2 ∨ p = 3 ∨ p = 4 ∨ p = 5 ∨ p = 6 ∨ p = 7 := by omega
      rcases h5 with h5 | h5 | h5 | h5 | h5 | h5 | h5 | h5 <;> subst h5 <;> decide
    · have h5 : p = 0 ∨ p = 1 ∨ p = 2 ∨ p = 3 ∨ p = 4 ∨ p = 5 ∨ p = 6 ∨ p = 7 := by omega
      rcases h5 with h5 | h5 | h5 | h5 | h5 | h5 | h5 | h5 <;> subst h5 <;> decide

theorem qm_plainBox_l {m s : Nat} {F : aq_F} {c0 : aq_C} {S : Nat → Prop} {y : Nat} (hO : mo_0 m F y) (hS12 : S (y + 12)) {tbl : Int → Int} (hT : mo_T F y tbl) {n l : Int} (hn1 : 1 ≤ n) (hn4 : n ≤ 4) (hl : l = 0 ∨ (1 ≤ l ∧ l < n) ∨ (11 ≤ l ∧ l < 10 + n)) : ∀ (d : Nat) (k : Int) (v4 : am_V) (c : aq_C) (hs : aq_sm S c0 c) (h0 : 0 ≤ k) (h1 : k ≤ n) (hz1 : ∀ i, 0 ≤ i → i < k → c (y + 12) i = n + i) (hz2 : ∀ i, 0 ≤ i → i < k → c (y + 12) (n + i) = i) (hd : n - k < (d : Int)), am_E ac_X5_plainBox (2, [vR y, vI n, vI l, vI k, v4], [], aq_h m s F c) (aq_Z m s F S c0 (fun r d => ∃ v, r = some (vI v) ∧ 0 ≤ v ∧ v < bx_K n ∧ ∀ i, 0 ≤ i → i < 2 * n → prt n v i = mo_pl n l i))
  | 0, k, v4, c, hs, h0, h1, hz1, hz2, hd => by exfalso; omega
  | d + 1, k, v4, c, hs, h0, h1, hz1, hz2, hd => by
    obtain ⟨hm, hFo, hG5, hG6, hG7, hG8, hG9, hG10, hG11, hG12, hG13, hG14, hG15, hG16, hG17, hG18, hG19, hG20, hG21, hG22, hG23⟩ := hO
    obtain ⟨hT1, hTt⟩ := hT
    refine am_E.go (t2 := (3, [vR y, vI n, vI l, vI k, v4], [vI k], aq_h m s F c)) rfl rfl ?_
    refine am_E.go (t2 := (4, [vR y, vI n, vI l, vI k, v4], [vI n, vI k], aq_h m s F c)) rfl rfl ?_
    refine ae_icmp rfl (fun (q_1 : n ≤ k) => ?_) (fun (q_1 : k < n) => ?_)
    · refine am_E.go (t2 := (32, [vR y, vI n, vI l, vI k, v4], [vI l], aq_h m s F c)) rfl rfl ?_
      refine ae_if0 rfl (fun (q_2 : l ≤ 0) => ?_) (fun (q_2 : 0 < l) => ?_)
      · refine am_E.go (t2 := (142, [vR y, vI n, vI l, vI k, v4], [vR y], aq_h m s F c)) rfl rfl ?_
        refine am_E.go (t2 := (143, [vR y, vI n, vI l, vI k, v4], [vI n, vR y], aq_h m s F c)) rfl rfl ?_
        refine aq_callv (y := 2) (as2 := [vI n]) (rest := []) rfl rfl (by decide) (Nat.le_of_ble_eq_true rfl) rfl rfl (Nat.le_of_ble_eq_true rfl) (by omega) hFo rfl (Nat.le_of_ble_eq_true rfl) (qm_numberOf ⟨hm, hFo, hG5, hG6, hG7, hG8, hG9, hG10, hG11, hG12, hG13, hG14, hG15, hG16, hG17, hG18, hG19, hG20, hG21, hG22, hG23⟩ ⟨hT1, hTt⟩ hn1 hn4) ?_
        rintro r5 h5 ⟨rfl, v_fin, rfl, hv_fin⟩
        show am_E _ (146, [vR y, vI n, vI l, vI k, v4], [vI v_fin], aq_h m s F c) _
        refine am_E.ret rfl rfl ?_
        have hmp : ∀ i, 0 ≤ i → i < 2 * n → c (y + 12) i = mo_pl n l i := by
          intro i h5 h6
          have e5 := hz1 i h5
          have e6 := hz2 (i - n)
          rw [show n + (i - n) = i by omega] at e6
          simp only [aq_u, mo_pl, true_and]
          (repeat' split) <;> omega
        refine ⟨_, rfl, hs, _, rfl, ?_⟩
        rcases hv_fin with ⟨h5, h6, h7⟩ | ⟨_, h7⟩
        · exact ⟨h5, h6, fun i h8 h9 => by rw [h7 i h8 h9, hmp i h8 h9]⟩
        · exfalso
          obtain ⟨b5, h8, h9, hA⟩ := pr_c hn1 hn4 (pl_fi hn1 hn4 hl)
          obtain ⟨i, hB, hC, hD⟩ := h7 b5 h8 h9
          exact hD (by rw [hA i hB hC, hmp i hB hC])
      · refine am_E.go (t2 := (36, [vR y, vI n, vI l, vI k, v4], [vI l], aq_h m s F c)) rfl rfl ?_
        refine am_E.go (t2 := (38, [vR y, vI n, vI l, vI k, v4], [vI 10, vI l], aq_h m s F c)) rfl rfl ?_
        refine ae_bin (z := l % 10) rfl rfl (am_rem_e (by omega) (by decide)) ?_
        show am_E _ (39, [vR y, vI n, vI l, vI k, v4], [vI (l % 10)], aq_h m s F c) _
        refine am_E.go (t2 := (40, [vR y, vI n, vI l, vI (l % 10), v4], [], aq_h m s F c)) rfl rfl ?_
        refine am_E.go (t2 := (41, [vR y, vI n, vI l, vI (l % 10), v4], [vI l], aq_h m s F c)) rfl rfl ?_
        refine am_E.go (t2 := (43, [vR y, vI n, vI l, vI (l % 10), v4], [vI 10, vI l], aq_h m s F c)) rfl rfl ?_
        refine ae_icmp rfl (fun (q_3 : 10 ≤ l) => ?_) (fun (q_3 : l < 10) => ?_)
        · refine am_E.go (t2 := (51, [vR y, vI n, vI l, vI (l % 10), v4], [vI 0], aq_h m s F c)) rfl rfl ?_
          refine am_E.go (t2 := (53, [vR y, vI n, vI l, vI (l % 10), vI 0], [], aq_h m s F c)) rfl rfl ?_
          refine am_E.go (t2 := (54, [vR y, vI n, vI l, vI (l % 10), vI 0], [vR y], aq_h m s F c)) rfl rfl ?_
          refine aq_gf (v := vR (y + 12)) rfl (by omega) hFo (by decide) rfl ?_
          show am_E _ (57, [vR y, vI n, vI l, vI (l % 10), vI 0], [vR (y + 12)], aq_h m s F c) _
          refine am_E.go (t2 := (58, [vR y, vI n, vI l, vI (l % 10), vI 0], [vI (l % 10), vR (y + 12)], aq_h m s F c)) rfl rfl ?_
          refine am_E.go (t2 := (59, [vR y, vI n, vI l, vI (l % 10), vI 0], [vI 1, vI (l % 10), vR (y + 12)], aq_h m s F c)) rfl rfl ?_
          refine ae_sub rfl (am_ri (by omega) (by omega)) ?_
          show am_E _ (60, [vR y, vI n, vI l, vI (l % 10), vI 0], [vI ((l % 10) - 1), vR (y + 12)], aq_h m s F c) _
          refine am_E.go (t2 := (62, [vR y, vI n, vI l, vI (l % 10), vI 0], [vI 0, vI ((l % 10) - 1), vR (y + 12)], aq_h m s F c)) rfl rfl ?_
          refine am_E.go (t2 := (69, [vR y, vI n, vI l, vI (l % 10), vI 0], [vI ((l % 10) - 1), vR (y + 12)], aq_h m s F c)) rfl rfl ?_
          refine am_E.go (t2 := (70, [vR y, vI n, vI l, vI (l % 10), vI 0], [vI n, vI ((l % 10) - 1), vR (y + 12)], aq_h m s F c)) rfl rfl ?_
          refine am_E.go (t2 := (71, [vR y, vI n, vI l, vI (l % 10), vI 0], [vI (l % 10), vI n, vI ((l % 10) - 1), vR (y + 12)], aq_h m s F c)) rfl rfl ?_
          refine ae_add rfl (am_ri (by omega) (by omega)) ?_
          show am_E _ (72, [vR y, vI n, vI l, vI (l % 10), vI 0], [vI (n + (l % 10)), vI ((l % 10) - 1), vR (y + 12)], aq_h m s F c) _
          refine aq_as (kd := 0) rfl rfl (by omega) hG12 (by omega) (by omega) rfl rfl ?_
          show am_E _ (73, [vR y, vI n, vI l, vI (l % 10), vI 0], [], aq_h m s F (aq_u c (y + 12) ((l % 10) - 1) (n + (l % 10)))) _
          generalize hdc_4 : aq_u c (y + 12) ((l % 10) - 1) (n + (l % 10)) = c_4
          have sc_4 := aq_smu hs hdc_4 (hS12)
          refine am_E.go (t2 := (74, [vR y, vI n, vI l, vI (l % 10), vI 0], [vR y], aq_h m s F c_4)) rfl rfl ?_
          refine aq_gf (v := vR (y + 12)) rfl (by omega) hFo (by decide) rfl ?_
          show am_E _ (77, [vR y, vI n, vI l, vI (l % 10), vI 0], [vR (y + 12)], aq_h m s F c_4) _
          refine am_E.go (t2 := (78, [vR y, vI n, vI l, vI (l % 10), vI 0], [vI (l % 10), vR (y + 12)], aq_h m s F c_4)) rfl rfl ?_
          refine am_E.go (t2 := (80, [vR y, vI n, vI l, vI (l % 10), vI 0], [vI 0, vI (l % 10), vR (y + 12)], aq_h m s F c_4)) rfl rfl ?_
          refine am_E.go (t2 := (89, [vR y, vI n, vI l, vI (l % 10), vI 0], [vI (l % 10), vR (y + 12)], aq_h m s F c_4)) rfl rfl ?_
          refine am_E.go (t2 := (90, [vR y, vI n, vI l, vI (l % 10), vI 0], [vI n, vI (l % 10), vR (y + 12)], aq_h m s F c_4)) rfl rfl ?_
          refine am_E.go (t2 := (91, [vR y, vI n, vI l, vI (l % 10), vI 0], [vI (l % 10), vI n, vI (l % 10), vR (y + 12)], aq_h m s F c_4)) rfl rfl ?_
          refine ae_add rfl (am_ri (by omega) (by omega)) ?_
          show am_E _ (92, [vR y, vI n, vI l, vI (l % 10), vI 0], [vI (n + (l % 10)), vI (l % 10), vR (y + 12)], aq_h m s F c_4) _
          refine am_E.go (t2 := (93, [vR y, vI n, vI l, vI (l % 10), vI 0], [vI 1, vI (n + (l % 10)), vI (l % 10), vR (y + 12)], aq_h m s F c_4)) rfl rfl ?_
          refine ae_sub rfl (am_ri (by omega) (by omega)) ?_
          show am_E _ (94, [vR y, vI n, vI l, vI (l % 10), vI 0], [vI ((n + (l % 10)) - 1), vI (l % 10), vR (y + 12)], aq_h m s F c_4) _
          refine aq_as (kd := 0) rfl rfl (by omega) hG12 (by omega) (by omega) rfl rfl ?_
          show am_E _ (95, [vR y, vI n, vI l, vI (l % 10), vI 0], [], aq_h m s F (aq_u c_4 (y + 12) (l % 10) ((n + (l % 10)) - 1))) _
          generalize hdc_5 : aq_u c_4 (y + 12) (l % 10) ((n + (l % 10)) - 1) = c_5
          have sc_5 := aq_smu sc_4 hdc_5 (hS12)
          refine am_E.go (t2 := (96, [vR y, vI n, vI l, vI (l % 10), vI 0], [vR y], aq_h m s F c_5)) rfl rfl ?_
          refine aq_gf (v := vR (y + 12)) rfl (by omega) hFo (by decide) rfl ?_
          show am_E _ (99, [vR y, vI n, vI l, vI (l % 10), vI 0], [vR (y + 12)], aq_h m s F c_5) _
          refine am_E.go (t2 := (100, [vR y, vI n, vI l, vI (l % 10), vI 0], [vI n, vR (y + 12)], aq_h m s F c_5)) rfl rfl ?_
          refine am_E.go (t2 := (101, [vR y, vI n, vI l, vI (l % 10), vI 0], [vI (l % 10), vI n, vR (y + 12)], aq_h m s F c_5)) rfl rfl ?_
          refine ae_add rfl (am_ri (by omega) (by omega)) ?_
          show am_E _ (102, [vR y, vI n, vI l, vI (l % 10), vI 0], [vI (n + (l % 10)), vR (y + 12)], aq_h m s F c_5) _
          refine am_E.go (t2 := (103, [vR y, vI n, vI l, vI (l % 10), vI 0], [vI 1, vI (n + (l % 10)), vR (y + 12)], aq_h m s F c_5)) rfl rfl ?_
          refine ae_sub rfl (am_ri (by omega) (by omega)) ?_
          show am_E _ (104, [vR y, vI n, vI l, vI (l % 10), vI 0], [vI ((n + (l % 10)) - 1), vR (y + 12)], aq_h m s F c_5) _
          refine am_E.go (t2 := (106, [vR y, vI n, vI l, vI (l % 10), vI 0], [vI 0, vI ((n + (l % 10)) - 1), vR (y + 12)], aq_h m s F c_5)) rfl rfl ?_
          refine am_E.go (t2 := (115, [vR y, vI n, vI l, vI (l % 10), vI 0], [vI ((n + (l % 10)) - 1), vR (y + 12)], aq_h m s F c_5)) rfl rfl ?_
          refine am_E.go (t2 := (116, [vR y, vI n, vI l, vI (l % 10), vI 0], [vI (l % 10), vI ((n + (l % 10)) - 1), vR (y + 12)], aq_h m s F c_5)) rfl rfl ?_
          refine aq_as (kd := 0) rfl rfl (by omega) hG12 (by omega) (by omega) rfl rfl ?_
          show am_E _ (117, [vR y, vI n, vI l, vI (l % 10), vI 0], [], aq_h m s F (aq_u c_5 (y + 12) ((n + (l % 10)) - 1) (l % 10))) _
          generalize hdc_6 : aq_u c_5 (y + 12) ((n + (l % 10)) - 1) (l % 10) = c_6
          have sc_6 := aq_smu sc_5 hdc_6 (hS12)
          refine am_E.go (t2 := (118, [vR y, vI n, vI l, vI (l % 10), vI 0], [vR y], aq_h m s F c_6)) rfl rfl ?_
          refine aq_gf (v := vR (y + 12)) rfl (by omega) hFo (by decide) rfl ?_
          show am_E _ (121, [vR y, vI n, vI l, vI (l % 10), vI 0], [vR (y + 12)], aq_h m s F c_6) _
          refine am_E.go (t2 := (122, [vR y, vI n, vI l, vI (l % 10), vI 0], [vI n, vR (y + 12)], aq_h m s F c_6)) rfl rfl ?_
          refine am_E.go (t2 := (123, [vR y, vI n, vI l, vI (l % 10), vI 0], [vI (l % 10), vI n, vR (y + 12)], aq_h m s F c_6)) rfl rfl ?_
          refine ae_add rfl (am_ri (by omega) (by omega)) ?_
          show am_E _ (124, [vR y, vI n, vI l, vI (l % 10), vI 0], [vI (n + (l % 10)), vR (y + 12)], aq_h m s F c_6) _
          refine am_E.go (t2 := (126, [vR y, vI n, vI l, vI (l % 10), vI 0], [vI 0, vI (n + (l % 10)), vR (y + 12)], aq_h m s F c_6)) rfl rfl ?_
          refine am_E.go (t2 := (137, [vR y, vI n, vI l, vI (l % 10), vI 0], [vI (n + (l % 10)), vR (y + 12)], aq_h m s F c_6)) rfl rfl ?_
          refine am_E.go (t2 := (138, [vR y, vI n, vI l, vI (l % 10), vI 0], [vI (l % 10), vI (n + (l % 10)), vR (y + 12)], aq_h m s F c_6)) rfl rfl ?_
          refine am_E.go (t2 := (139, [vR y, vI n, vI l, vI (l % 10), vI 0], [vI 1, vI (l % 10), vI (n + (l % 10)), vR (y + 12)], aq_h m s F c_6)) rfl rfl ?_
          refine ae_sub rfl (am_ri (by omega) (by omega)) ?_
          show am_E _ (140, [vR y, vI n, vI l, vI (l % 10), vI 0], [vI ((l % 10) - 1), vI (n + (l % 10)), vR (y + 12)], aq_h m s F c_6) _
          refine aq_as (kd := 0) rfl rfl (by omega) hG12 (by omega) (by omega) rfl rfl ?_
          show am_E _ (141, [vR y, vI n, vI l, vI (l % 10), vI 0], [], aq_h m s F (aq_u c_6 (y + 12) (n + (l % 10)) ((l % 10) - 1))) _
          generalize hdc_7 : aq_u c_6 (y + 12) (n + (l % 10)) ((l % 10) - 1) = c_7
          have sc_7 := aq_smu sc_6 hdc_7 (hS12)
          refine am_E.go (t2 := (142, [vR y, vI n, vI l, vI (l % 10), vI 0], [vR y], aq_h m s F c_7)) rfl rfl ?_
          refine am_E.go (t2 := (143, [vR y, vI n, vI l, vI (l % 10), vI 0], [vI n, vR y], aq_h m s F c_7)) rfl rfl ?_
          refine aq_callv (y := 2) (as2 := [vI n]) (rest := []) rfl rfl (by decide) (Nat.le_of_ble_eq_true rfl) rfl rfl (Nat.le_of_ble_eq_true rfl) (by omega) hFo rfl (Nat.le_of_ble_eq_true rfl) (qm_numberOf ⟨hm, hFo, hG5, hG6, hG7, hG8, hG9, hG10, hG11, hG12, hG13, hG14, hG15, hG16, hG17, hG18, hG19, hG20, hG21, hG22, hG23⟩ ⟨hT1, hTt⟩ hn1 hn4) ?_
          rintro r5 h5 ⟨rfl, v_fin, rfl, hv_fin⟩
          show am_E _ (146, [vR y, vI n, vI l, vI (l % 10), vI 0], [vI v_fin], aq_h m s F c_7) _
          refine am_E.ret rfl rfl ?_
          have hmp : ∀ i, 0 ≤ i → i < 2 * n → c_7 (y + 12) i = mo_pl n l i := by
            intro i h5 h6
            have e5 := hz1 i h5
            have e6 := hz2 (i - n)
            rw [show n + (i - n) = i by omega] at e6
            rw [← hdc_7, ← hdc_6, ← hdc_5, ← hdc_4]
            simp only [aq_u, mo_pl, true_and]
            (repeat' split) <;> omega
          refine ⟨_, rfl, sc_7, _, rfl, ?_⟩
          rcases hv_fin with ⟨h5, h6, h7⟩ | ⟨_, h7⟩
          · exact ⟨h5, h6, fun i h8 h9 => by rw [h7 i h8 h9, hmp i h8 h9]⟩
          · exfalso
            obtain ⟨b5, h8, h9, hA⟩ := pr_c hn1 hn4 (pl_fi hn1 hn4 hl)
            obtain ⟨i, hB, hC, hD⟩ := h7 b5 h8 h9
            exact hD (by rw [hA i hB hC, hmp i hB hC])
        · refine am_E.go (t2 := (47, [vR y, vI n, vI l, vI (l % 10), v4], [vI 1], aq_h m s F c)) rfl rfl ?_
          refine am_E.go (t2 := (51, [vR y, vI n, vI l, vI (l % 10), v4], [vI 1], aq_h m s F c)) rfl rfl ?_
          refine am_E.go (t2 := (53, [vR y, vI n, vI l, vI (l % 10), vI 1], [], aq_h m s F c)) rfl rfl ?_
          refine am_E.go (t2 := (54, [vR y, vI n, vI l, vI (l % 10), vI 1], [vR y], aq_h m s F c)) rfl rfl ?_
          refine aq_gf (v := vR (y + 12)) rfl (by omega) hFo (by decide) rfl ?_
          show am_E _ (57, [vR y, vI n, vI l, vI (l % 10), vI 1], [vR (y + 12)], aq_h m s F c) _
          refine am_E.go (t2 := (58, [vR y, vI n, vI l, vI (l % 10), vI 1], [vI (l % 10), vR (y + 12)], aq_h m s F c)) rfl rfl ?_
          refine am_E.go (t2 := (59, [vR y, vI n, vI l, vI (l % 10), vI 1], [vI 1, vI (l % 10), vR (y + 12)], aq_h m s F c)) rfl rfl ?_
          refine ae_sub rfl (am_ri (by omega) (by omega)) ?_
          show am_E _ (60, [vR y, vI n, vI l, vI (l % 10), vI 1], [vI ((l % 10) - 1), vR (y + 12)], aq_h m s F c) _
          refine am_E.go (t2 := (62, [vR y, vI n, vI l, vI (l % 10), vI 1], [vI 1, vI ((l % 10) - 1), vR (y + 12)], aq_h m s F c)) rfl rfl ?_
          refine am_E.go (t2 := (65, [vR y, vI n, vI l, vI (l % 10), vI 1], [vI ((l % 10) - 1), vR (y + 12)], aq_h m s F c)) rfl rfl ?_
          refine am_E.go (t2 := (66, [vR y, vI n, vI l, vI (l % 10), vI 1], [vI (l % 10), vI ((l % 10) - 1), vR (y + 12)], aq_h m s F c)) rfl rfl ?_
          refine am_E.go (t2 := (72, [vR y, vI n, vI l, vI (l % 10), vI 1], [vI (l % 10), vI ((l % 10) - 1), vR (y + 12)], aq_h m s F c)) rfl rfl ?_
          refine aq_as (kd := 0) rfl rfl (by omega) hG12 (by omega) (by omega) rfl rfl ?_
          show am_E _ (73, [vR y, vI n, vI l, vI (l % 10), vI 1], [], aq_h m s F (aq_u c (y + 12) ((l % 10) - 1) (l % 10))) _
          generalize hdc_8 : aq_u c (y + 12) ((l % 10) - 1) (l % 10) = c_8
          have sc_8 := aq_smu hs hdc_8 (hS12)
          refine am_E.go (t2 := (74, [vR y, vI n, vI l, vI (l % 10), vI 1], [vR y], aq_h m s F c_8)) rfl rfl ?_
          refine aq_gf (v := vR (y + 12)) rfl (by omega) hFo (by decide) rfl ?_
          show am_E _ (77, [vR y, vI n, vI l, vI (l % 10), vI 1], [vR (y + 12)], aq_h m s F c_8) _
          refine am_E.go (t2 := (78, [vR y, vI n, vI l, vI (l % 10), vI 1], [vI (l % 10), vR (y + 12)], aq_h m s F c_8)) rfl rfl ?_
          refine am_E.go (t2 := (80, [vR y, vI n, vI l, vI (l % 10), vI 1], [vI 1, vI (l % 10), vR (y + 12)], aq_h m s F c_8)) rfl rfl ?_
          refine am_E.go (t2 := (83, [vR y, vI n, vI l, vI (l % 10), vI 1], [vI (l % 10), vR (y + 12)], aq_h m s F c_8)) rfl rfl ?_
          refine am_E.go (t2 := (84, [vR y, vI n, vI l, vI (l % 10), vI 1], [vI (l % 10), vI (l % 10), vR (y + 12)], aq_h m s F c_8)) rfl rfl ?_
          refine am_E.go (t2 := (85, [vR y, vI n, vI l, vI (l % 10), vI 1], [vI 1, vI (l % 10), vI (l % 10), vR (y + 12)], aq_h m s F c_8)) rfl rfl ?_
          refine ae_sub rfl (am_ri (by omega) (by omega)) ?_
          show am_E _ (86, [vR y, vI n, vI l, vI (l % 10), vI 1], [vI ((l % 10) - 1), vI (l % 10), vR (y + 12)], aq_h m s F c_8) _
          refine am_E.go (t2 := (94, [vR y, vI n, vI l, vI (l % 10), vI 1], [vI ((l % 10) - 1), vI (l % 10), vR (y + 12)], aq_h m s F c_8)) rfl rfl ?_
          refine aq_as (kd := 0) rfl rfl (by omega) hG12 (by omega) (by omega) rfl rfl ?_
          show am_E _ (95, [vR y, vI n, vI l, vI (l % 10), vI 1], [], aq_h m s F (aq_u c_8 (y + 12) (l % 10) ((l % 10) - 1))) _
          generalize hdc_9 : aq_u c_8 (y + 12) (l % 10) ((l % 10) - 1) = c_9
          have sc_9 := aq_smu sc_8 hdc_9 (hS12)
          refine am_E.go (t2 := (96, [vR y, vI n, vI l, vI (l % 10), vI 1], [vR y], aq_h m s F c_9)) rfl rfl ?_
          refine aq_gf (v := vR (y + 12)) rfl (by omega) hFo (by decide) rfl ?_
          show am_E _ (99, [vR y, vI n, vI l, vI (l % 10), vI 1], [vR (y + 12)], aq_h m s F c_9) _
          refine am_E.go (t2 := (100, [vR y, vI n, vI l, vI (l % 10), vI 1], [vI n, vR (y + 12)], aq_h m s F c_9)) rfl rfl ?_
          refine am_E.go (t2 := (101, [vR y, vI n, vI l, vI (l % 10), vI 1], [vI (l % 10), vI n, vR (y + 12)], aq_h m s F c_9)) rfl rfl ?_
          refine ae_add rfl (am_ri (by omega) (by omega)) ?_
          show am_E _ (102, [vR y, vI n, vI l, vI (l % 10), vI 1], [vI (n + (l % 10)), vR (y + 12)], aq_h m s F c_9) _
          refine am_E.go (t2 := (103, [vR y, vI n, vI l, vI (l % 10), vI 1], [vI 1, vI (n + (l % 10)), vR (y + 12)], aq_h m s F c_9)) rfl rfl ?_
          refine ae_sub rfl (am_ri (by omega) (by omega)) ?_
          show am_E _ (104, [vR y, vI n, vI l, vI (l % 10), vI 1], [vI ((n + (l % 10)) - 1), vR (y + 12)], aq_h m s F c_9) _
          refine am_E.go (t2 := (106, [vR y, vI n, vI l, vI (l % 10), vI 1], [vI 1, vI ((n + (l % 10)) - 1), vR (y + 12)], aq_h m s F c_9)) rfl rfl ?_
          refine am_E.go (t2 := (109, [vR y, vI n, vI l, vI (l % 10), vI 1], [vI ((n + (l % 10)) - 1), vR (y + 12)], aq_h m s F c_9)) rfl rfl ?_
          refine am_E.go (t2 := (110, [vR y, vI n, vI l, vI (l % 10), vI 1], [vI n, vI ((n + (l % 10)) - 1), vR (y + 12)], aq_h m s F c_9)) rfl rfl ?_
          refine am_E.go (t2 := (111, [vR y, vI n, vI l, vI (l % 10), vI 1], [vI (l % 10), vI n, vI ((n + (l % 10)) - 1), vR (y + 12)], aq_h m s F c_9)) rfl rfl ?_
          refine ae_add rfl (am_ri (by omega) (by omega)) ?_
          show am_E _ (112, [vR y, vI n, vI l, vI (l % 10), vI 1], [vI (n + (l % 10)), vI ((n + (l % 10)) - 1), vR (y + 12)], aq_h m s F c_9) _
          refine am_E.go (t2 := (116, [vR y, vI n, vI l, vI (l % 10), vI 1], [vI (n + (l % 10)), vI ((n + (l % 10)) - 1), vR (y + 12)], aq_h m s F c_9)) rfl rfl ?_
          refine aq_as (kd := 0) rfl rfl (by omega) hG12 (by omega) (by omega) rfl rfl ?_
          show am_E _ (117, [vR y, vI n, vI l, vI (l % 10), vI 1], [], aq_h m s F (aq_u c_9 (y + 12) ((n + (l % 10)) - 1) (n + (l % 10)))) _
          generalize hdc_10 : aq_u c_9 (y + 12) ((n + (l % 10)) - 1) (n + (l % 10)) = c_10
          have sc_10 := aq_smu sc_9 hdc_10 (hS12)
          refine am_E.go (t2 := (118, [vR y, vI n, vI l, vI (l % 10), vI 1], [vR y], aq_h m s F c_10)) rfl rfl ?_
          refine aq_gf (v := vR (y + 12)) rfl (by omega) hFo (by decide) rfl ?_
          show am_E _ (121, [vR y, vI n, vI l, vI (l % 10), vI 1], [vR (y + 12)], aq_h m s F c_10) _
          refine am_E.go (t2 := (122, [vR y, vI n, vI l, vI (l % 10), vI 1], [vI n, vR (y + 12)], aq_h m s F c_10)) rfl rfl ?_
          refine am_E.go (t2 := (123, [vR y, vI n, vI l, vI (l % 10), vI 1], [vI (l % 10), vI n, vR (y + 12)], aq_h m s F c_10)) rfl rfl ?_
          refine ae_add rfl (am_ri (by omega) (by omega)) ?_
          show am_E _ (124, [vR y, vI n, vI l, vI (l % 10), vI 1], [vI (n + (l % 10)), vR (y + 12)], aq_h m s F c_10) _
          refine am_E.go (t2 := (126, [vR y, vI n, vI l, vI (l % 10), vI 1], [vI 1, vI (n + (l % 10)), vR (y + 12)], aq_h m s F c_10)) rfl rfl ?_
          refine am_E.go (t2 := (129, [vR y, vI n, vI l, vI (l % 10), vI 1], [vI (n + (l % 10)), vR (y + 12)], aq_h m s F c_10)) rfl rfl ?_
          refine am_E.go (t2 := (130, [vR y, vI n, vI l, vI (l % 10), vI 1], [vI n, vI (n + (l % 10)), vR (y + 12)], aq_h m s F c_10)) rfl rfl ?_
          refine am_E.go (t2 := (131, [vR y, vI n, vI l, vI (l % 10), vI 1], [vI (l % 10), vI n, vI (n + (l % 10)), vR (y + 12)], aq_h m s F c_10)) rfl rfl ?_
          refine ae_add rfl (am_ri (by omega) (by omega)) ?_
          show am_E _ (132, [vR y, vI n, vI l, vI (l % 10), vI 1], [vI (n + (l % 10)), vI (n + (l % 10)), vR (y + 12)], aq_h m s F c_10) _
          refine am_E.go (t2 := (133, [vR y, vI n, vI l, vI (l % 10), vI 1], [vI 1, vI (n + (l % 10)), vI (n + (l % 10)), vR (y + 12)], aq_h m s F c_10)) rfl rfl ?_
          refine ae_sub rfl (am_ri (by omega) (by omega)) ?_
          show am_E _ (134, [vR y, vI n, vI l, vI (l % 10), vI 1], [vI ((n + (l % 10)) - 1), vI (n + (l % 10)), vR (y + 12)], aq_h m s F c_10) _
          refine am_E.go (t2 := (140, [vR y, vI n, vI l, vI (l % 10), vI 1], [vI ((n + (l % 10)) - 1), vI (n + (l % 10)), vR (y + 12)], aq_h m s F c_10)) rfl rfl ?_
          refine aq_as (kd := 0) rfl rfl (by omega) hG12 (by omega) (by omega) rfl rfl ?_
          show am_E _ (141, [vR y, vI n, vI l, vI (l % 10), vI 1], [], aq_h m s F (aq_u c_10 (y + 12) (n + (l % 10)) ((n + (l % 10)) - 1))) _
          generalize hdc_11 : aq_u c_10 (y + 12) (n + (l % 10)) ((n + (l % 10)) - 1) = c_11
          have sc_11 := aq_smu sc_10 hdc_11 (hS12)
          refine am_E.go (t2 := (142, [vR y, vI n, vI l, vI (l % 10), vI 1], [vR y], aq_h m s F c_11)) rfl rfl ?_
          refine am_E.go (t2 := (143, [vR y, vI n, vI l, vI (l % 10), vI 1], [vI n, vR y], aq_h m s F c_11)) rfl rfl ?_
          refine aq_callv (y := 2) (as2 := [vI n]) (rest := []) rfl rfl (by decide) (Nat.le_of_ble_eq_true rfl) rfl rfl (Nat.le_of_ble_eq_true rfl) (by omega) hFo rfl (Nat.le_of_ble_eq_true rfl) (qm_numberOf ⟨hm, hFo, hG5, hG6, hG7, hG8, hG9, hG10, hG11, hG12, hG13, hG14, hG15, hG16, hG17, hG18, hG19, hG20, hG21, hG22, hG23⟩ ⟨hT1, hTt⟩ hn1 hn4) ?_
          rintro r5 h5 ⟨rfl, v_fin, rfl, hv_fin⟩
          show am_E _ (146, [vR y, vI n, vI l, vI (l % 10), vI 1], [vI v_fin], aq_h m s F c_11) _
          refine am_E.ret rfl rfl ?_
          have hmp : ∀ i, 0 ≤ i → i < 2 * n → c_11 (y + 12) i = mo_pl n l i := by
            intro i h5 h6
            have e5 := hz1 i h5
            have e6 := hz2 (i - n)
            rw [show n + (i - n) = i by omega] at e6
            rw [← hdc_11, ← hdc_10, ← hdc_9, ← hdc_8]
            simp only [aq_u, mo_pl, true_and]
            (repeat' split) <;> omega
          refine ⟨_, rfl, sc_11, _, rfl, ?_⟩
          rcases hv_fin with ⟨h5, h6, h7⟩ | ⟨_, h7⟩
          · exact ⟨h5, h6, fun i h8 h9 => by rw [h7 i h8 h9, hmp i h8 h9]⟩
          · exfalso
            obtain ⟨b5, h8, h9, hA⟩ := pr_c hn1 hn4 (pl_fi hn1 hn4 hl)
            obtain ⟨i, hB, hC, hD⟩ := h7 b5 h8 h9
            exact hD (by rw [hA i hB hC, hmp i hB hC])
    · refine am_E.go (t2 := (8, [vR y, vI n, vI l, vI k, v4], [vR y], aq_h m s F c)) rfl rfl ?_
      refine aq_gf (v := vR (y + 12)) rfl (by omega) hFo (by decide) rfl ?_
      show am_E _ (11, [vR y, vI n, vI l, vI k, v4], [vR (y + 12)], aq_h m s F c) _
      refine am_E.go (t2 := (12, [vR y, vI n, vI l, vI k, v4], [vI k, vR (y + 12)], aq_h m s F c)) rfl rfl ?_
      refine am_E.go (t2 := (13, [vR y, vI n, vI l, vI k, v4], [vI n, vI k, vR (y + 12)], aq_h m s F c)) rfl rfl ?_
      refine am_E.go (t2 := (14, [vR y, vI n, vI l, vI k, v4], [vI k, vI n, vI k, vR (y + 12)], aq_h m s F c)) rfl rfl ?_
      refine ae_add rfl (am_ri (by omega) (by omega)) ?_
      show am_E _ (15, [vR y, vI n, vI l, vI k, v4], [vI (n + k), vI k, vR (y + 12)], aq_h m s F c) _
      refine aq_as (kd := 0) rfl rfl (by omega) hG12 (by omega) (by omega) rfl rfl ?_
      show am_E _ (16, [vR y, vI n, vI l, vI k, v4], [], aq_h m s F (aq_u c (y + 12) k (n + k))) _
      generalize hdc_12 : aq_u c (y + 12) k (n + k) = c_12
      have sc_12 := aq_smu hs hdc_12 (hS12)
      refine am_E.go (t2 := (17, [vR y, vI n, vI l, vI k, v4], [vR y], aq_h m s F c_12)) rfl rfl ?_
      refine aq_gf (v := vR (y + 12)) rfl (by omega) hFo (by decide) rfl ?_
      show am_E _ (20, [vR y, vI n, vI l, vI k, v4], [vR (y + 12)], aq_h m s F c_12) _
      refine am_E.go (t2 := (21, [vR y, vI n, vI l, vI k, v4], [vI n, vR (y + 12)], aq_h m s F c_12)) rfl rfl ?_
      refine am_E.go (t2 := (22, [vR y, vI n, vI l, vI k, v4], [vI k, vI n, vR (y + 12)], aq_h m s F c_12)) rfl rfl ?_
      refine ae_add rfl (am_ri (by omega) (by omega)) ?_
      show am_E _ (23, [vR y, vI n, vI l, vI k, v4], [vI (n + k), vR (y + 12)], aq_h m s F c_12) _
      refine am_E.go (t2 := (24, [vR y, vI n, vI l, vI k, v4], [vI k, vI (n + k), vR (y + 12)], aq_h m s F c_12)) rfl rfl ?_
      refine aq_as (kd := 0) rfl rfl (by omega) hG12 (by omega) (by omega) rfl rfl ?_
      show am_E _ (25, [vR y, vI n, vI l, vI k, v4], [], aq_h m s F (aq_u c_12 (y + 12) (n + k) k)) _
      generalize hdc_13 : aq_u c_12 (y + 12) (n + k) k = c_13
      have sc_13 := aq_smu sc_12 hdc_13 (hS12)
      refine ae_iinc rfl rfl (am_ri (by omega) (by omega)) ?_
      show am_E _ (28, [vR y, vI n, vI l, vI (k + 1), v4], [], aq_h m s F c_13) _
      refine am_E.go (t2 := (2, [vR y, vI n, vI l, vI (k + 1), v4], [], aq_h m s F c_13)) rfl rfl ?_
      exact qm_plainBox_l ⟨hm, hFo, hG5, hG6, hG7, hG8, hG9, hG10, hG11, hG12, hG13, hG14, hG15, hG16, hG17, hG18, hG19, hG20, hG21, hG22, hG23⟩ hS12 ⟨hT1, hTt⟩ hn1 hn4 hl d (k + 1) (v4) c_13 sc_13 (by omega) (by omega) (fun i h5 h6 => by rw [← hdc_13, aq_un (Or.inr (by omega)), ← hdc_12]; unfold aq_u; split; (omega); exact hz1 i h5 (by omega)) (fun i h5 h6 => by rw [← hdc_13]; unfold aq_u; split; (omega); rw [← hdc_12, aq_un (Or.inr (by omega))]; exact hz2 i h5 (by omega)) (by omega)

theorem qm_plainBox {m s : Nat} {F : aq_F} {c : aq_C} {S : Nat → Prop} {y : Nat} (hO : mo_0 m F y) (hS12 : S (y + 12)) {tbl : Int → Int} (hT : mo_T F y tbl) {n l : Int} (hn1 : 1 ≤ n) (hn4 : n ≤ 4) (hl : l = 0 ∨ (1 ≤ l ∧ l < n) ∨ (11 ≤ l ∧ l < 10 + n)) : am_E ac_X5_plainBox (0, [vR y, vI n, vI l, vU, vU], [], aq_h m s F c) (aq_Z m s F S c (fun r d => ∃ v, r = some (vI v) ∧ 0 ≤ v ∧ v < bx_K n ∧ ∀ i, 0 ≤ i → i < 2 * n → prt n v i = mo_pl n l i)) := by
  obtain ⟨hm, hFo, hG5, hG6, hG7, hG8, hG9, hG10, hG11, hG12, hG13, hG14, hG15, hG16, hG17, hG18, hG19, hG20, hG21, hG22, hG23⟩ := hO
  obtain ⟨hT1, hTt⟩ := hT
  refine am_E.go (t2 := (1, [vR y, vI n, vI l, vU, vU], [vI 0], aq_h m s F c)) rfl rfl ?_
  refine am_E.go (t2 := (2, [vR y, vI n, vI l, vI 0, vU], [], aq_h m s F c)) rfl rfl ?_
  exact qm_plainBox_l ⟨hm, hFo, hG5, hG6, hG7, hG8, hG9, hG10, hG11, hG12, hG13, hG14, hG15, hG16, hG17, hG18, hG19, hG20, hG21, hG22, hG23⟩ hS12 ⟨hT1, hTt⟩ hn1 hn4 hl 6 0 (vU) c aq_sm0 (by omega) (by omega) (fun i h1 h2 => absurd h2 (by omega)) (fun i h1 h2 => absurd h2 (by omega)) (by omega)
def mo_L (F : aq_F) (y : Nat) : Prop := ∃ (tA tB tD : Int → Int), F (y + 2) = (0, 124, fun j => .inr (vI (tA (j : Int)))) ∧ F (y + 3) = (0, 124, fun j => .inr (vI (tB (j : Int)))) ∧ F (y + 4) = (0, 124, fun j => .inr (vI (tD (j : Int)))) ∧ ∀ n b : Int, 1 ≤ n → n ≤ 4 → 0 ≤ b → b < bx_K n → 0 ≤ tB (mo_f n + b) ∧ tB (mo_f n + b) < bx_K n ∧ -10 ≤ tD (mo_f n + b) ∧ tD (mo_f n + b) ≤ 124 ∧ tD (mo_f n + b) = ln_ n b ∧ (0 < ix_ n b → tB (mo_f n + b) = pa_ n b ∧ tA (mo_f n + b) = ll_ n b)
def mo_C (m : Nat) (F : aq_F) (y : Nat) : Prop := mo_0 m F y ∧ (∃ tbl, mo_T F y tbl) ∧ mo_L F y
def mo_u (y : Nat) (s : Int) (c : aq_C) : Prop := 1 ≤ c (y + 5) s ∧ c (y + 5) s ≤ 4 ∧ 0 ≤ c (y + 6) s ∧ c (y + 6) s ≤ 40 ∧ ∀ k, 0 ≤ k → k < c (y + 6) s → 0 ≤ c (y + 7) (40 * s + k) ∧ c (y + 7) (40 * s + k) < bx_K (c (y + 5) s) ∧ c (y + 9) (40 * s + k) ≠ 0 ∧ -1000000000000 ≤ c (y + 9) (40 * s + k) ∧ c (y + 9) (40 * s + k) ≤ 1000000000000
def mo_r (y : Nat) (c : aq_C) : Prop := 2 ≤ c y 9 ∧ c y 9 ≤ 4 ∧ 0 ≤ c y 10 ∧ c y 10 ≤ 8 ∧ ∀ i, 0 ≤ i → i < c y 10 → c (y + 10) i ≠ 0 ∧ -(c y 9) < c (y + 10) i ∧ c (y + 10) i < c y 9
def mo_I (y : Nat) (c : aq_C) : Prop := mo_r y c ∧ ∀ s, 0 ≤ s → s < 8 → mo_u y s c
theorem mo_rc {y : Nat} {c d : aq_C} (h9 : d y 9 = c y 9) (h10 : d y 10 = c y 10) (h : ∀ i, d (y + 10) i = c (y + 10) i) (hr : mo_r y c) : mo_r y d := by
  unfold mo_r at *
  rw [h9, h10]
  simp only [h]
  exact hr
theorem mo_uc {y : Nat} {s : Int} {c d : aq_C} (h5 : d (y + 5) s = c (y + 5) s) (h6 : d (y + 6) s = c (y + 6) s) (h7 : ∀ k, 0 ≤ k → k < 40 → d (y + 7) (40 * s + k) = c (y + 7) (40 * s + k)) (h9 : ∀ k, 0 ≤ k → k < 40 → d (y + 9) (40 * s + k) = c (y + 9) (40 * s + k)) (hu : mo_u y s c) : mo_u y s d := by
  obtain ⟨u1, u2, u3, u4, u5⟩ := hu
  refine ⟨by omega, by omega, by omega, by omega, fun k k0 k1 => ?_⟩
  rw [h7 k k0 (by omega), h9 k k0 (by omega), h5]
  exact u5 k k0 (by omega)
theorem mo_Is {S : Nat → Prop} {y : Nat} {c d : aq_C} (hI : mo_I y c) (hs : aq_sm S c d) (hk : mo_k y c d) (h5 : ¬ S (y + 5)) (h6 : ¬ S (y + 6)) (h7 : ¬ S (y + 7)) (h9 : ¬ S (y + 9)) (h10 : ¬ S (y + 10)) : mo_I y d :=
  ⟨mo_rc hk.1 hk.2.1 (hs _ h10) hI.1, fun s s0 s1 => mo_uc (hs _ h5 s) (hs _ h6 s) (fun k _ _ => hs _ h7 _) (fun k _ _ => hs _ h9 _) (hI.2 s s0 s1)⟩
/-- cells that a call writes on for itself -/
def mo_S (y : Nat) (a : Nat) : Prop := a = y ∨ (y + 11 ≤ a ∧ a < y + 24)
theorem mo_Ik {y : Nat} {c d : aq_C} (hI : mo_I y c) (hs : aq_sm (mo_S y) c d) (hk : mo_k y c d) : mo_I y d := by
  refine mo_Is hI hs hk ?_ ?_ ?_ ?_ ?_ <;> (unfold mo_S; omega)
theorem mo_Sk {y k : Nat} (h : 11 ≤ k) (h2 : k < 24) : mo_S y (y + k) := Or.inr ⟨by omega, by omega⟩
theorem mo_S0 {y : Nat} : mo_S y y := Or.inl rfl
theorem mo_Sa {y a : Nat} (h : mo_S y a) : y ≤ a ∧ a < y + 24 := by
  unfold mo_S at h
  omega
theorem am_andl15 (x : Int) : 0 ≤ am_andl x 15 ∧ am_andl x 15 < 16 := by
  unfold am_andl
  have h1 : (Int64.ofInt x &&& Int64.ofInt 15).toInt = ((Int64.ofInt x).toBitVec &&& (Int64.ofInt 15).toBitVec).toInt := by
    rw [← Int64.toBitVec_and]
    rfl
  rw [h1]
  have h2 : (Int64.ofInt 15).toBitVec = 15#64 := by decide
  rw [h2]
  have h3 : ((Int64.ofInt x).toBitVec &&& 15#64).toNat ≤ 15 := by
    rw [BitVec.toNat_and]
    exact Nat.and_le_right
  rw [BitVec.toInt_eq_toNat_cond]
  split <;> omega

theorem qm_isPlane_in {m s : Nat} {F : aq_F} {c : aq_C} {y : Nat} (hO : mo_0 m F y) {tbl : Int → Int} (hT : mo_T F y tbl) {n bb : Int} (hn1 : 1 ≤ n) (hn4 : n ≤ 4) (hb0 : 0 ≤ bb) (hb1 : bb < bx_K n) {xa : Int} (hxa : xa = 8 * (mo_f n + bb)) : ∀ (d : Nat) (t : Int) (p : Int) (q : Int) (v7 : am_V) (v8 : am_V) (v9 : am_V) (v10 : am_V) (h0 : 0 ≤ q) (h1 : q ≤ 2 * n) (h2 : 0 ≤ p) (h3 : p < 2 * n) (h4 : t = 0 ∨ t = 1) (hd : 2 * n - q < (d : Int)) (K0 : ∀ (t2 : Int) (q2 : Int) (v72 : am_V) (v82 : am_V) (v92 : am_V) (v102 : am_V) (ht : t2 = 0 ∨ t2 = 1), am_E ac_X5_isPlane (116, [vR y, vI n, vI bb, vI xa, vI t2, vI p, vI q2, v72, v82, v92, v102], [], aq_h m s F c) (aq_P m s F c aq_vb)), am_E ac_X5_isPlane (23, [vR y, vI n, vI bb, vI xa, vI t, vI p, vI q, v7, v8, v9, v10], [], aq_h m s F c) (aq_P m s F c aq_vb)
  | 0, t, p, q, v7, v8, v9, v10, h0, h1, h2, h3, h4, hd, K0 => by exfalso; omega
  | d + 1, t, p, q, v7, v8, v9, v10, h0, h1, h2, h3, h4, hd, K0 => by
    obtain ⟨hm, hFo, hG5, hG6, hG7, hG8, hG9, hG10, hG11, hG12, hG13, hG14, hG15, hG16, hG17, hG18, hG19, hG20, hG21, hG22, hG23⟩ := hO
    obtain ⟨hT1, hTt⟩ := hT
    have hfs := mo_fs n
    have hfi := pr_fi hn1 hn4 hb0 hb1
    refine am_E.go (t2 := (25, [vR y, vI n, vI bb, vI xa, vI t, vI p, vI q, v7, v8, v9, v10], [vI q], aq_h m s F c)) rfl rfl ?_
    refine am_E.go (t2 := (26, [vR y, vI n, vI bb, vI xa, vI t, vI p, vI q, v7, v8, v9, v10], [vI 2, vI q], aq_h m s F c)) rfl rfl ?_
    refine am_E.go (t2 := (27, [vR y, vI n, vI bb, vI xa, vI t, vI p, vI q, v7, v8, v9, v10], [vI n, vI 2, vI q], aq_h m s F c)) rfl rfl ?_
    refine ae_mul rfl (am_ri (by omega) (by omega)) ?_
    show am_E _ (28, [vR y, vI n, vI bb, vI xa, vI t, vI p, vI q, v7, v8, v9, v10], [vI (2 * n), vI q], aq_h m s F c) _
    refine ae_icmp rfl (fun (q_1 : (2 * n) ≤ q) => ?_) (fun (q_1 : q < (2 * n)) => ?_)
    · exact K0 t q (v7) (v8) (v9) (v10) (by omega)
    · refine am_E.go (t2 := (32, [vR y, vI n, vI bb, vI xa, vI t, vI p, vI q, v7, v8, v9, v10], [vI n], aq_h m s F c)) rfl rfl ?_
      refine am_E.go (t2 := (34, [vR y, vI n, vI bb, vI xa, vI t, vI p, vI q, v7, v8, v9, v10], [vI p, vI n], aq_h m s F c)) rfl rfl ?_
      refine am_E.call rfl rfl rfl (Nat.le_of_ble_eq_true rfl) (qm_round) ?_
      rintro r5 h5 ⟨rfl, v_2, rfl⟩
      show am_E _ (37, [vR y, vI n, vI bb, vI xa, vI t, vI p, vI q, v7, v8, v9, v10], [vI v_2], aq_h m s F c) _
      refine am_E.go (t2 := (39, [vR y, vI n, vI bb, vI xa, vI t, vI p, vI q, vI v_2, v8, v9, v10], [], aq_h m s F c)) rfl rfl ?_
      refine am_E.go (t2 := (40, [vR y, vI n, vI bb, vI xa, vI t, vI p, vI q, vI v_2, v8, v9, v10], [vI n], aq_h m s F c)) rfl rfl ?_
      refine am_E.go (t2 := (41, [vR y, vI n, vI bb, vI xa, vI t, vI p, vI q, vI v_2, v8, v9, v10], [vR y, vI n], aq_h m s F c)) rfl rfl ?_
      refine aq_gf (v := vR (y + 1)) rfl (by omega) hFo (by decide) rfl ?_
      show am_E _ (44, [vR y, vI n, vI bb, vI xa, vI t, vI p, vI q, vI v_2, v8, v9, v10], [vR (y + 1), vI n], aq_h m s F c) _
      refine am_E.go (t2 := (45, [vR y, vI n, vI bb, vI xa, vI t, vI p, vI q, vI v_2, v8, v9, v10], [vI xa, vR (y + 1), vI n], aq_h m s F c)) rfl rfl ?_
      refine am_E.go (t2 := (47, [vR y, vI n, vI bb, vI xa, vI t, vI p, vI q, vI v_2, v8, v9, v10], [vI p, vI xa, vR (y + 1), vI n], aq_h m s F c)) rfl rfl ?_
      refine ae_add rfl (am_ri (by omega) (by omega)) ?_
      show am_E _ (48, [vR y, vI n, vI bb, vI xa, vI t, vI p, vI q, vI v_2, v8, v9, v10], [vI (xa + p), vR (y + 1), vI n], aq_h m s F c) _
      have e_t := hTt n bb p (by omega) (by omega) (by omega) (by omega) (by omega) (by omega)
      have e_fg_3 := hfi p (by omega) (by omega)
      refine aq_alt (ok := fun k => k == 0) rfl rfl (by omega) hT1 rfl (by omega) (by omega) ?_
      rw [show tbl (xa + p) = prt n bb p by rw [hxa]; exact e_t]
      show am_E _ (49, [vR y, vI n, vI bb, vI xa, vI t, vI p, vI q, vI v_2, v8, v9, v10], [vI (prt n bb p), vI n], aq_h m s F c) _
      refine am_E.call rfl rfl rfl (Nat.le_of_ble_eq_true rfl) (qm_round) ?_
      rintro r5 h5 ⟨rfl, v_4, rfl⟩
      show am_E _ (52, [vR y, vI n, vI bb, vI xa, vI t, vI p, vI q, vI v_2, v8, v9, v10], [vI v_4], aq_h m s F c) _
      refine am_E.go (t2 := (54, [vR y, vI n, vI bb, vI xa, vI t, vI p, vI q, vI v_2, vI v_4, v9, v10], [], aq_h m s F c)) rfl rfl ?_
      refine am_E.go (t2 := (55, [vR y, vI n, vI bb, vI xa, vI t, vI p, vI q, vI v_2, vI v_4, v9, v10], [vI n], aq_h m s F c)) rfl rfl ?_
      refine am_E.go (t2 := (57, [vR y, vI n, vI bb, vI xa, vI t, vI p, vI q, vI v_2, vI v_4, v9, v10], [vI q, vI n], aq_h m s F c)) rfl rfl ?_
      refine am_E.call rfl rfl rfl (Nat.le_of_ble_eq_true rfl) (qm_round) ?_
      rintro r5 h5 ⟨rfl, v_5, rfl⟩
      show am_E _ (60, [vR y, vI n, vI bb, vI xa, vI t, vI p, vI q, vI v_2, vI v_4, v9, v10], [vI v_5], aq_h m s F c) _
      refine am_E.go (t2 := (62, [vR y, vI n, vI bb, vI xa, vI t, vI p, vI q, vI v_2, vI v_4, vI v_5, v10], [], aq_h m s F c)) rfl rfl ?_
      refine am_E.go (t2 := (63, [vR y, vI n, vI bb, vI xa, vI t, vI p, vI q, vI v_2, vI v_4, vI v_5, v10], [vI n], aq_h m s F c)) rfl rfl ?_
      refine am_E.go (t2 := (64, [vR y, vI n, vI bb, vI xa, vI t, vI p, vI q, vI v_2, vI v_4, vI v_5, v10], [vR y, vI n], aq_h m s F c)) rfl rfl ?_
      refine aq_gf (v := vR (y + 1)) rfl (by omega) hFo (by decide) rfl ?_
      show am_E _ (67, [vR y, vI n, vI bb, vI xa, vI t, vI p, vI q, vI v_2, vI v_4, vI v_5, v10], [vR (y + 1), vI n], aq_h m s F c) _
      refine am_E.go (t2 := (68, [vR y, vI n, vI bb, vI xa, vI t, vI p, vI q, vI v_2, vI v_4, vI v_5, v10], [vI xa, vR (y + 1), vI n], aq_h m s F c)) rfl rfl ?_
      refine am_E.go (t2 := (70, [vR y, vI n, vI bb, vI xa, vI t, vI p, vI q, vI v_2, vI v_4, vI v_5, v10], [vI q, vI xa, vR (y + 1), vI n], aq_h m s F c)) rfl rfl ?_
      refine ae_add rfl (am_ri (by omega) (by omega)) ?_
      show am_E _ (71, [vR y, vI n, vI bb, vI xa, vI t, vI p, vI q, vI v_2, vI v_4, vI v_5, v10], [vI (xa + q), vR (y + 1), vI n], aq_h m s F c) _
      have e_t := hTt n bb q (by omega) (by omega) (by omega) (by omega) (by omega) (by omega)
      have e_fg_6 := hfi q (by omega) (by omega)
      refine aq_alt (ok := fun k => k == 0) rfl rfl (by omega) hT1 rfl (by omega) (by omega) ?_
      rw [show tbl (xa + q) = prt n bb q by rw [hxa]; exact e_t]
      show am_E _ (72, [vR y, vI n, vI bb, vI xa, vI t, vI p, vI q, vI v_2, vI v_4, vI v_5, v10], [vI (prt n bb q), vI n], aq_h m s F c) _
      refine am_E.call rfl rfl rfl (Nat.le_of_ble_eq_true rfl) (qm_round) ?_
      rintro r5 h5 ⟨rfl, v_7, rfl⟩
      show am_E _ (75, [vR y, vI n, vI bb, vI xa, vI t, vI p, vI q, vI v_2, vI v_4, vI v_5, v10], [vI v_7], aq_h m s F c) _
      refine am_E.go (t2 := (77, [vR y, vI n, vI bb, vI xa, vI t, vI p, vI q, vI v_2, vI v_4, vI v_5, vI v_7], [], aq_h m s F c)) rfl rfl ?_
      refine am_E.go (t2 := (79, [vR y, vI n, vI bb, vI xa, vI t, vI p, vI q, vI v_2, vI v_4, vI v_5, vI v_7], [vI t], aq_h m s F c)) rfl rfl ?_
      refine ae_if0 rfl (fun (q_8 : t = 0) => ?_) (fun (q_8 : t ≠ 0) => ?_)
      · refine am_E.go (t2 := (108, [vR y, vI n, vI bb, vI xa, vI t, vI p, vI q, vI v_2, vI v_4, vI v_5, vI v_7], [vI 0], aq_h m s F c)) rfl rfl ?_
        refine am_E.go (t2 := (110, [vR y, vI n, vI bb, vI xa, vI 0, vI p, vI q, vI v_2, vI v_4, vI v_5, vI v_7], [], aq_h m s F c)) rfl rfl ?_
        refine ae_iinc rfl rfl (am_ri (by omega) (by omega)) ?_
        show am_E _ (113, [vR y, vI n, vI bb, vI xa, vI 0, vI p, vI (q + 1), vI v_2, vI v_4, vI v_5, vI v_7], [], aq_h m s F c) _
        refine am_E.go (t2 := (23, [vR y, vI n, vI bb, vI xa, vI 0, vI p, vI (q + 1), vI v_2, vI v_4, vI v_5, vI v_7], [], aq_h m s F c)) rfl rfl ?_
        exact qm_isPlane_in ⟨hm, hFo, hG5, hG6, hG7, hG8, hG9, hG10, hG11, hG12, hG13, hG14, hG15, hG16, hG17, hG18, hG19, hG20, hG21, hG22, hG23⟩ ⟨hT1, hTt⟩ hn1 hn4 hb0 hb1 hxa d 0 p (q + 1) (vI v_2) (vI v_4) (vI v_5) (vI v_7) (by omega) (by omega) (by omega) (by omega) (by omega) (by omega) K0
      · refine am_E.go (t2 := (84, [vR y, vI n, vI bb, vI xa, vI t, vI p, vI q, vI v_2, vI v_4, vI v_5, vI v_7], [vI v_2], aq_h m s F c)) rfl rfl ?_
        refine am_E.go (t2 := (86, [vR y, vI n, vI bb, vI xa, vI t, vI p, vI q, vI v_2, vI v_4, vI v_5, vI v_7], [vI v_5, vI v_2], aq_h m s F c)) rfl rfl ?_
        refine ae_icmp rfl (fun (q_9 : v_5 ≤ v_2) => ?_) (fun (q_9 : v_2 < v_5) => ?_)
        · refine am_E.go (t2 := (104, [vR y, vI n, vI bb, vI xa, vI t, vI p, vI q, vI v_2, vI v_4, vI v_5, vI v_7], [vI 1], aq_h m s F c)) rfl rfl ?_
          refine am_E.go (t2 := (108, [vR y, vI n, vI bb, vI xa, vI t, vI p, vI q, vI v_2, vI v_4, vI v_5, vI v_7], [vI 1], aq_h m s F c)) rfl rfl ?_
          refine am_E.go (t2 := (110, [vR y, vI n, vI bb, vI xa, vI 1, vI p, vI q, vI v_2, vI v_4, vI v_5, vI v_7], [], aq_h m s F c)) rfl rfl ?_
          refine ae_iinc rfl rfl (am_ri (by omega) (by omega)) ?_
          show am_E _ (113, [vR y, vI n, vI bb, vI xa, vI 1, vI p, vI (q + 1), vI v_2, vI v_4, vI v_5, vI v_7], [], aq_h m s F c) _
          refine am_E.go (t2 := (23, [vR y, vI n, vI bb, vI xa, vI 1, vI p, vI (q + 1), vI v_2, vI v_4, vI v_5, vI v_7], [], aq_h m s F c)) rfl rfl ?_
          exact qm_isPlane_in ⟨hm, hFo, hG5, hG6, hG7, hG8, hG9, hG10, hG11, hG12, hG13, hG14, hG15, hG16, hG17, hG18, hG19, hG20, hG21, hG22, hG23⟩ ⟨hT1, hTt⟩ hn1 hn4 hb0 hb1 hxa d 1 p (q + 1) (vI v_2) (vI v_4) (vI v_5) (vI v_7) (by omega) (by omega) (by omega) (by omega) (by omega) (by omega) K0
        · refine am_E.go (t2 := (91, [vR y, vI n, vI bb, vI xa, vI t, vI p, vI q, vI v_2, vI v_4, vI v_5, vI v_7], [vI v_5], aq_h m s F c)) rfl rfl ?_
          refine am_E.go (t2 := (93, [vR y, vI n, vI bb, vI xa, vI t, vI p, vI q, vI v_2, vI v_4, vI v_5, vI v_7], [vI v_4, vI v_5], aq_h m s F c)) rfl rfl ?_
          refine ae_icmp rfl (fun (q_10 : v_4 ≤ v_5) => ?_) (fun (q_10 : v_5 < v_4) => ?_)
          · refine am_E.go (t2 := (104, [vR y, vI n, vI bb, vI xa, vI t, vI p, vI q, vI v_2, vI v_4, vI v_5, vI v_7], [vI 1], aq_h m s F c)) rfl rfl ?_
            refine am_E.go (t2 := (108, [vR y, vI n, vI bb, vI xa, vI t, vI p, vI q, vI v_2, vI v_4, vI v_5, vI v_7], [vI 1], aq_h m s F c)) rfl rfl ?_
            refine am_E.go (t2 := (110, [vR y, vI n, vI bb, vI xa, vI 1, vI p, vI q, vI v_2, vI v_4, vI v_5, vI v_7], [], aq_h m s F c)) rfl rfl ?_
            refine ae_iinc rfl rfl (am_ri (by omega) (by omega)) ?_
            show am_E _ (113, [vR y, vI n, vI bb, vI xa, vI 1, vI p, vI (q + 1), vI v_2, vI v_4, vI v_5, vI v_7], [], aq_h m s F c) _
            refine am_E.go (t2 := (23, [vR y, vI n, vI bb, vI xa, vI 1, vI p, vI (q + 1), vI v_2, vI v_4, vI v_5, vI v_7], [], aq_h m s F c)) rfl rfl ?_
            exact qm_isPlane_in ⟨hm, hFo, hG5, hG6, hG7, hG8, hG9, hG10, hG11, hG12, hG13, hG14, hG15, hG16, hG17, hG18, hG19, hG20, hG21, hG22, hG23⟩ ⟨hT1, hTt⟩ hn1 hn4 hb0 hb1 hxa d 1 p (q + 1) (vI v_2) (vI v_4) (vI v_5) (vI v_7) (by omega) (by omega) (by omega) (by omega) (by omega) (by omega) K0
          · refine am_E.go (t2 := (98, [vR y, vI n, vI bb, vI xa, vI t, vI p, vI q, vI v_2, vI v_4, vI v_5, vI v_7], [vI v_4], aq_h m s F c)) rfl rfl ?_
            refine am_E.go (t2 := (100, [vR y, vI n, vI bb, vI xa, vI t, vI p, vI q, vI v_2, vI v_4, vI v_5, vI v_7], [vI v_7, vI v_4], aq_h m s F c)) rfl rfl ?_
            refine ae_icmp rfl (fun (q_11 : v_4 < v_7) => ?_) (fun (q_11 : v_7 ≤ v_4) => ?_)
            · refine am_E.go (t2 := (108, [vR y, vI n, vI bb, vI xa, vI t, vI p, vI q, vI v_2, vI v_4, vI v_5, vI v_7], [vI 0], aq_h m s F c)) rfl rfl ?_
              refine am_E.go (t2 := (110, [vR y, vI n, vI bb, vI xa, vI 0, vI p, vI q, vI v_2, vI v_4, vI v_5, vI v_7], [], aq_h m s F c)) rfl rfl ?_
              refine ae_iinc rfl rfl (am_ri (by omega) (by omega)) ?_
              show am_E _ (113, [vR y, vI n, vI bb, vI xa, vI 0, vI p, vI (q + 1), vI v_2, vI v_4, vI v_5, vI v_7], [], aq_h m s F c) _
              refine am_E.go (t2 := (23, [vR y, vI n, vI bb, vI xa, vI 0, vI p, vI (q + 1), vI v_2, vI v_4, vI v_5, vI v_7], [], aq_h m s F c)) rfl rfl ?_
              exact qm_isPlane_in ⟨hm, hFo, hG5, hG6, hG7, hG8, hG9, hG10, hG11, hG12, hG13, hG14, hG15, hG16, hG17, hG18, hG19, hG20, hG21, hG22, hG23⟩ ⟨hT1, hTt⟩ hn1 hn4 hb0 hb1 hxa d 0 p (q + 1) (vI v_2) (vI v_4) (vI v_5) (vI v_7) (by omega) (by omega) (by omega) (by omega) (by omega) (by omega) K0
            · refine am_E.go (t2 := (104, [vR y, vI n, vI bb, vI xa, vI t, vI p, vI q, vI v_2, vI v_4, vI v_5, vI v_7], [vI 1], aq_h m s F c)) rfl rfl ?_
              refine am_E.go (t2 := (108, [vR y, vI n, vI bb, vI xa, vI t, vI p, vI q, vI v_2, vI v_4, vI v_5, vI v_7], [vI 1], aq_h m s F c)) rfl rfl ?_
              refine am_E.go (t2 := (110, [vR y, vI n, vI bb, vI xa, vI 1, vI p, vI q, vI v_2, vI v_4, vI v_5, vI v_7], [], aq_h m s F c)) rfl rfl ?_
              refine ae_iinc rfl rfl (am_ri (by omega) (by omega)) ?_
              show am_E _ (113, [vR y, vI n, vI bb, vI xa, vI 1, vI p, vI (q + 1), vI v_2, vI v_4, vI v_5, vI v_7], [], aq_h m s F c) _
              refine am_E.go (t2 := (23, [vR y, vI n, vI bb, vI xa, vI 1, vI p, vI (q + 1), vI v_2, vI v_4, vI v_5, vI v_7], [], aq_h m s F c)) rfl rfl ?_
              exact qm_isPlane_in ⟨hm, hFo, hG5, hG6, hG7, hG8, hG9, hG10, hG11, hG12, hG13, hG14, hG15, hG16, hG17, hG18, hG19, hG20, hG21, hG22, hG23⟩ ⟨hT1, hTt⟩ hn1 hn4 hb0 hb1 hxa d 1 p (q + 1) (vI v_2) (vI v_4) (vI v_5) (vI v_7) (by omega) (by omega) (by omega) (by omega) (by omega) (by omega) K0

theorem qm_isPlane_out {m s : Nat} {F : aq_F} {c : aq_C} {y : Nat} (hO : mo_0 m F y) {tbl : Int → Int} (hT : mo_T F y tbl) {n bb : Int} (hn1 : 1 ≤ n) (hn4 : n ≤ 4) (hb0 : 0 ≤ bb) (hb1 : bb < bx_K n) {xa : Int} (hxa : xa = 8 * (mo_f n + bb)) : ∀ (d : Nat) (t : Int) (p : Int) (v6 : am_V) (v7 : am_V) (v8 : am_V) (v9 : am_V) (v10 : am_V) (h0 : 0 ≤ p) (h1 : p ≤ 2 * n) (h4 : t = 0 ∨ t = 1) (hd : 2 * n - p < (d : Int)), am_E ac_X5_isPlane (12, [vR y, vI n, vI bb, vI xa, vI t, vI p, v6, v7, v8, v9, v10], [], aq_h m s F c) (aq_P m s F c aq_vb)
  | 0, t, p, v6, v7, v8, v9, v10, h0, h1, h4, hd => by exfalso; omega
  | d + 1, t, p, v6, v7, v8, v9, v10, h0, h1, h4, hd => by
    obtain ⟨hm, hFo, hG5, hG6, hG7, hG8, hG9, hG10, hG11, hG12, hG13, hG14, hG15, hG16, hG17, hG18, hG19, hG20, hG21, hG22, hG23⟩ := hO
    obtain ⟨hT1, hTt⟩ := hT
    have hfs := mo_fs n
    have hfi := pr_fi hn1 hn4 hb0 hb1
    refine am_E.go (t2 := (14, [vR y, vI n, vI bb, vI xa, vI t, vI p, v6, v7, v8, v9, v10], [vI p], aq_h m s F c)) rfl rfl ?_
    refine am_E.go (t2 := (15, [vR y, vI n, vI bb, vI xa, vI t, vI p, v6, v7, v8, v9, v10], [vI 2, vI p], aq_h m s F c)) rfl rfl ?_
    refine am_E.go (t2 := (16, [vR y, vI n, vI bb, vI xa, vI t, vI p, v6, v7, v8, v9, v10], [vI n, vI 2, vI p], aq_h m s F c)) rfl rfl ?_
    refine ae_mul rfl (am_ri (by omega) (by omega)) ?_
    show am_E _ (17, [vR y, vI n, vI bb, vI xa, vI t, vI p, v6, v7, v8, v9, v10], [vI (2 * n), vI p], aq_h m s F c) _
    refine ae_icmp rfl (fun (q_1 : (2 * n) ≤ p) => ?_) (fun (q_1 : p < (2 * n)) => ?_)
    · refine am_E.go (t2 := (124, [vR y, vI n, vI bb, vI xa, vI t, vI p, v6, v7, v8, v9, v10], [vI t], aq_h m s F c)) rfl rfl ?_
      refine ae_retb rfl (by omega) ?_
      exact ⟨rfl, _, rfl, by omega⟩
    · refine am_E.go (t2 := (21, [vR y, vI n, vI bb, vI xa, vI t, vI p, v6, v7, v8, v9, v10], [vI 0], aq_h m s F c)) rfl rfl ?_
      refine am_E.go (t2 := (23, [vR y, vI n, vI bb, vI xa, vI t, vI p, vI 0, v7, v8, v9, v10], [], aq_h m s F c)) rfl rfl ?_
      refine qm_isPlane_in ⟨hm, hFo, hG5, hG6, hG7, hG8, hG9, hG10, hG11, hG12, hG13, hG14, hG15, hG16, hG17, hG18, hG19, hG20, hG21, hG22, hG23⟩ ⟨hT1, hTt⟩ hn1 hn4 hb0 hb1 hxa 9 t p 0 (v7) (v8) (v9) (v10) (by omega) (by omega) (by omega) (by omega) (by omega) (by omega) ?_
      · intro t2_23 q2_23 v72_23 v82_23 v92_23 v102_23 ht_23
        refine ae_iinc rfl rfl (am_ri (by omega) (by omega)) ?_
        show am_E _ (119, [vR y, vI n, vI bb, vI xa, vI t2_23, vI (p + 1), vI q2_23, v72_23, v82_23, v92_23, v102_23], [], aq_h m s F c) _
        refine am_E.go (t2 := (12, [vR y, vI n, vI bb, vI xa, vI t2_23, vI (p + 1), vI q2_23, v72_23, v82_23, v92_23, v102_23], [], aq_h m s F c)) rfl rfl ?_
        exact qm_isPlane_out ⟨hm, hFo, hG5, hG6, hG7, hG8, hG9, hG10, hG11, hG12, hG13, hG14, hG15, hG16, hG17, hG18, hG19, hG20, hG21, hG22, hG23⟩ ⟨hT1, hTt⟩ hn1 hn4 hb0 hb1 hxa d t2_23 (p + 1) (vI q2_23) (v72_23) (v82_23) (v92_23) (v102_23) (by omega) (by omega) (by omega) (by omega)

theorem qm_isPlane {m s : Nat} {F : aq_F} {c : aq_C} {y : Nat} (hO : mo_0 m F y) {tbl : Int → Int} (hT : mo_T F y tbl) {n bb : Int} (hn1 : 1 ≤ n) (hn4 : n ≤ 4) (hb0 : 0 ≤ bb) (hb1 : bb < bx_K n) : am_E ac_X5_isPlane (0, [vR y, vI n, vI bb, vU, vU, vU, vU, vU, vU, vU, vU], [], aq_h m s F c) (aq_P m s F c aq_vb) := by
  obtain ⟨hm, hFo, hG5, hG6, hG7, hG8, hG9, hG10, hG11, hG12, hG13, hG14, hG15, hG16, hG17, hG18, hG19, hG20, hG21, hG22, hG23⟩ := hO
  obtain ⟨hT1, hTt⟩ := hT
  have hfs := mo_fs n
  have hfi := pr_fi hn1 hn4 hb0 hb1
  refine am_E.go (t2 := (1, [vR y, vI n, vI bb, vU, vU, vU, vU, vU, vU, vU, vU], [vI n], aq_h m s F c)) rfl rfl ?_
  refine am_E.go (t2 := (2, [vR y, vI n, vI bb, vU, vU, vU, vU, vU, vU, vU, vU], [vI bb, vI n], aq_h m s F c)) rfl rfl ?_
  refine am_E.call rfl rfl rfl (Nat.le_of_ble_eq_true rfl) (qm_at (by omega) (by omega)) ?_
  rintro r5 h5 ⟨rfl, xa, rfl, hxa⟩
  show am_E _ (5, [vR y, vI n, vI bb, vU, vU, vU, vU, vU, vU, vU, vU], [vI xa], aq_h m s F c) _
  refine am_E.go (t2 := (6, [vR y, vI n, vI bb, vI xa, vU, vU, vU, vU, vU, vU, vU], [], aq_h m s F c)) rfl rfl ?_
  refine am_E.go (t2 := (7, [vR y, vI n, vI bb, vI xa, vU, vU, vU, vU, vU, vU, vU], [vI 1], aq_h m s F c)) rfl rfl ?_
  refine am_E.go (t2 := (9, [vR y, vI n, vI bb, vI xa, vI 1, vU, vU, vU, vU, vU, vU], [], aq_h m s F c)) rfl rfl ?_
  refine am_E.go (t2 := (10, [vR y, vI n, vI bb, vI xa, vI 1, vU, vU, vU, vU, vU, vU], [vI 0], aq_h m s F c)) rfl rfl ?_
  refine am_E.go (t2 := (12, [vR y, vI n, vI bb, vI xa, vI 1, vI 0, vU, vU, vU, vU, vU], [], aq_h m s F c)) rfl rfl ?_
  exact qm_isPlane_out ⟨hm, hFo, hG5, hG6, hG7, hG8, hG9, hG10, hG11, hG12, hG13, hG14, hG15, hG16, hG17, hG18, hG19, hG20, hG21, hG22, hG23⟩ ⟨hT1, hTt⟩ hn1 hn4 hb0 hb1 hxa 9 1 0 (vU) (vU) (vU) (vU) (vU) (by omega) (by omega) (by omega) (by omega)

theorem qm_through_l {m s : Nat} {F : aq_F} {c : aq_C} {y : Nat} (hO : mo_0 m F y) {tbl : Int → Int} (hT : mo_T F y tbl) {n bb : Int} (hn1 : 1 ≤ n) (hn4 : n ≤ 4) (hb0 : 0 ≤ bb) (hb1 : bb < bx_K n) : ∀ (d : Nat) (x : Int) (p : Int) (h0 : 0 ≤ p) (h1 : p ≤ n) (hd : n - p < (d : Int)), am_E ac_X5_through (5, [vR y, vI n, vI bb, vI x, vI p], [], aq_h m s F c) (aq_P m s F c aq_vi)
  | 0, x, p, h0, h1, hd => by exfalso; omega
  | d + 1, x, p, h0, h1, hd => by
    obtain ⟨hm, hFo, hG5, hG6, hG7, hG8, hG9, hG10, hG11, hG12, hG13, hG14, hG15, hG16, hG17, hG18, hG19, hG20, hG21, hG22, hG23⟩ := hO
    obtain ⟨hT1, hTt⟩ := hT
    have hfs := mo_fs n
    have hfi := pr_fi hn1 hn4 hb0 hb1
    refine am_E.go (t2 := (7, [vR y, vI n, vI bb, vI x, vI p], [vI p], aq_h m s F c)) rfl rfl ?_
    refine am_E.go (t2 := (8, [vR y, vI n, vI bb, vI x, vI p], [vI n, vI p], aq_h m s F c)) rfl rfl ?_
    refine ae_icmp rfl (fun (q_1 : n ≤ p) => ?_) (fun (q_1 : p < n) => ?_)
    · refine am_E.go (t2 := (43, [vR y, vI n, vI bb, vI x, vI p], [vI x], aq_h m s F c)) rfl rfl ?_
      refine am_E.ret rfl rfl ?_
      exact ⟨rfl, _, rfl⟩
    · refine am_E.go (t2 := (12, [vR y, vI n, vI bb, vI x, vI p], [vI x], aq_h m s F c)) rfl rfl ?_
      refine am_E.go (t2 := (13, [vR y, vI n, vI bb, vI x, vI p], [vR y, vI x], aq_h m s F c)) rfl rfl ?_
      refine aq_gf (v := vR (y + 1)) rfl (by omega) hFo (by decide) rfl ?_
      show am_E _ (16, [vR y, vI n, vI bb, vI x, vI p], [vR (y + 1), vI x], aq_h m s F c) _
      refine am_E.go (t2 := (17, [vR y, vI n, vI bb, vI x, vI p], [vI n, vR (y + 1), vI x], aq_h m s F c)) rfl rfl ?_
      refine am_E.go (t2 := (18, [vR y, vI n, vI bb, vI x, vI p], [vI bb, vI n, vR (y + 1), vI x], aq_h m s F c)) rfl rfl ?_
      refine am_E.call rfl rfl rfl (Nat.le_of_ble_eq_true rfl) (qm_at (by omega) (by omega)) ?_
      rintro r5 h5 ⟨rfl, xa, rfl, hxa⟩
      show am_E _ (21, [vR y, vI n, vI bb, vI x, vI p], [vI xa, vR (y + 1), vI x], aq_h m s F c) _
      refine am_E.go (t2 := (23, [vR y, vI n, vI bb, vI x, vI p], [vI p, vI xa, vR (y + 1), vI x], aq_h m s F c)) rfl rfl ?_
      refine ae_add rfl (am_ri (by omega) (by omega)) ?_
      show am_E _ (24, [vR y, vI n, vI bb, vI x, vI p], [vI (xa + p), vR (y + 1), vI x], aq_h m s F c) _
      have e_t := hTt n bb p (by omega) (by omega) (by omega) (by omega) (by omega) (by omega)
      have e_fg_2 := hfi p (by omega) (by omega)
      refine aq_alt (ok := fun k => k == 0) rfl rfl (by omega) hT1 rfl (by omega) (by omega) ?_
      rw [show tbl (xa + p) = prt n bb p by rw [hxa]; exact e_t]
      show am_E _ (25, [vR y, vI n, vI bb, vI x, vI p], [vI (prt n bb p), vI x], aq_h m s F c) _
      refine am_E.go (t2 := (26, [vR y, vI n, vI bb, vI x, vI p], [vI n, vI (prt n bb p), vI x], aq_h m s F c)) rfl rfl ?_
      refine ae_icmp rfl (fun (q_3 : (prt n bb p) < n) => ?_) (fun (q_3 : n ≤ (prt n bb p)) => ?_)
      · refine am_E.go (t2 := (34, [vR y, vI n, vI bb, vI x, vI p], [vI 0, vI x], aq_h m s F c)) rfl rfl ?_
        refine am_E.go (t2 := (35, [vR y, vI n, vI bb, vI x, vI p], [vI (am_w (x + 0))], aq_h m s F c)) rfl rfl ?_
        refine am_E.go (t2 := (36, [vR y, vI n, vI bb, vI (am_w (x + 0)), vI p], [], aq_h m s F c)) rfl rfl ?_
        refine ae_iinc rfl rfl (am_ri (by omega) (by omega)) ?_
        show am_E _ (39, [vR y, vI n, vI bb, vI (am_w (x + 0)), vI (p + 1)], [], aq_h m s F c) _
        refine am_E.go (t2 := (5, [vR y, vI n, vI bb, vI (am_w (x + 0)), vI (p + 1)], [], aq_h m s F c)) rfl rfl ?_
        exact qm_through_l ⟨hm, hFo, hG5, hG6, hG7, hG8, hG9, hG10, hG11, hG12, hG13, hG14, hG15, hG16, hG17, hG18, hG19, hG20, hG21, hG22, hG23⟩ ⟨hT1, hTt⟩ hn1 hn4 hb0 hb1 d (am_w (x + 0)) (p + 1) (by omega) (by omega) (by omega)
      · refine am_E.go (t2 := (30, [vR y, vI n, vI bb, vI x, vI p], [vI 1, vI x], aq_h m s F c)) rfl rfl ?_
        refine am_E.go (t2 := (34, [vR y, vI n, vI bb, vI x, vI p], [vI 1, vI x], aq_h m s F c)) rfl rfl ?_
        refine am_E.go (t2 := (35, [vR y, vI n, vI bb, vI x, vI p], [vI (am_w (x + 1))], aq_h m s F c)) rfl rfl ?_
        refine am_E.go (t2 := (36, [vR y, vI n, vI bb, vI (am_w (x + 1)), vI p], [], aq_h m s F c)) rfl rfl ?_
        refine ae_iinc rfl rfl (am_ri (by omega) (by omega)) ?_
        show am_E _ (39, [vR y, vI n, vI bb, vI (am_w (x + 1)), vI (p + 1)], [], aq_h m s F c) _
        refine am_E.go (t2 := (5, [vR y, vI n, vI bb, vI (am_w (x + 1)), vI (p + 1)], [], aq_h m s F c)) rfl rfl ?_
        exact qm_through_l ⟨hm, hFo, hG5, hG6, hG7, hG8, hG9, hG10, hG11, hG12, hG13, hG14, hG15, hG16, hG17, hG18, hG19, hG20, hG21, hG22, hG23⟩ ⟨hT1, hTt⟩ hn1 hn4 hb0 hb1 d (am_w (x + 1)) (p + 1) (by omega) (by omega) (by omega)

theorem qm_through {m s : Nat} {F : aq_F} {c : aq_C} {y : Nat} (hO : mo_0 m F y) {tbl : Int → Int} (hT : mo_T F y tbl) {n bb : Int} (hn1 : 1 ≤ n) (hn4 : n ≤ 4) (hb0 : 0 ≤ bb) (hb1 : bb < bx_K n) : am_E ac_X5_through (0, [vR y, vI n, vI bb, vU, vU], [], aq_h m s F c) (aq_P m s F c aq_vi) := by
  obtain ⟨hm, hFo, hG5, hG6, hG7, hG8, hG9, hG10, hG11, hG12, hG13, hG14, hG15, hG16, hG17, hG18, hG19, hG20, hG21, hG22, hG23⟩ := hO
  obtain ⟨hT1, hTt⟩ := hT
  have hfs := mo_fs n
  have hfi := pr_fi hn1 hn4 hb0 hb1
  refine am_E.go (t2 := (1, [vR y, vI n, vI bb, vU, vU], [vI 0], aq_h m s F c)) rfl rfl ?_
  refine am_E.go (t2 := (2, [vR y, vI n, vI bb, vI 0, vU], [], aq_h m s F c)) rfl rfl ?_
  refine am_E.go (t2 := (3, [vR y, vI n, vI bb, vI 0, vU], [vI 0], aq_h m s F c)) rfl rfl ?_
  refine am_E.go (t2 := (5, [vR y, vI n, vI bb, vI 0, vI 0], [], aq_h m s F c)) rfl rfl ?_
  exact qm_through_l ⟨hm, hFo, hG5, hG6, hG7, hG8, hG9, hG10, hG11, hG12, hG13, hG14, hG15, hG16, hG17, hG18, hG19, hG20, hG21, hG22, hG23⟩ ⟨hT1, hTt⟩ hn1 hn4 hb0 hb1 9 0 0 (by omega) (by omega) (by omega)

theorem qm_upsideDown_l {m s : Nat} {F : aq_F} {c0 : aq_C} {S : Nat → Prop} {y : Nat} (hO : mo_0 m F y) (hS12 : S (y + 12)) {tbl : Int → Int} (hT : mo_T F y tbl) {n bb : Int} (hn1 : 1 ≤ n) (hn4 : n ≤ 4) (hb0 : 0 ≤ bb) (hb1 : bb < bx_K n) : ∀ (d : Nat) (p : Int) (v4 : am_V) (c : aq_C) (hs : aq_sm S c0 c) (h0 : 0 ≤ p) (h1 : p ≤ 2 * n) (hd : 2 * n - p < (d : Int)), am_E ac_X5_upsideDown (2, [vR y, vI n, vI bb, vI p, v4], [], aq_h m s F c) (aq_Z m s F S c0 (fun r _ => aq_vi r))
  | 0, p, v4, c, hs, h0, h1, hd => by exfalso; omega
  | d + 1, p, v4, c, hs, h0, h1, hd => by
    obtain ⟨hm, hFo, hG5, hG6, hG7, hG8, hG9, hG10, hG11, hG12, hG13, hG14, hG15, hG16, hG17, hG18, hG19, hG20, hG21, hG22, hG23⟩ := hO
    obtain ⟨hT1, hTt⟩ := hT
    have hfs := mo_fs n
    have hfi := pr_fi hn1 hn4 hb0 hb1
    refine am_E.go (t2 := (3, [vR y, vI n, vI bb, vI p, v4], [vI p], aq_h m s F c)) rfl rfl ?_
    refine am_E.go (t2 := (4, [vR y, vI n, vI bb, vI p, v4], [vI 2, vI p], aq_h m s F c)) rfl rfl ?_
    refine am_E.go (t2 := (5, [vR y, vI n, vI bb, vI p, v4], [vI n, vI 2, vI p], aq_h m s F c)) rfl rfl ?_
    refine ae_mul rfl (am_ri (by omega) (by omega)) ?_
    show am_E _ (6, [vR y, vI n, vI bb, vI p, v4], [vI (2 * n), vI p], aq_h m s F c) _
    refine ae_icmp rfl (fun (q_1 : (2 * n) ≤ p) => ?_) (fun (q_1 : p < (2 * n)) => ?_)
    · refine am_E.go (t2 := (66, [vR y, vI n, vI bb, vI p, v4], [vR y], aq_h m s F c)) rfl rfl ?_
      refine am_E.go (t2 := (67, [vR y, vI n, vI bb, vI p, v4], [vI n, vR y], aq_h m s F c)) rfl rfl ?_
      refine aq_callv (y := 2) (as2 := [vI n]) (rest := []) rfl rfl (by decide) (Nat.le_of_ble_eq_true rfl) rfl rfl (Nat.le_of_ble_eq_true rfl) (by omega) hFo rfl (Nat.le_of_ble_eq_true rfl) (qm_numberOf ⟨hm, hFo, hG5, hG6, hG7, hG8, hG9, hG10, hG11, hG12, hG13, hG14, hG15, hG16, hG17, hG18, hG19, hG20, hG21, hG22, hG23⟩ ⟨hT1, hTt⟩ hn1 hn4) ?_
      rintro r5 h5 ⟨rfl, v_2, rfl, hv_2⟩
      show am_E _ (70, [vR y, vI n, vI bb, vI p, v4], [vI v_2], aq_h m s F c) _
      refine am_E.ret rfl rfl ?_
      exact ⟨_, rfl, hs, _, rfl⟩
    · refine am_E.go (t2 := (10, [vR y, vI n, vI bb, vI p, v4], [vR y], aq_h m s F c)) rfl rfl ?_
      refine aq_gf (v := vR (y + 1)) rfl (by omega) hFo (by decide) rfl ?_
      show am_E _ (13, [vR y, vI n, vI bb, vI p, v4], [vR (y + 1)], aq_h m s F c) _
      refine am_E.go (t2 := (14, [vR y, vI n, vI bb, vI p, v4], [vI n, vR (y + 1)], aq_h m s F c)) rfl rfl ?_
      refine am_E.go (t2 := (15, [vR y, vI n, vI bb, vI p, v4], [vI bb, vI n, vR (y + 1)], aq_h m s F c)) rfl rfl ?_
      refine am_E.call rfl rfl rfl (Nat.le_of_ble_eq_true rfl) (qm_at (by omega) (by omega)) ?_
      rintro r5 h5 ⟨rfl, xa, rfl, hxa⟩
      show am_E _ (18, [vR y, vI n, vI bb, vI p, v4], [vI xa, vR (y + 1)], aq_h m s F c) _
      refine am_E.go (t2 := (19, [vR y, vI n, vI bb, vI p, v4], [vI p, vI xa, vR (y + 1)], aq_h m s F c)) rfl rfl ?_
      refine ae_add rfl (am_ri (by omega) (by omega)) ?_
      show am_E _ (20, [vR y, vI n, vI bb, vI p, v4], [vI (xa + p), vR (y + 1)], aq_h m s F c) _
      have e_t := hTt n bb p (by omega) (by omega) (by omega) (by omega) (by omega) (by omega)
      have e_fg_3 := hfi p (by omega) (by omega)
      refine aq_alt (ok := fun k => k == 0) rfl rfl (by omega) hT1 rfl (by omega) (by omega) ?_
      rw [show tbl (xa + p) = prt n bb p by rw [hxa]; exact e_t]
      show am_E _ (21, [vR y, vI n, vI bb, vI p, v4], [vI (prt n bb p)], aq_h m s F c) _
      refine am_E.go (t2 := (23, [vR y, vI n, vI bb, vI p, vI (prt n bb p)], [], aq_h m s F c)) rfl rfl ?_
      refine am_E.go (t2 := (24, [vR y, vI n, vI bb, vI p, vI (prt n bb p)], [vR y], aq_h m s F c)) rfl rfl ?_
      refine aq_gf (v := vR (y + 12)) rfl (by omega) hFo (by decide) rfl ?_
      show am_E _ (27, [vR y, vI n, vI bb, vI p, vI (prt n bb p)], [vR (y + 12)], aq_h m s F c) _
      refine am_E.go (t2 := (28, [vR y, vI n, vI bb, vI p, vI (prt n bb p)], [vI p, vR (y + 12)], aq_h m s F c)) rfl rfl ?_
      refine am_E.go (t2 := (29, [vR y, vI n, vI bb, vI p, vI (prt n bb p)], [vI n, vI p, vR (y + 12)], aq_h m s F c)) rfl rfl ?_
      refine ae_icmp rfl (fun (q_4 : n ≤ p) => ?_) (fun (q_4 : p < n) => ?_)
      · refine am_E.go (t2 := (39, [vR y, vI n, vI bb, vI p, vI (prt n bb p)], [vI p, vR (y + 12)], aq_h m s F c)) rfl rfl ?_
        refine am_E.go (t2 := (40, [vR y, vI n, vI bb, vI p, vI (prt n bb p)], [vI n, vI p, vR (y + 12)], aq_h m s F c)) rfl rfl ?_
        refine ae_sub rfl (am_ri (by omega) (by omega)) ?_
        show am_E _ (41, [vR y, vI n, vI bb, vI p, vI (prt n bb p)], [vI (p - n), vR (y + 12)], aq_h m s F c) _
        refine am_E.go (t2 := (43, [vR y, vI n, vI bb, vI p, vI (prt n bb p)], [vI (prt n bb p), vI (p - n), vR (y + 12)], aq_h m s F c)) rfl rfl ?_
        refine am_E.go (t2 := (44, [vR y, vI n, vI bb, vI p, vI (prt n bb p)], [vI n, vI (prt n bb p), vI (p - n), vR (y + 12)], aq_h m s F c)) rfl rfl ?_
        refine ae_icmp rfl (fun (q_5 : n ≤ (prt n bb p)) => ?_) (fun (q_5 : (prt n bb p) < n) => ?_)
        · refine am_E.go (t2 := (56, [vR y, vI n, vI bb, vI p, vI (prt n bb p)], [vI (prt n bb p), vI (p - n), vR (y + 12)], aq_h m s F c)) rfl rfl ?_
          refine am_E.go (t2 := (57, [vR y, vI n, vI bb, vI p, vI (prt n bb p)], [vI n, vI (prt n bb p), vI (p - n), vR (y + 12)], aq_h m s F c)) rfl rfl ?_
          refine ae_sub rfl (am_ri (by omega) (by omega)) ?_
          show am_E _ (58, [vR y, vI n, vI bb, vI p, vI (prt n bb p)], [vI ((prt n bb p) - n), vI (p - n), vR (y + 12)], aq_h m s F c) _
          refine aq_as (kd := 0) rfl rfl (by omega) hG12 (by omega) (by omega) rfl rfl ?_
          show am_E _ (59, [vR y, vI n, vI bb, vI p, vI (prt n bb p)], [], aq_h m s F (aq_u c (y + 12) (p - n) ((prt n bb p) - n))) _
          generalize hdc_6 : aq_u c (y + 12) (p - n) ((prt n bb p) - n) = c_6
          have sc_6 := aq_smu hs hdc_6 (hS12)
          refine ae_iinc rfl rfl (am_ri (by omega) (by omega)) ?_
          show am_E _ (62, [vR y, vI n, vI bb, vI (p + 1), vI (prt n bb p)], [], aq_h m s F c_6) _
          refine am_E.go (t2 := (2, [vR y, vI n, vI bb, vI (p + 1), vI (prt n bb p)], [], aq_h m s F c_6)) rfl rfl ?_
          exact qm_upsideDown_l ⟨hm, hFo, hG5, hG6, hG7, hG8, hG9, hG10, hG11, hG12, hG13, hG14, hG15, hG16, hG17, hG18, hG19, hG20, hG21, hG22, hG23⟩ hS12 ⟨hT1, hTt⟩ hn1 hn4 hb0 hb1 d (p + 1) (vI (prt n bb p)) c_6 sc_6 (by omega) (by omega) (by omega)
        · refine am_E.go (t2 := (49, [vR y, vI n, vI bb, vI p, vI (prt n bb p)], [vI (prt n bb p), vI (p - n), vR (y + 12)], aq_h m s F c)) rfl rfl ?_
          refine am_E.go (t2 := (50, [vR y, vI n, vI bb, vI p, vI (prt n bb p)], [vI n, vI (prt n bb p), vI (p - n), vR (y + 12)], aq_h m s F c)) rfl rfl ?_
          refine ae_add rfl (am_ri (by omega) (by omega)) ?_
          show am_E _ (51, [vR y, vI n, vI bb, vI p, vI (prt n bb p)], [vI ((prt n bb p) + n), vI (p - n), vR (y + 12)], aq_h m s F c) _
          refine am_E.go (t2 := (58, [vR y, vI n, vI bb, vI p, vI (prt n bb p)], [vI ((prt n bb p) + n), vI (p - n), vR (y + 12)], aq_h m s F c)) rfl rfl ?_
          refine aq_as (kd := 0) rfl rfl (by omega) hG12 (by omega) (by omega) rfl rfl ?_
          show am_E _ (59, [vR y, vI n, vI bb, vI p, vI (prt n bb p)], [], aq_h m s F (aq_u c (y + 12) (p - n) ((prt n bb p) + n))) _
          generalize hdc_7 : aq_u c (y + 12) (p - n) ((prt n bb p) + n) = c_7
          have sc_7 := aq_smu hs hdc_7 (hS12)
          refine ae_iinc rfl rfl (am_ri (by omega) (by omega)) ?_
          show am_E _ (62, [vR y, vI n, vI bb, vI (p + 1), vI (prt n bb p)], [], aq_h m s F c_7) _
          refine am_E.go (t2 := (2, [vR y, vI n, vI bb, vI (p + 1), vI (prt n bb p)], [], aq_h m s F c_7)) rfl rfl ?_
          exact qm_upsideDown_l ⟨hm, hFo, hG5, hG6, hG7, hG8, hG9, hG10, hG11, hG12, hG13, hG14, hG15, hG16, hG17, hG18, hG19, hG20, hG21, hG22, hG23⟩ hS12 ⟨hT1, hTt⟩ hn1 hn4 hb0 hb1 d (p + 1) (vI (prt n bb p)) c_7 sc_7 (by omega) (by omega) (by omega)
      · refine am_E.go (t2 := (33, [vR y, vI n, vI bb, vI p, vI (prt n bb p)], [vI p, vR (y + 12)], aq_h m s F c)) rfl rfl ?_
        refine am_E.go (t2 := (34, [vR y, vI n, vI bb, vI p, vI (prt n bb p)], [vI n, vI p, vR (y + 12)], aq_h m s F c)) rfl rfl ?_
        refine ae_add rfl (am_ri (by omega) (by omega)) ?_
        show am_E _ (35, [vR y, vI n, vI bb, vI p, vI (prt n bb p)], [vI (p + n), vR (y + 12)], aq_h m s F c) _
        refine am_E.go (t2 := (41, [vR y, vI n, vI bb, vI p, vI (prt n bb p)], [vI (p + n), vR (y + 12)], aq_h m s F c)) rfl rfl ?_
        refine am_E.go (t2 := (43, [vR y, vI n, vI bb, vI p, vI (prt n bb p)], [vI (prt n bb p), vI (p + n), vR (y + 12)], aq_h m s F c)) rfl rfl ?_
        refine am_E.go (t2 := (44, [vR y, vI n, vI bb, vI p, vI (prt n bb p)], [vI n, vI (prt n bb p), vI (p + n), vR (y + 12)], aq_h m s F c)) rfl rfl ?_
        refine ae_icmp rfl (fun (q_8 : n ≤ (prt n bb p)) => ?_) (fun (q_8 : (prt n bb p) < n) => ?_)
        · refine am_E.go (t2 := (56, [vR y, vI n, vI bb, vI p, vI (prt n bb p)], [vI (prt n bb p), vI (p + n), vR (y + 12)], aq_h m s F c)) rfl rfl ?_
          refine am_E.go (t2 := (57, [vR y, vI n, vI bb, vI p, vI (prt n bb p)], [vI n, vI (prt n bb p), vI (p + n), vR (y + 12)], aq_h m s F c)) rfl rfl ?_
          refine ae_sub rfl (am_ri (by omega) (by omega)) ?_
          show am_E _ (58, [vR y, vI n, vI bb, vI p, vI (prt n bb p)], [vI ((prt n bb p) - n), vI (p + n), vR (y + 12)], aq_h m s F c) _
          refine aq_as (kd := 0) rfl rfl (by omega) hG12 (by omega) (by omega) rfl rfl ?_
          show am_E _ (59, [vR y, vI n, vI bb, vI p, vI (prt n bb p)], [], aq_h m s F (aq_u c (y + 12) (p + n) ((prt n bb p) - n))) _
          generalize hdc_9 : aq_u c (y + 12) (p + n) ((prt n bb p) - n) = c_9
          have sc_9 := aq_smu hs hdc_9 (hS12)
          refine ae_iinc rfl rfl (am_ri (by omega) (by omega)) ?_
          show am_E _ (62, [vR y, vI n, vI bb, vI (p + 1), vI (prt n bb p)], [], aq_h m s F c_9) _
          refine am_E.go (t2 := (2, [vR y, vI n, vI bb, vI (p + 1), vI (prt n bb p)], [], aq_h m s F c_9)) rfl rfl ?_
          exact qm_upsideDown_l ⟨hm, hFo, hG5, hG6, hG7, hG8, hG9, hG10, hG11, hG12, hG13, hG14, hG15, hG16, hG17, hG18, hG19, hG20, hG21, hG22, hG23⟩ hS12 ⟨hT1, hTt⟩ hn1 hn4 hb0 hb1 d (p + 1) (vI (prt n bb p)) c_9 sc_9 (by omega) (by omega) (by omega)
        · refine am_E.go (t2 := (49, [vR y, vI n, vI bb, vI p, vI (prt n bb p)], [vI (prt n bb p), vI (p + n), vR (y + 12)], aq_h m s F c)) rfl rfl ?_
          refine am_E.go (t2 := (50, [vR y, vI n, vI bb, vI p, vI (prt n bb p)], [vI n, vI (prt n bb p), vI (p + n), vR (y + 12)], aq_h m s F c)) rfl rfl ?_
          refine ae_add rfl (am_ri (by omega) (by omega)) ?_
          show am_E _ (51, [vR y, vI n, vI bb, vI p, vI (prt n bb p)], [vI ((prt n bb p) + n), vI (p + n), vR (y + 12)], aq_h m s F c) _
          refine am_E.go (t2 := (58, [vR y, vI n, vI bb, vI p, vI (prt n bb p)], [vI ((prt n bb p) + n), vI (p + n), vR (y + 12)], aq_h m s F c)) rfl rfl ?_
          refine aq_as (kd := 0) rfl rfl (by omega) hG12 (by omega) (by omega) rfl rfl ?_
          show am_E _ (59, [vR y, vI n, vI bb, vI p, vI (prt n bb p)], [], aq_h m s F (aq_u c (y + 12) (p + n) ((prt n bb p) + n))) _
          generalize hdc_10 : aq_u c (y + 12) (p + n) ((prt n bb p) + n) = c_10
          have sc_10 := aq_smu hs hdc_10 (hS12)
          refine ae_iinc rfl rfl (am_ri (by omega) (by omega)) ?_
          show am_E _ (62, [vR y, vI n, vI bb, vI (p + 1), vI (prt n bb p)], [], aq_h m s F c_10) _
          refine am_E.go (t2 := (2, [vR y, vI n, vI bb, vI (p + 1), vI (prt n bb p)], [], aq_h m s F c_10)) rfl rfl ?_
          exact qm_upsideDown_l ⟨hm, hFo, hG5, hG6, hG7, hG8, hG9, hG10, hG11, hG12, hG13, hG14, hG15, hG16, hG17, hG18, hG19, hG20, hG21, hG22, hG23⟩ hS12 ⟨hT1, hTt⟩ hn1 hn4 hb0 hb1 d (p + 1) (vI (prt n bb p)) c_10 sc_10 (by omega) (by omega) (by omega)

theorem qm_upsideDown {m s : Nat} {F : aq_F} {c : aq_C} {S : Nat → Prop} {y : Nat} (hO : mo_0 m F y) (hS12 : S (y + 12)) {tbl : Int → Int} (hT : mo_T F y tbl) {n bb : Int} (hn1 : 1 ≤ n) (hn4 : n ≤ 4) (hb0 : 0 ≤ bb) (hb1 : bb < bx_K n) : am_E ac_X5_upsideDown (0, [vR y, vI n, vI bb, vU, vU], [], aq_h m s F c) (aq_Z m s F S c (fun r _ => aq_vi r)) := by
  obtain ⟨hm, hFo, hG5, hG6, hG7, hG8, hG9, hG10, hG11, hG12, hG13, hG14, hG15, hG16, hG17, hG18, hG19, hG20, hG21, hG22, hG23⟩ := hO
  obtain ⟨hT1, hTt⟩ := hT
  have hfs := mo_fs n
  have hfi := pr_fi hn1 hn4 hb0 hb1
  refine am_E.go (t2 := (1, [vR y, vI n, vI bb, vU, vU], [vI 0], aq_h m s F c)) rfl rfl ?_
  refine am_E.go (t2 := (2, [vR y, vI n, vI bb, vI 0, vU], [], aq_h m s F c)) rfl rfl ?_
  exact qm_upsideDown_l ⟨hm, hFo, hG5, hG6, hG7, hG8, hG9, hG10, hG11, hG12, hG13, hG14, hG15, hG16, hG17, hG18, hG19, hG20, hG21, hG22, hG23⟩ hS12 ⟨hT1, hTt⟩ hn1 hn4 hb0 hb1 9 0 (vU) c aq_sm0 (by omega) (by omega) (by omega)
def mo_q (y : Nat) (c d : aq_C) : Prop := d y 9 = c y 9 ∧ d y 10 = c y 10
theorem mo_q0 {y : Nat} {c : aq_C} : mo_q y c c := ⟨rfl, rfl⟩
theorem mo_qt {y : Nat} {c d e : aq_C} (h1 : mo_q y c d) (h2 : mo_q y d e) : mo_q y c e := ⟨by rw [h2.1, h1.1], by rw [h2.2, h1.2]⟩
theorem mo_qs {S : Nat → Prop} {y : Nat} {c d e : aq_C} (h1 : mo_q y c d) (hs : aq_sm S d e) (hy : ¬ S y) : mo_q y c e := ⟨by rw [hs y hy, h1.1], by rw [hs y hy, h1.2]⟩
theorem mo_qu {y a : Nat} {i x : Int} {c d e : aq_C} (h1 : mo_q y c d) (he : aq_u d a i x = e) (h : y ≠ a ∨ (i ≠ 9 ∧ i ≠ 10)) : mo_q y c e := by
  subst he
  exact ⟨by rw [aq_un (by omega), h1.1], by rw [aq_un (by omega), h1.2]⟩
theorem mo_qk {y : Nat} {c d : aq_C} (h : mo_k y c d) : mo_q y c d := ⟨h.1, h.2.1⟩
/-- place j of the row is a term -/
def mo_v (y : Nat) (K : Int) (c : aq_C) (j : Int) : Prop := 0 ≤ c (y + 15) j ∧ c (y + 15) j < K ∧ c (y + 17) j ≠ 0 ∧ -1000000000000 ≤ c (y + 17) j ∧ c (y + 17) j ≤ 1000000000000
def mo_R (y : Nat) (K : Int) (c : aq_C) : Prop := 0 ≤ c y 17 ∧ c y 17 ≤ 40 ∧ ∀ j, 0 ≤ j → j < c y 17 → mo_v y K c j

theorem qm_move {m s : Nat} {F : aq_F} {c : aq_C} {y : Nat} (hO : mo_0 m F y) {t f : Int} (ht0 : 0 ≤ t) (ht1 : t < 42) (hf0 : 0 ≤ f) (hf1 : f < 42) : am_E ac_X5_move (0, [vR y, vI t, vI f], [], aq_h m s F c) (aq_Z m s F (fun a => a = y + 15 ∨ a = y + 16 ∨ a = y + 17) c (fun r d => r = none ∧ (∀ j, d (y + 15) j = if j = t then c (y + 15) f else c (y + 15) j) ∧ (∀ j, d (y + 16) j = if j = t then c (y + 16) f else c (y + 16) j) ∧ ∀ j, d (y + 17) j = if j = t then c (y + 17) f else c (y + 17) j)) := by
  obtain ⟨hm, hFo, hG5, hG6, hG7, hG8, hG9, hG10, hG11, hG12, hG13, hG14, hG15, hG16, hG17, hG18, hG19, hG20, hG21, hG22, hG23⟩ := hO
  refine am_E.go (t2 := (1, [vR y, vI t, vI f], [vR y], aq_h m s F c)) rfl rfl ?_
  refine aq_gf (v := vR (y + 15)) rfl (by omega) hFo (by decide) rfl ?_
  show am_E _ (4, [vR y, vI t, vI f], [vR (y + 15)], aq_h m s F c) _
  refine am_E.go (t2 := (5, [vR y, vI t, vI f], [vI t, vR (y + 15)], aq_h m s F c)) rfl rfl ?_
  refine am_E.go (t2 := (6, [vR y, vI t, vI f], [vR y, vI t, vR (y + 15)], aq_h m s F c)) rfl rfl ?_
  refine aq_gf (v := vR (y + 15)) rfl (by omega) hFo (by decide) rfl ?_
  show am_E _ (9, [vR y, vI t, vI f], [vR (y + 15), vI t, vR (y + 15)], aq_h m s F c) _
  refine am_E.go (t2 := (10, [vR y, vI t, vI f], [vI f, vR (y + 15), vI t, vR (y + 15)], aq_h m s F c)) rfl rfl ?_
  refine aq_al (ok := fun k => k == 0) (v := vI (c (y + 15) f)) rfl rfl (by omega) hG15 rfl (by omega) (by omega) rfl ?_
  show am_E _ (11, [vR y, vI t, vI f], [vI (c (y + 15) f), vI t, vR (y + 15)], aq_h m s F c) _
  refine aq_as (kd := 0) rfl rfl (by omega) hG15 (by omega) (by omega) rfl rfl ?_
  show am_E _ (12, [vR y, vI t, vI f], [], aq_h m s F (aq_u c (y + 15) t (c (y + 15) f))) _
  generalize hdc_1 : aq_u c (y + 15) t (c (y + 15) f) = c_1
  have sc_1 := aq_smu (aq_sm0 (c := c) (S := (fun a => a = y + 15 ∨ a = y + 16 ∨ a = y + 17))) hdc_1 (Or.inl rfl)
  refine am_E.go (t2 := (13, [vR y, vI t, vI f], [vR y], aq_h m s F c_1)) rfl rfl ?_
  refine aq_gf (v := vR (y + 16)) rfl (by omega) hFo (by decide) rfl ?_
  show am_E _ (16, [vR y, vI t, vI f], [vR (y + 16)], aq_h m s F c_1) _
  refine am_E.go (t2 := (17, [vR y, vI t, vI f], [vI t, vR (y + 16)], aq_h m s F c_1)) rfl rfl ?_
  refine am_E.go (t2 := (18, [vR y, vI t, vI f], [vR y, vI t, vR (y + 16)], aq_h m s F c_1)) rfl rfl ?_
  refine aq_gf (v := vR (y + 16)) rfl (by omega) hFo (by decide) rfl ?_
  show am_E _ (21, [vR y, vI t, vI f], [vR (y + 16), vI t, vR (y + 16)], aq_h m s F c_1) _
  refine am_E.go (t2 := (22, [vR y, vI t, vI f], [vI f, vR (y + 16), vI t, vR (y + 16)], aq_h m s F c_1)) rfl rfl ?_
  refine aq_al (ok := fun k => k == 0) (v := vI (c_1 (y + 16) f)) rfl rfl (by omega) hG16 rfl (by omega) (by omega) rfl ?_
  show am_E _ (23, [vR y, vI t, vI f], [vI (c_1 (y + 16) f), vI t, vR (y + 16)], aq_h m s F c_1) _
  refine aq_as (kd := 0) rfl rfl (by omega) hG16 (by omega) (by omega) rfl rfl ?_
  show am_E _ (24, [vR y, vI t, vI f], [], aq_h m s F (aq_u c_1 (y + 16) t (c_1 (y + 16) f))) _
  generalize hdc_2 : aq_u c_1 (y + 16) t (c_1 (y + 16) f) = c_2
  have sc_2 := aq_smu sc_1 hdc_2 (Or.inr (Or.inl rfl))
  refine am_E.go (t2 := (25, [vR y, vI t, vI f], [vR y], aq_h m s F c_2)) rfl rfl ?_
  refine aq_gf (v := vR (y + 17)) rfl (by omega) hFo (by decide) rfl ?_
  show am_E _ (28, [vR y, vI t, vI f], [vR (y + 17)], aq_h m s F c_2) _
  refine am_E.go (t2 := (29, [vR y, vI t, vI f], [vI t, vR (y + 17)], aq_h m s F c_2)) rfl rfl ?_
  refine am_E.go (t2 := (30, [vR y, vI t, vI f], [vR y, vI t, vR (y + 17)], aq_h m s F c_2)) rfl rfl ?_
  refine aq_gf (v := vR (y + 17)) rfl (by omega) hFo (by decide) rfl ?_
  show am_E _ (33, [vR y, vI t, vI f], [vR (y + 17), vI t, vR (y + 17)], aq_h m s F c_2) _
  refine am_E.go (t2 := (34, [vR y, vI t, vI f], [vI f, vR (y + 17), vI t, vR (y + 17)], aq_h m s F c_2)) rfl rfl ?_
  refine aq_al (ok := fun k => k == 2) (v := vL (c_2 (y + 17) f)) rfl rfl (by omega) hG17 rfl (by omega) (by omega) rfl ?_
  show am_E _ (35, [vR y, vI t, vI f], [vL (c_2 (y + 17) f), vI t, vR (y + 17)], aq_h m s F c_2) _
  refine aq_asl rfl rfl (by omega) hG17 (by omega) (by omega) rfl ?_
  show am_E _ (36, [vR y, vI t, vI f], [], aq_h m s F (aq_u c_2 (y + 17) t (c_2 (y + 17) f))) _
  generalize hdc_3 : aq_u c_2 (y + 17) t (c_2 (y + 17) f) = c_3
  have sc_3 := aq_smu sc_2 hdc_3 (Or.inr (Or.inr rfl))
  refine am_E.ret rfl rfl ?_
  refine ⟨_, rfl, sc_3, rfl, fun j => ?_, fun j => ?_, fun j => ?_⟩
  · rw [← hdc_3, aq_un (Or.inl (by omega)), ← hdc_2, aq_un (Or.inl (by omega)), ← hdc_1]
    unfold aq_u
    by_cases e : j = t
    · rw [if_pos ⟨rfl, e⟩, if_pos e]
    · rw [if_neg (fun h => e h.2), if_neg e]
  · rw [← hdc_3, aq_un (Or.inl (by omega)), ← hdc_2]
    unfold aq_u
    by_cases e : j = t
    · rw [if_pos ⟨rfl, e⟩, if_pos e, ← hdc_1, aq_un (Or.inl (by omega))]
    · rw [if_neg (fun h => e h.2), if_neg e, ← hdc_1, aq_un (Or.inl (by omega))]
  · rw [← hdc_3]
    unfold aq_u
    by_cases e : j = t
    · rw [if_pos ⟨rfl, e⟩, if_pos e, ← hdc_2, aq_un (Or.inl (by omega)), ← hdc_1, aq_un (Or.inl (by omega))]
    · rw [if_neg (fun h => e h.2), if_neg e, ← hdc_2, aq_un (Or.inl (by omega)), ← hdc_1, aq_un (Or.inl (by omega))]
theorem mo_Iq {S : Nat → Prop} {y : Nat} {c d : aq_C} (hI : mo_I y c) (hs : aq_sm S c d) (hk : mo_q y c d) (h5 : ¬ S (y + 5)) (h6 : ¬ S (y + 6)) (h7 : ¬ S (y + 7)) (h9 : ¬ S (y + 9)) (h10 : ¬ S (y + 10)) : mo_I y d :=
  ⟨mo_rc hk.1 hk.2 (hs _ h10) hI.1, fun s s0 s1 => mo_uc (hs _ h5 s) (hs _ h6 s) (fun k _ _ => hs _ h7 _) (fun k _ _ => hs _ h9 _) (hI.2 s s0 s1)⟩
theorem mo_Iw {y : Nat} {c d : aq_C} (hI : mo_I y c) (hs : aq_sm (mo_S y) c d) (hk : mo_q y c d) : mo_I y d := by
  refine mo_Iq hI hs hk ?_ ?_ ?_ ?_ ?_ <;> (unfold mo_S; omega)
theorem mo_S3 {y a : Nat} (h : a = y ∨ a = y + 15 ∨ a = y + 16 ∨ a = y + 17) : mo_S y a := by
  unfold mo_S
  omega
/-- what store leaves -/
theorem mo_Ist {y : Nat} {s n : Int} {c d : aq_C} (hI : mo_I y c) (hR : mo_R y (bx_K n) c) (hn1 : 1 ≤ n) (hn4 : n ≤ 4) (hs : aq_sm (fun a => y + 5 ≤ a ∧ a ≤ y + 9) c d) (h5 : ∀ i, d (y + 5) i = if i = s then n else c (y + 5) i) (h6 : ∀ i, d (y + 6) i = if i = s then c y 17 else c (y + 6) i) (h7 : ∀ i, (∀ j, 0 ≤ j → j < 40 → i ≠ 40 * s + j) → d (y + 7) i = c (y + 7) i) (h9 : ∀ i, (∀ j, 0 ≤ j → j < 40 → i ≠ 40 * s + j) → d (y + 9) i = c (y + 9) i) (h7k : ∀ j, 0 ≤ j → j < c y 17 → d (y + 7) (40 * s + j) = c (y + 15) j) (h9k : ∀ j, 0 ≤ j → j < c y 17 → d (y + 9) (40 * s + j) = c (y + 17) j) : mo_I y d := by
  have hr1 := hR.1
  have hr2 := hR.2.1
  refine ⟨mo_rc (hs _ (by omega) _) (hs _ (by omega) _) (fun i => hs _ (by omega) i) hI.1, fun t t0 t1 => ?_⟩
  by_cases e : t = s
  · subst e
    have e5 := h5 t
    have e6 := h6 t
    rw [if_pos rfl] at e5 e6
    refine ⟨by omega, by omega, by omega, by omega, fun k k0 k1 => ?_⟩
    rw [h7k k k0 (by omega), h9k k k0 (by omega), e5]
    exact hR.2.2 k k0 (by omega)
  · refine mo_uc (by rw [h5, if_neg e]) (by rw [h6, if_neg e]) (fun k k0 k1 => h7 _ (fun j j0 j1 => by omega)) (fun k k0 k1 => h9 _ (fun j j0 j1 => by omega)) (hI.2 t t0 t1)

theorem mo_n {y k : Nat} (h : 5 ≤ k) (h2 : k < 11) : ¬ mo_S y (y + k) := by
  unfold mo_S
  omega
