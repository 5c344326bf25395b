theorem nm_bz : ∀ a b : Nat, ∃ x y : Int, (a : Int) * x + (b : Int) * y = ((Nat.gcd a b : Nat) : Int) := by
  intro a b
  induction a, b using Nat.gcd.induction with
  | H0 n => exact ⟨0, 1, by simp⟩
  | H1 m n hm ih =>
    obtain ⟨x, y, h⟩ := ih
    refine ⟨y - ((n / m : Nat) : Int) * x, x, ?_⟩
    rw [Nat.gcd_rec, ← h]
    have e : (n : Int) = (m : Int) * ((n / m : Nat) : Int) + ((n % m : Nat) : Int) := by
      have := Nat.div_add_mod n m
      rw [← Int.natCast_mul, ← Int.natCast_add, this]
    generalize ((n / m : Nat) : Int) = q at *
    generalize ((n % m : Nat) : Int) = r at *
    rw [e]
    rw [Int.mul_sub, Int.add_mul]
    have e2 : (m : Int) * (q * x) = (m : Int) * q * x := by rw [Int.mul_assoc]
    omega
theorem nm_cop {v p : Nat} (hv0 : 1 ≤ v) (hvp : v < p) (hp : ∀ e, 2 ≤ e → e * e ≤ p → p % e ≠ 0) : Nat.gcd v p = 1 := by
  have h1 : Nat.gcd v p ∣ v := Nat.gcd_dvd_left v p
  have h2 : Nat.gcd v p ∣ p := Nat.gcd_dvd_right v p
  have h3 : 0 < Nat.gcd v p := Nat.gcd_pos_of_pos_left p hv0
  have h4 : Nat.gcd v p ≤ v := Nat.le_of_dvd hv0 h1
  generalize Nat.gcd v p = g at *
  by_cases hg : g = 1
  · exact hg
  · exfalso
    obtain ⟨h, e⟩ := h2
    have hh : 2 ≤ h := by
      by_cases h0 : h = 0
      · rw [h0] at e
        omega
      · by_cases h5 : h = 1
        · rw [h5] at e
          omega
        · omega
    by_cases h6 : g ≤ h
    · refine hp g (by omega) ?_ ?_
      · rw [e]
        exact Nat.mul_le_mul_left g h6
      · rw [e]
        exact Nat.mul_mod_right g h
    · refine hp h hh ?_ ?_
      · rw [e]
        exact Nat.mul_le_mul_right h (by omega)
      · rw [e]
        exact Nat.mul_mod_left g h
/-- p has no divisor up to its root -/
def nm_P (p : Int) : Prop := ∀ e : Int, 2 ≤ e → e * e ≤ p → p % e ≠ 0
theorem nm_inv {v p : Int} (hv0 : 1 ≤ v) (hvp : v < p) (hp : nm_P p) : ∃ w, 1 ≤ w ∧ w < p ∧ (v * w) % p = 1 := by
  have hc : Nat.gcd v.toNat p.toNat = 1 := by
    refine nm_cop (by omega) (by omega) (fun e he h1 h2 => ?_)
    refine hp (e : Int) (by omega) ?_ ?_
    · rw [← Int.natCast_mul]
      omega
    · have : p = ((p.toNat : Nat) : Int) := by omega
      rw [this, ← Int.natCast_emod, h2]
      rfl
  obtain ⟨x, z, h⟩ := nm_bz v.toNat p.toNat
  rw [hc, Int.toNat_of_nonneg (by omega), Int.toNat_of_nonneg (by omega)] at h
  have h5 : (v * (x % p)) % p = 1 := by
    rw [Int.mul_emod, Int.emod_emod_of_dvd _ (Int.dvd_refl p), ← Int.mul_emod]
    have e : v * x = 1 + p * (-z) := by
      rw [Int.mul_neg]
      have : ((1 : Nat) : Int) = 1 := rfl
      omega
    rw [e, Int.add_mul_emod_self_left]
    exact Int.emod_eq_of_lt (by omega) (by omega)
  have h6 : 0 ≤ x % p := Int.emod_nonneg x (by omega)
  have h7 : x % p < p := Int.emod_lt_of_pos x (by omega)
  refine ⟨x % p, ?_, h7, h5⟩
  by_cases h8 : x % p = 0
  · rw [h8, Int.mul_zero, Int.zero_emod] at h5
    exact absurd h5 (by decide)
  · omega
theorem nm_mul {a b : Int} (h0 : 0 ≤ a) (h1 : a < 1000) (h2 : 0 ≤ b) (h3 : b < 1000) : 0 ≤ a * b ∧ a * b ≤ 998001 := by
  refine ⟨Int.mul_nonneg h0 h2, ?_⟩
  exact Int.mul_le_mul (show a ≤ 999 by omega) (show b ≤ 999 by omega) h2 (by decide)

theorem hv_Nb (n t : Int) : 0 ≤ hv_N n t ∧ hv_N n t ≤ 6 := by
  unfold hv_N hv_l
  (repeat' split) <;> decide

theorem qm_formOf {m s : Nat} {F : aq_F} {c : aq_C} {y : Nat} (hO : mo_0 m F y) {n t i j : Int} (hn1 : 1 ≤ n) (hn4 : n ≤ 4) (ht0 : 0 ≤ t) (ht1 : t ≤ n) (hi0 : 0 ≤ i) (hi1 : i < hv_N n t) (hj0 : 0 ≤ j) (hj1 : j < hv_N n t) (hA : ∀ p, 0 ≤ p → p < n → c (y + 18) p = hv_d n t i p) (hB : ∀ p, 0 ≤ p → p < n → c (y + 19) p = hv_d n t j p) : am_E ac_X5_formOf (0, [vR y, vI n, vU, vU, vU, vU, vU], [], aq_h m s F c) (aq_Z m s F (fun a => a = y + 13) c (fun r _ => ∃ v, r = some (vI v) ∧ -4 ≤ v ∧ v ≤ 4)) := by
  have h : n = 1 ∨ n = 2 ∨ n = 3 ∨ n = 4 := by omega
  rcases h with h | h | h | h <;> subst h
  · have h : t = 0 ∨ t = 1 := by omega
    rcases h with h | h <;> subst h
    · have hN : hv_N 1 0 = 0 := rfl
      exfalso; omega
    · have hN : hv_N 1 1 = 1 := rfl
      have hi : i = 0 := by omega
      have hj : j = 0 := by omega
      subst hi
      subst hj
      exact (qm_fo_1100 hO (hA 0 (by decide) (by decide)) (hB 0 (by decide) (by decide))).imp (fun r h2 ⟨d, e1, e2, e3⟩ => ⟨d, e1, e2, 0, e3, by decide, by decide⟩)
  · have h : t = 0 ∨ t = 1 ∨ t = 2 := by omega
    rcases h with h | h | h <;> subst h
    · have hN : hv_N 2 0 = 1 := rfl
      have hi : i = 0 := by omega
      have hj : j = 0 := by omega
      subst hi
      subst hj
      exact (qm_fo_2000 hO (hA 0 (by decide) (by decide)) (hA 1 (by decide) (by decide)) (hB 0 (by decide) (by decide)) (hB 1 (by decide) (by decide))).imp (fun r h2 ⟨d, e1, e2, e3⟩ => ⟨d, e1, e2, 1, e3, by decide, by decide⟩)
    · have hN : hv_N 2 1 = 0 := rfl
      exfalso; omega
    · have hN : hv_N 2 2 = 1 := rfl
      have hi : i = 0 := by omega
      have hj : j = 0 := by omega
      subst hi
      subst hj
      exact (qm_fo_2200 hO (hA 0 (by decide) (by decide)) (hA 1 (by decide) (by decide)) (hB 0 (by decide) (by decide)) (hB 1 (by decide) (by decide))).imp (fun r h2 ⟨d, e1, e2, e3⟩ => ⟨d, e1, e2, 0, e3, by decide, by decide⟩)
  · have h : t = 0 ∨ t = 1 ∨ t = 2 ∨ t = 3 := by omega
    rcases h with h | h | h | h <;> subst h
    · have hN : hv_N 3 0 = 0 := rfl
      exfalso; omega
    · have hN : hv_N 3 1 = 2 := rfl
      have hi : i = 0 ∨ i = 1 := by omega
      have hj : j = 0 ∨ j = 1 := by omega
      rcases hi with hi | hi <;> rcases hj with hj | hj <;> subst hi <;> subst hj
      · exact (qm_fo_3100 hO (hA 0 (by decide) (by decide)) (hA 1 (by decide) (by decide)) (hA 2 (by decide) (by decide)) (hB 0 (by decide) (by decide)) (hB 1 (by decide) (by decide)) (hB 2 (by decide) (by decide))).imp (fun r h2 ⟨d, e1, e2, e3⟩ => ⟨d, e1, e2, 1, e3, by decide, by decide⟩)
      · exact (qm_fo_3101 hO (hA 0 (by decide) (by decide)) (hA 1 (by decide) (by decide)) (hA 2 (by decide) (by decide)) (hB 0 (by decide) (by decide)) (hB 1 (by decide) (by decide)) (hB 2 (by decide) (by decide))).imp (fun r h2 ⟨d, e1, e2, e3⟩ => ⟨d, e1, e2, 0, e3, by decide, by decide⟩)
      · exact (qm_fo_3110 hO (hA 0 (by decide) (by decide)) (hA 1 (by decide) (by decide)) (hA 2 (by decide) (by decide)) (hB 0 (by decide) (by decide)) (hB 1 (by decide) (by decide)) (hB 2 (by decide) (by decide))).imp (fun r h2 ⟨d, e1, e2, e3⟩ => ⟨d, e1, e2, 0, e3, by decide, by decide⟩)
      · exact (qm_fo_3111 hO (hA 0 (by decide) (by decide)) (hA 1 (by decide) (by decide)) (hA 2 (by decide) (by decide)) (hB 0 (by decide) (by decide)) (hB 1 (by decide) (by decide)) (hB 2 (by decide) (by decide))).imp (fun r h2 ⟨d, e1, e2, e3⟩ => ⟨d, e1, e2, 1, e3, by decide, by decide⟩)
    · have hN : hv_N 3 2 = 0 := rfl
      exfalso; omega
    · have hN : hv_N 3 3 = 1 := rfl
      have hi : i = 0 := by omega
      have hj : j = 0 := by omega
      subst hi
      subst hj
      exact (qm_fo_3300 hO (hA 0 (by decide) (by decide)) (hA 1 (by decide) (by decide)) (hA 2 (by decide) (by decide)) (hB 0 (by decide) (by decide)) (hB 1 (by decide) (by decide)) (hB 2 (by decide) (by decide))).imp (fun r h2 ⟨d, e1, e2, e3⟩ => ⟨d, e1, e2, 0, e3, by decide, by decide⟩)
  · have h : t = 0 ∨ t = 1 ∨ t = 2 ∨ t = 3 ∨ t = 4 := by omega
    rcases h with h | h | h | h | h <;> subst h
    · have hN : hv_N 4 0 = 2 := rfl
      have hi : i = 0 ∨ i = 1 := by omega
      have hj : j = 0 ∨ j = 1 := by omega
      rcases hi with hi | hi <;> rcases hj with hj | hj <;> subst hi <;> subst hj
      · exact (qm_fo_4000 hO (hA 0 (by decide) (by decide)) (hA 1 (by decide) (by decide)) (hA 2 (by decide) (by decide)) (hA 3 (by decide) (by decide)) (hB 0 (by decide) (by decide)) (hB 1 (by decide) (by decide)) (hB 2 (by decide) (by decide)) (hB 3 (by decide) (by decide))).imp (fun r h2 ⟨d, e1, e2, e3⟩ => ⟨d, e1, e2, 2, e3, by decide, by decide⟩)
      · exact (qm_fo_4001 hO (hA 0 (by decide) (by decide)) (hA 1 (by decide) (by decide)) (hA 2 (by decide) (by decide)) (hA 3 (by decide) (by decide)) (hB 0 (by decide) (by decide)) (hB 1 (by decide) (by decide)) (hB 2 (by decide) (by decide)) (hB 3 (by decide) (by decide))).imp (fun r h2 ⟨d, e1, e2, e3⟩ => ⟨d, e1, e2, 1, e3, by decide, by decide⟩)
      · exact (qm_fo_4010 hO (hA 0 (by decide) (by decide)) (hA 1 (by decide) (by decide)) (hA 2 (by decide) (by decide)) (hA 3 (by decide) (by decide)) (hB 0 (by decide) (by decide)) (hB 1 (by decide) (by decide)) (hB 2 (by decide) (by decide)) (hB 3 (by decide) (by decide))).imp (fun r h2 ⟨d, e1, e2, e3⟩ => ⟨d, e1, e2, 1, e3, by decide, by decide⟩)
      · exact (qm_fo_4011 hO (hA 0 (by decide) (by decide)) (hA 1 (by decide) (by decide)) (hA 2 (by decide) (by decide)) (hA 3 (by decide) (by decide)) (hB 0 (by decide) (by decide)) (hB 1 (by decide) (by decide)) (hB 2 (by decide) (by decide)) (hB 3 (by decide) (by decide))).imp (fun r h2 ⟨d, e1, e2, e3⟩ => ⟨d, e1, e2, 2, e3, by decide, by decide⟩)
    · have hN : hv_N 4 1 = 0 := rfl
      exfalso; omega
    · have hN : hv_N 4 2 = 3 := rfl
      have hi : i = 0 ∨ i = 1 ∨ i = 2 := by omega
      have hj : j = 0 ∨ j = 1 ∨ j = 2 := by omega
      rcases hi with hi | hi | hi <;> rcases hj with hj | hj | hj <;> subst hi <;> subst hj
      · exact (qm_fo_4200 hO (hA 0 (by decide) (by decide)) (hA 1 (by decide) (by decide)) (hA 2 (by decide) (by decide)) (hA 3 (by decide) (by decide)) (hB 0 (by decide) (by decide)) (hB 1 (by decide) (by decide)) (hB 2 (by decide) (by decide)) (hB 3 (by decide) (by decide))).imp (fun r h2 ⟨d, e1, e2, e3⟩ => ⟨d, e1, e2, 1, e3, by decide, by decide⟩)
      · exact (qm_fo_4201 hO (hA 0 (by decide) (by decide)) (hA 1 (by decide) (by decide)) (hA 2 (by decide) (by decide)) (hA 3 (by decide) (by decide)) (hB 0 (by decide) (by decide)) (hB 1 (by decide) (by decide)) (hB 2 (by decide) (by decide)) (hB 3 (by decide) (by decide))).imp (fun r h2 ⟨d, e1, e2, e3⟩ => ⟨d, e1, e2, 0, e3, by decide, by decide⟩)
      · exact (qm_fo_4202 hO (hA 0 (by decide) (by decide)) (hA 1 (by decide) (by decide)) (hA 2 (by decide) (by decide)) (hA 3 (by decide) (by decide)) (hB 0 (by decide) (by decide)) (hB 1 (by decide) (by decide)) (hB 2 (by decide) (by decide)) (hB 3 (by decide) (by decide))).imp (fun r h2 ⟨d, e1, e2, e3⟩ => ⟨d, e1, e2, (-4), e3, by decide, by decide⟩)
      · exact (qm_fo_4210 hO (hA 0 (by decide) (by decide)) (hA 1 (by decide) (by decide)) (hA 2 (by decide) (by decide)) (hA 3 (by decide) (by decide)) (hB 0 (by decide) (by decide)) (hB 1 (by decide) (by decide)) (hB 2 (by decide) (by decide)) (hB 3 (by decide) (by decide))).imp (fun r h2 ⟨d, e1, e2, e3⟩ => ⟨d, e1, e2, 0, e3, by decide, by decide⟩)
      · exact (qm_fo_4211 hO (hA 0 (by decide) (by decide)) (hA 1 (by decide) (by decide)) (hA 2 (by decide) (by decide)) (hA 3 (by decide) (by decide)) (hB 0 (by decide) (by decide)) (hB 1 (by decide) (by decide)) (hB 2 (by decide) (by decide)) (hB 3 (by decide) (by decide))).imp (fun r h2 ⟨d, e1, e2, e3⟩ => ⟨d, e1, e2, 1, e3, by decide, by decide⟩)
      · exact (qm_fo_4212 hO (hA 0 (by decide) (by decide)) (hA 1 (by decide) (by decide)) (hA 2 (by decide) (by decide)) (hA 3 (by decide) (by decide)) (hB 0 (by decide) (by decide)) (hB 1 (by decide) (by decide)) (hB 2 (by decide) (by decide)) (hB 3 (by decide) (by decide))).imp (fun r h2 ⟨d, e1, e2, e3⟩ => ⟨d, e1, e2, 0, e3, by decide, by decide⟩)
      · exact (qm_fo_4220 hO (hA 0 (by decide) (by decide)) (hA 1 (by decide) (by decide)) (hA 2 (by decide) (by decide)) (hA 3 (by decide) (by decide)) (hB 0 (by decide) (by decide)) (hB 1 (by decide) (by decide)) (hB 2 (by decide) (by decide)) (hB 3 (by decide) (by decide))).imp (fun r h2 ⟨d, e1, e2, e3⟩ => ⟨d, e1, e2, (-4), e3, by decide, by decide⟩)
      · exact (qm_fo_4221 hO (hA 0 (by decide) (by decide)) (hA 1 (by decide) (by decide)) (hA 2 (by decide) (by decide)) (hA 3 (by decide) (by decide)) (hB 0 (by decide) (by decide)) (hB 1 (by decide) (by decide)) (hB 2 (by decide) (by decide)) (hB 3 (by decide) (by decide))).imp (fun r h2 ⟨d, e1, e2, e3⟩ => ⟨d, e1, e2, 0, e3, by decide, by decide⟩)
      · exact (qm_fo_4222 hO (hA 0 (by decide) (by decide)) (hA 1 (by decide) (by decide)) (hA 2 (by decide) (by decide)) (hA 3 (by decide) (by decide)) (hB 0 (by decide) (by decide)) (hB 1 (by decide) (by decide)) (hB 2 (by decide) (by decide)) (hB 3 (by decide) (by decide))).imp (fun r h2 ⟨d, e1, e2, e3⟩ => ⟨d, e1, e2, 1, e3, by decide, by decide⟩)
    · have hN : hv_N 4 3 = 0 := rfl
      exfalso; omega
    · have hN : hv_N 4 4 = 1 := rfl
      have hi : i = 0 := by omega
      have hj : j = 0 := by omega
      subst hi
      subst hj
      exact (qm_fo_4400 hO (hA 0 (by decide) (by decide)) (hA 1 (by decide) (by decide)) (hA 2 (by decide) (by decide)) (hA 3 (by decide) (by decide)) (hB 0 (by decide) (by decide)) (hB 1 (by decide) (by decide)) (hB 2 (by decide) (by decide)) (hB 3 (by decide) (by decide))).imp (fun r h2 ⟨d, e1, e2, e3⟩ => ⟨d, e1, e2, 0, e3, by decide, by decide⟩)

theorem qm_form {m s : Nat} {F : aq_F} {c : aq_C} {y : Nat} (hO : mo_0 m F y) {n t i j : Int} : am_E ac_X5_form (0, [vR y, vI n, vI t, vI i, vI j, vU, vU, vU], [], aq_h m s F c) (aq_Z m s F (mo_S y) c (fun r d => mo_k y c d ∧ (∀ i, d (y + 20) i = c (y + 20) i) ∧ ∃ v, r = some (vI v) ∧ -4 ≤ v ∧ v ≤ 4)) := by
  obtain ⟨hm, hFo, hG5, hG6, hG7, hG8, hG9, hG10, hG11, hG12, hG13, hG14, hG15, hG16, hG17, hG18, hG19, hG20, hG21, hG22, hG23⟩ := hO
  refine am_E.go (t2 := (1, [vR y, vI n, vI t, vI i, vI j, vU, vU, vU], [vI n], aq_h m s F c)) rfl rfl ?_
  refine am_E.go (t2 := (2, [vR y, vI n, vI t, vI i, vI j, vU, vU, vU], [vI t, vI n], aq_h m s F c)) rfl rfl ?_
  refine am_E.call rfl rfl rfl (Nat.le_of_ble_eq_true rfl) (qm_areHalves) ?_
  rintro r5 h5 ⟨rfl, v_1, rfl, hv_1⟩
  show am_E _ (5, [vR y, vI n, vI t, vI i, vI j, vU, vU, vU], [vI v_1], aq_h m s F c) _
  refine ae_if0 rfl (fun (q_2 : v_1 ≠ 0) => ?_) (fun (q_2 : v_1 = 0) => ?_)
  · refine am_E.go (t2 := (11, [vR y, vI n, vI t, vI i, vI j, vU, vU, vU], [vR y], aq_h m s F c)) rfl rfl ?_
    refine am_E.go (t2 := (12, [vR y, vI n, vI t, vI i, vI j, vU, vU, vU], [vI n, vR y], aq_h m s F c)) rfl rfl ?_
    refine am_E.go (t2 := (13, [vR y, vI n, vI t, vI i, vI j, vU, vU, vU], [vI t, vI n, vR y], aq_h m s F c)) rfl rfl ?_
    refine am_E.go (t2 := (14, [vR y, vI n, vI t, vI i, vI j, vU, vU, vU], [vI (-1), vI t, vI n, vR y], aq_h m s F c)) rfl rfl ?_
    refine am_E.go (t2 := (15, [vR y, vI n, vI t, vI i, vI j, vU, vU, vU], [vR y, vI (-1), vI t, vI n, vR y], aq_h m s F c)) rfl rfl ?_
    refine aq_gf (v := vR (y + 18)) rfl (by omega) hFo (by decide) rfl ?_
    show am_E _ (18, [vR y, vI n, vI t, vI i, vI j, vU, vU, vU], [vR (y + 18), vI (-1), vI t, vI n, vR y], aq_h m s F c) _
    refine aq_callv (y := 5) (as2 := [vI n, vI t, vI (-1), vR (y + 18)]) (rest := []) rfl rfl (by decide) (Nat.le_of_ble_eq_true rfl) rfl rfl (Nat.le_of_ble_eq_true rfl) (by omega) hFo rfl (Nat.le_of_ble_eq_true rfl) (qm_lay (y := y) (a := y + 18) (by omega) hFo (by omega) hG18 (n := n) (t := t) (by omega) (by omega) (by omega) (by omega) (Or.inl rfl)) ?_
    rintro r5 h5 ⟨c_3, rfl, sc_3, vc_3, rfl, hmc_3, hdc_3⟩
    show am_E _ (21, [vR y, vI n, vI t, vI i, vI j, vU, vU, vU], [vI vc_3], aq_h m s F c_3) _
    have hm5 := hmc_3 rfl
    have hNb := hv_Nb n t
    refine am_E.go (t2 := (23, [vR y, vI n, vI t, vI i, vI j, vI vc_3, vU, vU], [], aq_h m s F c_3)) rfl rfl ?_
    refine am_E.go (t2 := (24, [vR y, vI n, vI t, vI i, vI j, vI vc_3, vU, vU], [vI i], aq_h m s F c_3)) rfl rfl ?_
    refine am_E.go (t2 := (25, [vR y, vI n, vI t, vI i, vI j, vI vc_3, vU, vU], [vL i], aq_h m s F c_3)) rfl rfl ?_
    refine am_E.go (t2 := (26, [vR y, vI n, vI t, vI i, vI j, vI vc_3, vU, vU], [vL 0, vL i], aq_h m s F c_3)) rfl rfl ?_
    refine am_E.go (t2 := (28, [vR y, vI n, vI t, vI i, vI j, vI vc_3, vU, vU], [vI vc_3, vL 0, vL i], aq_h m s F c_3)) rfl rfl ?_
    refine am_E.go (t2 := (29, [vR y, vI n, vI t, vI i, vI j, vI vc_3, vU, vU], [vI 1, vI vc_3, vL 0, vL i], aq_h m s F c_3)) rfl rfl ?_
    refine ae_sub rfl (am_ri (by omega) (by omega)) ?_
    show am_E _ (30, [vR y, vI n, vI t, vI i, vI j, vI vc_3, vU, vU], [vI (vc_3 - 1), vL 0, vL i], aq_h m s F c_3) _
    refine am_E.go (t2 := (31, [vR y, vI n, vI t, vI i, vI j, vI vc_3, vU, vU], [vL (vc_3 - 1), vL 0, vL i], aq_h m s F c_3)) rfl rfl ?_
    refine am_E.call rfl rfl rfl (Nat.le_of_ble_eq_true rfl) (qm_in) ?_
    rintro r5 h5 ⟨rfl, v_4, rfl, hv_4⟩
    show am_E _ (34, [vR y, vI n, vI t, vI i, vI j, vI vc_3, vU, vU], [vI v_4], aq_h m s F c_3) _
    refine ae_if0 rfl (fun (q_5 : v_4 = 0) => ?_) (fun (q_5 : v_4 ≠ 0) => ?_)
    · refine am_E.go (t2 := (53, [vR y, vI n, vI t, vI i, vI j, vI vc_3, vU, vU], [vI (-1)], aq_h m s F c_3)) rfl rfl ?_
      refine am_E.ret rfl rfl ?_
      exact ⟨_, rfl, aq_smi (aq_smt (aq_sm0 (c := c) (S := (fun a => a = y + 13 ∨ a = y + 18 ∨ a = y + 19))) (aq_smi sc_3 (fun a h => by omega))) (fun a h => by unfold mo_S; omega), mo_ks mo_k0 (aq_smt (aq_sm0 (c := c) (S := (fun a => a = y + 13 ∨ a = y + 18 ∨ a = y + 19))) (aq_smi sc_3 (fun a h => by omega))) (by omega), fun i => (aq_smt (aq_sm0 (c := c) (S := (fun a => a = y + 13 ∨ a = y + 18 ∨ a = y + 19))) (aq_smi sc_3 (fun a h => by omega))) _ (by omega) i, _, rfl, by omega, by omega⟩
    · refine am_E.go (t2 := (39, [vR y, vI n, vI t, vI i, vI j, vI vc_3, vU, vU], [vI j], aq_h m s F c_3)) rfl rfl ?_
      refine am_E.go (t2 := (40, [vR y, vI n, vI t, vI i, vI j, vI vc_3, vU, vU], [vL j], aq_h m s F c_3)) rfl rfl ?_
      refine am_E.go (t2 := (41, [vR y, vI n, vI t, vI i, vI j, vI vc_3, vU, vU], [vL 0, vL j], aq_h m s F c_3)) rfl rfl ?_
      refine am_E.go (t2 := (43, [vR y, vI n, vI t, vI i, vI j, vI vc_3, vU, vU], [vI vc_3, vL 0, vL j], aq_h m s F c_3)) rfl rfl ?_
      refine am_E.go (t2 := (44, [vR y, vI n, vI t, vI i, vI j, vI vc_3, vU, vU], [vI 1, vI vc_3, vL 0, vL j], aq_h m s F c_3)) rfl rfl ?_
      refine ae_sub rfl (am_ri (by omega) (by omega)) ?_
      show am_E _ (45, [vR y, vI n, vI t, vI i, vI j, vI vc_3, vU, vU], [vI (vc_3 - 1), vL 0, vL j], aq_h m s F c_3) _
      refine am_E.go (t2 := (46, [vR y, vI n, vI t, vI i, vI j, vI vc_3, vU, vU], [vL (vc_3 - 1), vL 0, vL j], aq_h m s F c_3)) rfl rfl ?_
      refine am_E.call rfl rfl rfl (Nat.le_of_ble_eq_true rfl) (qm_in) ?_
      rintro r5 h5 ⟨rfl, v_6, rfl, hv_6⟩
      show am_E _ (49, [vR y, vI n, vI t, vI i, vI j, vI vc_3, vU, vU], [vI v_6], aq_h m s F c_3) _
      refine ae_if0 rfl (fun (q_7 : v_6 ≠ 0) => ?_) (fun (q_7 : v_6 = 0) => ?_)
      · refine am_E.go (t2 := (55, [vR y, vI n, vI t, vI i, vI j, vI vc_3, vU, vU], [vR y], aq_h m s F c_3)) rfl rfl ?_
        refine am_E.go (t2 := (56, [vR y, vI n, vI t, vI i, vI j, vI vc_3, vU, vU], [vI n, vR y], aq_h m s F c_3)) rfl rfl ?_
        refine am_E.go (t2 := (57, [vR y, vI n, vI t, vI i, vI j, vI vc_3, vU, vU], [vI t, vI n, vR y], aq_h m s F c_3)) rfl rfl ?_
        refine am_E.go (t2 := (58, [vR y, vI n, vI t, vI i, vI j, vI vc_3, vU, vU], [vI i, vI t, vI n, vR y], aq_h m s F c_3)) rfl rfl ?_
        refine am_E.go (t2 := (59, [vR y, vI n, vI t, vI i, vI j, vI vc_3, vU, vU], [vR y, vI i, vI t, vI n, vR y], aq_h m s F c_3)) rfl rfl ?_
        refine aq_gf (v := vR (y + 18)) rfl (by omega) hFo (by decide) rfl ?_
        show am_E _ (62, [vR y, vI n, vI t, vI i, vI j, vI vc_3, vU, vU], [vR (y + 18), vI i, vI t, vI n, vR y], aq_h m s F c_3) _
        refine aq_callv (y := 5) (as2 := [vI n, vI t, vI i, vR (y + 18)]) (rest := []) rfl rfl (by decide) (Nat.le_of_ble_eq_true rfl) rfl rfl (Nat.le_of_ble_eq_true rfl) (by omega) hFo rfl (Nat.le_of_ble_eq_true rfl) (qm_lay (y := y) (a := y + 18) (by omega) hFo (by omega) hG18 (n := n) (t := t) (by omega) (by omega) (by omega) (by omega) (Or.inr ⟨by omega, by omega⟩)) ?_
        rintro r5 h5 ⟨c_8, rfl, sc_8, vc_8, rfl, hmc_8, hdc_8⟩
        show am_E _ (65, [vR y, vI n, vI t, vI i, vI j, vI vc_3, vU, vU], [vI vc_8], aq_h m s F c_8) _
        have hNb := hv_Nb n t
        refine am_E.go (t2 := (67, [vR y, vI n, vI t, vI i, vI j, vI vc_3, vI vc_8, vU], [], aq_h m s F c_8)) rfl rfl ?_
        refine am_E.go (t2 := (68, [vR y, vI n, vI t, vI i, vI j, vI vc_3, vI vc_8, vU], [vR y], aq_h m s F c_8)) rfl rfl ?_
        refine am_E.go (t2 := (69, [vR y, vI n, vI t, vI i, vI j, vI vc_3, vI vc_8, vU], [vI n, vR y], aq_h m s F c_8)) rfl rfl ?_
        refine am_E.go (t2 := (70, [vR y, vI n, vI t, vI i, vI j, vI vc_3, vI vc_8, vU], [vI t, vI n, vR y], aq_h m s F c_8)) rfl rfl ?_
        refine am_E.go (t2 := (72, [vR y, vI n, vI t, vI i, vI j, vI vc_3, vI vc_8, vU], [vI j, vI t, vI n, vR y], aq_h m s F c_8)) rfl rfl ?_
        refine am_E.go (t2 := (73, [vR y, vI n, vI t, vI i, vI j, vI vc_3, vI vc_8, vU], [vR y, vI j, vI t, vI n, vR y], aq_h m s F c_8)) rfl rfl ?_
        refine aq_gf (v := vR (y + 19)) rfl (by omega) hFo (by decide) rfl ?_
        show am_E _ (76, [vR y, vI n, vI t, vI i, vI j, vI vc_3, vI vc_8, vU], [vR (y + 19), vI j, vI t, vI n, vR y], aq_h m s F c_8) _
        refine aq_callv (y := 5) (as2 := [vI n, vI t, vI j, vR (y + 19)]) (rest := []) rfl rfl (by decide) (Nat.le_of_ble_eq_true rfl) rfl rfl (Nat.le_of_ble_eq_true rfl) (by omega) hFo rfl (Nat.le_of_ble_eq_true rfl) (qm_lay (y := y) (a := y + 19) (by omega) hFo (by omega) hG19 (n := n) (t := t) (by omega) (by omega) (by omega) (by omega) (Or.inr ⟨by omega, by omega⟩)) ?_
        rintro r5 h5 ⟨c_9, rfl, sc_9, vc_9, rfl, hmc_9, hdc_9⟩
        show am_E _ (79, [vR y, vI n, vI t, vI i, vI j, vI vc_3, vI vc_8, vU], [vI vc_9], aq_h m s F c_9) _
        have hNb := hv_Nb n t
        refine am_E.go (t2 := (81, [vR y, vI n, vI t, vI i, vI j, vI vc_3, vI vc_8, vI vc_9], [], aq_h m s F c_9)) rfl rfl ?_
        refine am_E.go (t2 := (82, [vR y, vI n, vI t, vI i, vI j, vI vc_3, vI vc_8, vI vc_9], [vR y], aq_h m s F c_9)) rfl rfl ?_
        refine am_E.go (t2 := (83, [vR y, vI n, vI t, vI i, vI j, vI vc_3, vI vc_8, vI vc_9], [vI n, vR y], aq_h m s F c_9)) rfl rfl ?_
        refine aq_callv (y := 2) (as2 := [vI n]) (rest := []) rfl rfl (by decide) (Nat.le_of_ble_eq_true rfl) rfl rfl (Nat.le_of_ble_eq_true rfl) (by omega) hFo rfl (Nat.le_of_ble_eq_true rfl) (qm_formOf ⟨hm, hFo, hG5, hG6, hG7, hG8, hG9, hG10, hG11, hG12, hG13, hG14, hG15, hG16, hG17, hG18, hG19, hG20, hG21, hG22, hG23⟩ (n := n) (t := t) (i := i) (j := j) (by omega) (by omega) (by omega) (by omega) (by omega) (by omega) (by omega) (by omega) (fun p5 h5 h6 => by rw [sc_9 _ (by omega)]; exact hdc_8 (by omega) p5 h5 h6) (fun p5 h5 h6 => hdc_9 (by omega) p5 h5 h6)) ?_
        rintro r5 h5 ⟨c_f, rfl, s_f, v_f, rfl, hf1, hf2⟩
        show am_E _ (86, [vR y, vI n, vI t, vI i, vI j, vI vc_3, vI vc_8, vI vc_9], [vI v_f], aq_h m s F c_f) _
        refine am_E.ret rfl rfl ?_
        exact ⟨_, rfl, aq_smi (aq_smt (aq_smt (aq_smt (aq_smt (aq_sm0 (c := c) (S := (fun a => a = y + 13 ∨ a = y + 18 ∨ a = y + 19))) (aq_smi sc_3 (fun a h => by omega))) (aq_smi sc_8 (fun a h => by omega))) (aq_smi sc_9 (fun a h => by omega))) (aq_smi s_f (fun a h => by omega))) (fun a h => by unfold mo_S; omega), mo_ks mo_k0 (aq_smt (aq_smt (aq_smt (aq_smt (aq_sm0 (c := c) (S := (fun a => a = y + 13 ∨ a = y + 18 ∨ a = y + 19))) (aq_smi sc_3 (fun a h => by omega))) (aq_smi sc_8 (fun a h => by omega))) (aq_smi sc_9 (fun a h => by omega))) (aq_smi s_f (fun a h => by omega))) (by omega), fun i => (aq_smt (aq_smt (aq_smt (aq_smt (aq_sm0 (c := c) (S := (fun a => a = y + 13 ∨ a = y + 18 ∨ a = y + 19))) (aq_smi sc_3 (fun a h => by omega))) (aq_smi sc_8 (fun a h => by omega))) (aq_smi sc_9 (fun a h => by omega))) (aq_smi s_f (fun a h => by omega))) _ (by omega) i, _, rfl, by omega, by omega⟩
      · refine am_E.go (t2 := (53, [vR y, vI n, vI t, vI i, vI j, vI vc_3, vU, vU], [vI (-1)], aq_h m s F c_3)) rfl rfl ?_
        refine am_E.ret rfl rfl ?_
        exact ⟨_, rfl, aq_smi (aq_smt (aq_sm0 (c := c) (S := (fun a => a = y + 13 ∨ a = y + 18 ∨ a = y + 19))) (aq_smi sc_3 (fun a h => by omega))) (fun a h => by unfold mo_S; omega), mo_ks mo_k0 (aq_smt (aq_sm0 (c := c) (S := (fun a => a = y + 13 ∨ a = y + 18 ∨ a = y + 19))) (aq_smi sc_3 (fun a h => by omega))) (by omega), fun i => (aq_smt (aq_sm0 (c := c) (S := (fun a => a = y + 13 ∨ a = y + 18 ∨ a = y + 19))) (aq_smi sc_3 (fun a h => by omega))) _ (by omega) i, _, rfl, by omega, by omega⟩
  · refine am_E.go (t2 := (9, [vR y, vI n, vI t, vI i, vI j, vU, vU, vU], [vI (-1)], aq_h m s F c)) rfl rfl ?_
    refine am_E.ret rfl rfl ?_
    exact ⟨_, rfl, aq_smi (aq_sm0 (c := c) (S := (fun a => a = y + 13 ∨ a = y + 18 ∨ a = y + 19))) (fun a h => by unfold mo_S; omega), mo_ks mo_k0 (aq_sm0 (c := c) (S := (fun a => a = y + 13 ∨ a = y + 18 ∨ a = y + 19))) (by omega), fun i => (aq_sm0 (c := c) (S := (fun a => a = y + 13 ∨ a = y + 18 ∨ a = y + 19))) _ (by omega) i, _, rfl, by omega, by omega⟩

theorem nm_lt {a e : Int} (h0 : 2 ≤ a) (h5 : 2 ≤ e) (h : e * e < a * a) : e < a := by
  by_cases h1 : e < a
  · exact h1
  · exfalso
    have := Int.mul_le_mul (show a ≤ e by omega) (show a ≤ e by omega) (by omega) (by omega)
    omega

theorem qm_isPrime_l {m s : Nat} {F : aq_F} {c : aq_C} {p : Int} (hp0 : 2 ≤ p) (hp1 : p ≤ 997) : ∀ (d : Nat) (is : Int) (d5 : Int) (h0 : 2 ≤ d5) (h1 : d5 ≤ 32) (hi : is = 0 ∨ (is = 1 ∧ ∀ e, 2 ≤ e → e < d5 → p % e ≠ 0)) (hd : 32 - d5 < (d : Int)), am_E ac_X5_isPrime (13, [vI p, vI is, vI d5], [], aq_h m s F c) (aq_P m s F c (fun r => ∃ v, r = some (vI v) ∧ (v = 0 ∨ (v = 1 ∧ nm_P p))))
  | 0, is, d5, h0, h1, hi, hd => by exfalso; omega
  | d + 1, is, d5, h0, h1, hi, hd => by
    have e1 : d5 = 32 → d5 * d5 = 1024 := by intro h; rw [h]; rfl
    have e2 := am_sq h0 h1
    refine am_E.go (t2 := (14, [vI p, vI is, vI d5], [vI d5], aq_h m s F c)) rfl rfl ?_
    refine am_E.go (t2 := (15, [vI p, vI is, vI d5], [vI d5, vI d5], aq_h m s F c)) rfl rfl ?_
    refine ae_mul rfl (am_ri (by omega) (by omega)) ?_
    show am_E _ (16, [vI p, vI is, vI d5], [vI (d5 * d5)], aq_h m s F c) _
    refine am_E.go (t2 := (17, [vI p, vI is, vI d5], [vI p, vI (d5 * d5)], aq_h m s F c)) rfl rfl ?_
    refine ae_icmp rfl (fun (q_1 : p < (d5 * d5)) => ?_) (fun (q_1 : (d5 * d5) ≤ p) => ?_)
    · refine am_E.go (t2 := (43, [vI p, vI is, vI d5], [vI is], aq_h m s F c)) rfl rfl ?_
      refine ae_retb rfl (by omega) ?_
      refine ⟨rfl, _, rfl, ?_⟩
      rcases hi with h | ⟨h, h9⟩
      · exact Or.inl h
      · first | (exfalso; omega) | exact Or.inr ⟨h, fun e h5 h6 => h9 e h5 (nm_lt h0 h5 (by omega))⟩
    · refine am_E.go (t2 := (21, [vI p, vI is, vI d5], [vI is], aq_h m s F c)) rfl rfl ?_
      refine ae_if0 rfl (fun (q_2 : is = 0) => ?_) (fun (q_2 : is ≠ 0) => ?_)
      · refine am_E.go (t2 := (43, [vI p, vI is, vI d5], [vI is], aq_h m s F c)) rfl rfl ?_
        refine ae_retb rfl (by omega) ?_
        refine ⟨rfl, _, rfl, ?_⟩
        rcases hi with h | ⟨h, h9⟩
        · exact Or.inl h
        · first | (exfalso; omega) | exact Or.inr ⟨h, fun e h5 h6 => h9 e h5 (nm_lt h0 h5 (by omega))⟩
      · refine am_E.go (t2 := (25, [vI p, vI is, vI d5], [vI p], aq_h m s F c)) rfl rfl ?_
        refine am_E.go (t2 := (26, [vI p, vI is, vI d5], [vI d5, vI p], aq_h m s F c)) rfl rfl ?_
        refine ae_bin (z := p % d5) rfl rfl (am_rem_e (by omega) (by omega)) ?_
        show am_E _ (27, [vI p, vI is, vI d5], [vI (p % d5)], aq_h m s F c) _
        refine ae_if0 rfl (fun (q_3 : (p % d5) = 0) => ?_) (fun (q_3 : (p % d5) ≠ 0) => ?_)
        · refine am_E.go (t2 := (35, [vI p, vI is, vI d5], [vI 0], aq_h m s F c)) rfl rfl ?_
          refine am_E.go (t2 := (36, [vI p, vI 0, vI d5], [], aq_h m s F c)) rfl rfl ?_
          refine ae_iinc rfl rfl (am_ri (by omega) (by omega)) ?_
          show am_E _ (39, [vI p, vI 0, vI (d5 + 1)], [], aq_h m s F c) _
          refine am_E.go (t2 := (13, [vI p, vI 0, vI (d5 + 1)], [], aq_h m s F c)) rfl rfl ?_
          exact qm_isPrime_l hp0 hp1 d 0 (d5 + 1) (by omega) (by omega) (Or.inl rfl) (by omega)
        · refine am_E.go (t2 := (31, [vI p, vI is, vI d5], [vI 1], aq_h m s F c)) rfl rfl ?_
          refine am_E.go (t2 := (35, [vI p, vI is, vI d5], [vI 1], aq_h m s F c)) rfl rfl ?_
          refine am_E.go (t2 := (36, [vI p, vI 1, vI d5], [], aq_h m s F c)) rfl rfl ?_
          refine ae_iinc rfl rfl (am_ri (by omega) (by omega)) ?_
          show am_E _ (39, [vI p, vI 1, vI (d5 + 1)], [], aq_h m s F c) _
          refine am_E.go (t2 := (13, [vI p, vI 1, vI (d5 + 1)], [], aq_h m s F c)) rfl rfl ?_
          exact qm_isPrime_l hp0 hp1 d 1 (d5 + 1) (by omega) (by omega) (by rcases hi with h | ⟨_, h⟩; exact absurd h (by omega); exact Or.inr ⟨rfl, fun e h5 h6 => by by_cases e9 : e = d5; (rw [e9]; assumption); exact h e h5 (by omega)⟩) (by omega)

theorem qm_isPrime {m s : Nat} {F : aq_F} {c : aq_C} {p : Int} (hp0 : 2 ≤ p) (hp1 : p ≤ 997) : am_E ac_X5_isPrime (0, [vI p, vU, vU], [], aq_h m s F c) (aq_P m s F c (fun r => ∃ v, r = some (vI v) ∧ (v = 0 ∨ (v = 1 ∧ nm_P p)))) := by
  refine am_E.go (t2 := (1, [vI p, vU, vU], [vI p], aq_h m s F c)) rfl rfl ?_
  refine am_E.go (t2 := (2, [vI p, vU, vU], [vI 1, vI p], aq_h m s F c)) rfl rfl ?_
  refine ae_icmp rfl (fun (q_1 : p ≤ 1) => ?_) (fun (q_1 : 1 < p) => ?_)
  · refine am_E.go (t2 := (10, [vI p, vU, vU], [vI 0], aq_h m s F c)) rfl rfl ?_
    refine am_E.go (t2 := (11, [vI p, vI 0, vU], [], aq_h m s F c)) rfl rfl ?_
    refine am_E.go (t2 := (12, [vI p, vI 0, vU], [vI 2], aq_h m s F c)) rfl rfl ?_
    refine am_E.go (t2 := (13, [vI p, vI 0, vI 2], [], aq_h m s F c)) rfl rfl ?_
    exact qm_isPrime_l hp0 hp1 32 0 2 (by omega) (by omega) (Or.inl rfl) (by omega)
  · refine am_E.go (t2 := (6, [vI p, vU, vU], [vI 1], aq_h m s F c)) rfl rfl ?_
    refine am_E.go (t2 := (10, [vI p, vU, vU], [vI 1], aq_h m s F c)) rfl rfl ?_
    refine am_E.go (t2 := (11, [vI p, vI 1, vU], [], aq_h m s F c)) rfl rfl ?_
    refine am_E.go (t2 := (12, [vI p, vI 1, vU], [vI 2], aq_h m s F c)) rfl rfl ?_
    refine am_E.go (t2 := (13, [vI p, vI 1, vI 2], [], aq_h m s F c)) rfl rfl ?_
    exact qm_isPrime_l hp0 hp1 32 1 2 (by omega) (by omega) (Or.inr ⟨rfl, fun e h5 h6 => absurd h6 (by omega)⟩) (by omega)

theorem qm_inverse_l {m s : Nat} {F : aq_F} {c : aq_C} {v p w0 : Int} (hv0 : 1 ≤ v) (hvp : v < p) (hp : p ≤ 997) (hw0 : 1 ≤ w0) (hw1 : w0 < p) (hw : (v * w0) % p = 1) : ∀ (d : Nat) (w : Int) (h0 : 1 ≤ w) (h1 : w ≤ w0) (hd : w0 - w < (d : Int)), am_E ac_X5_inverse (2, [vI v, vI p, vI w], [], aq_h m s F c) (aq_P m s F c (fun r => ∃ w, r = some (vI w) ∧ 1 ≤ w ∧ w < p))
  | 0, w, h0, h1, hd => by exfalso; omega
  | d + 1, w, h0, h1, hd => by
    have e2 := nm_mul (a := v) (b := w) (by omega) (by omega) (by omega) (by omega)
    refine am_E.go (t2 := (3, [vI v, vI p, vI w], [vI v], aq_h m s F c)) rfl rfl ?_
    refine am_E.go (t2 := (4, [vI v, vI p, vI w], [vI w, vI v], aq_h m s F c)) rfl rfl ?_
    refine ae_mul rfl (am_ri (by omega) (by omega)) ?_
    show am_E _ (5, [vI v, vI p, vI w], [vI (v * w)], aq_h m s F c) _
    refine am_E.go (t2 := (6, [vI v, vI p, vI w], [vI p, vI (v * w)], aq_h m s F c)) rfl rfl ?_
    refine ae_bin (z := (v * w) % p) rfl rfl (am_rem_e (by omega) (by omega)) ?_
    show am_E _ (7, [vI v, vI p, vI w], [vI ((v * w) % p)], aq_h m s F c) _
    refine am_E.go (t2 := (8, [vI v, vI p, vI w], [vI 1, vI ((v * w) % p)], aq_h m s F c)) rfl rfl ?_
    refine ae_icmp rfl (fun (q_1 : ((v * w) % p) = 1) => ?_) (fun (q_1 : ((v * w) % p) ≠ 1) => ?_)
    · refine am_E.go (t2 := (18, [vI v, vI p, vI w], [vI w], aq_h m s F c)) rfl rfl ?_
      refine am_E.ret rfl rfl ?_
      exact ⟨rfl, _, rfl, by omega, by omega⟩
    · refine ae_iinc rfl rfl (am_ri (by omega) (by omega)) ?_
      show am_E _ (14, [vI v, vI p, vI (w + 1)], [], aq_h m s F c) _
      refine am_E.go (t2 := (2, [vI v, vI p, vI (w + 1)], [], aq_h m s F c)) rfl rfl ?_
      exact qm_inverse_l hv0 hvp hp hw0 hw1 hw d (w + 1) (by omega) (by by_cases e : w = w0; (subst e; exfalso; omega); omega) (by omega)

theorem qm_inverse {m s : Nat} {F : aq_F} {c : aq_C} {v p : Int} (hv0 : 1 ≤ v) (hvp : v < p) (hp : p ≤ 997) (hP : nm_P p) : am_E ac_X5_inverse (0, [vI v, vI p, vU], [], aq_h m s F c) (aq_P m s F c (fun r => ∃ w, r = some (vI w) ∧ 1 ≤ w ∧ w < p)) := by
  obtain ⟨w0, hw0, hw1, hw⟩ := nm_inv hv0 hvp hP
  refine am_E.go (t2 := (1, [vI v, vI p, vU], [vI 1], aq_h m s F c)) rfl rfl ?_
  refine am_E.go (t2 := (2, [vI v, vI p, vI 1], [], aq_h m s F c)) rfl rfl ?_
  exact qm_inverse_l hv0 hvp hp hw0 hw1 hw 1000 1 (by omega) (by omega) (by omega)

def fr_ (y : Nat) (p mn : Int) (c : aq_C) : Prop := ∀ i j, 0 ≤ i → i < mn → 0 ≤ j → j < mn → 0 ≤ c (y + 20) (6 * i + j) ∧ c (y + 20) (6 * i + j) < p
theorem fr_u {y : Nat} {p mn ix x : Int} {c d : aq_C} (h : fr_ y p mn c) (he : aq_u c (y + 20) ix x = d) (h0 : 0 ≤ x) (h1 : x < p) : fr_ y p mn d := fun i j a1 a2 a3 a4 => by
  rw [← he]
  unfold aq_u
  split
  · exact ⟨h0, h1⟩
  · exact h i j a1 a2 a3 a4
theorem nz_swap {A : Nat} {q cc rk rw_ : Int} {c c1 c2 : aq_C} (h : (q ≤ cc → c A (6 * rw_ + cc) ≠ 0) ∧ (cc < q → c A (6 * rk + cc) ≠ 0)) (hd1 : aq_u c A (6 * rk + q) (c A (6 * rw_ + q)) = c1) (hd2 : aq_u c1 A (6 * rw_ + q) (c A (6 * rk + q)) = c2) (h0 : 0 ≤ q) (h1 : q < 6) (h2 : 0 ≤ cc) (h3 : cc < 6) : (q + 1 ≤ cc → c2 A (6 * rw_ + cc) ≠ 0) ∧ (cc < q + 1 → c2 A (6 * rk + cc) ≠ 0) := by
  subst hd1
  subst hd2
  refine ⟨fun k => ?_, fun k => ?_⟩
  · rw [aq_un (Or.inr (by omega)), aq_un (Or.inr (by omega))]
    exact h.1 (by omega)
  · by_cases e : cc = q
    · subst e
      have h5 := h.1 (by omega)
      by_cases e2 : rk = rw_
      · subst e2
        rw [aq_us]
        exact h5
      · rw [aq_un (Or.inr (by omega)), aq_us]
        exact h5
    · have h5 := h.2 (by omega)
      rw [aq_un (Or.inr (by omega)), aq_un (Or.inr (by omega))]
      exact h5
theorem nm_tm {v p : Int} (hp : 0 < p) : -p < v.tmod p ∧ v.tmod p < p := by
  refine ⟨?_, Int.tmod_lt_of_pos v hp⟩
  have h := Int.tmod_lt_of_pos (-v) hp
  rw [Int.neg_tmod] at h
  omega
theorem nm_em {a p : Int} (hp : 0 < p) : 0 ≤ a % p ∧ a % p < p := ⟨Int.emod_nonneg a (by omega), Int.emod_lt_of_pos a hp⟩

theorem qm_reduce_i {m s : Nat} {F : aq_F} {c0 : aq_C} {y : Nat} (hO : mo_0 m F y) {mn rk rw_ cc p : Int} (hp0 : 2 ≤ p) (hp1 : p ≤ 997) (hmn : mn ≤ 6) (hk0 : 0 ≤ rk) (hk1 : rk < mn) (hw0 : 0 ≤ rw_) (hw1 : rw_ < mn) (hc0 : 0 ≤ cc) (hc1 : cc < mn) (hP : nm_P p) : ∀ (d : Nat) (by_ : Int) (i : Int) (tm : Int) (j : Int) (c : aq_C) (hs : aq_sm (fun a => a = y + 20) c0 c) (h0 : 0 ≤ j) (h1 : j ≤ mn) (h2 : 0 ≤ i) (h3 : i < mn) (h4 : 0 ≤ tm) (h5 : tm < p) (hfr : fr_ y p mn c) (hd : mn - j < (d : Int)) (K0 : ∀ (j2 : Int) (c2 : aq_C) (hs2 : aq_sm (fun a => a = y + 20) c0 c2) (hfr2 : fr_ y p mn c2), am_E ac_X5_reduce (181, [vR y, vI mn, vI rk, vI rw_, vI cc, vI p, vI by_, vI i, vI tm, vI j2], [], aq_h m s F c2) (aq_Z m s F (fun a => a = y + 20) c0 (fun r d => r = none ∧ fr_ y p mn d))), am_E ac_X5_reduce (121, [vR y, vI mn, vI rk, vI rw_, vI cc, vI p, vI by_, vI i, vI tm, vI j], [], aq_h m s F c) (aq_Z m s F (fun a => a = y + 20) c0 (fun r d => r = none ∧ fr_ y p mn d))
  | 0, by_, i, tm, j, c, hs, h0, h1, h2, h3, h4, h5, hfr, hd, K0 => by exfalso; omega
  | d + 1, by_, i, tm, j, c, hs, h0, h1, h2, h3, h4, h5, hfr, hd, K0 => by
    obtain ⟨hm, hFo, hG5, hG6, hG7, hG8, hG9, hG10, hG11, hG12, hG13, hG14, hG15, hG16, hG17, hG18, hG19, hG20, hG21, hG22, hG23⟩ := hO
    refine am_E.go (t2 := (123, [vR y, vI mn, vI rk, vI rw_, vI cc, vI p, vI by_, vI i, vI tm, vI j], [vI j], aq_h m s F c)) rfl rfl ?_
    refine am_E.go (t2 := (124, [vR y, vI mn, vI rk, vI rw_, vI cc, vI p, vI by_, vI i, vI tm, vI j], [vI mn, vI j], aq_h m s F c)) rfl rfl ?_
    refine ae_icmp rfl (fun (q_1 : mn ≤ j) => ?_) (fun (q_1 : j < mn) => ?_)
    · exact K0 j c hs hfr
    · refine am_E.go (t2 := (128, [vR y, vI mn, vI rk, vI rw_, vI cc, vI p, vI by_, vI i, vI tm, vI j], [vR y], aq_h m s F c)) rfl rfl ?_
      refine aq_gf (v := vR (y + 20)) rfl (by omega) hFo (by decide) rfl ?_
      show am_E _ (131, [vR y, vI mn, vI rk, vI rw_, vI cc, vI p, vI by_, vI i, vI tm, vI j], [vR (y + 20)], aq_h m s F c) _
      refine am_E.go (t2 := (133, [vR y, vI mn, vI rk, vI rw_, vI cc, vI p, vI by_, vI i, vI tm, vI j], [vI 6, vR (y + 20)], aq_h m s F c)) rfl rfl ?_
      refine am_E.go (t2 := (135, [vR y, vI mn, vI rk, vI rw_, vI cc, vI p, vI by_, vI i, vI tm, vI j], [vI i, vI 6, vR (y + 20)], aq_h m s F c)) rfl rfl ?_
      refine ae_mul rfl (am_ri (by omega) (by omega)) ?_
      show am_E _ (136, [vR y, vI mn, vI rk, vI rw_, vI cc, vI p, vI by_, vI i, vI tm, vI j], [vI (6 * i), vR (y + 20)], aq_h m s F c) _
      refine am_E.go (t2 := (138, [vR y, vI mn, vI rk, vI rw_, vI cc, vI p, vI by_, vI i, vI tm, vI j], [vI j, vI (6 * i), vR (y + 20)], aq_h m s F c)) rfl rfl ?_
      refine ae_add rfl (am_ri (by omega) (by omega)) ?_
      show am_E _ (139, [vR y, vI mn, vI rk, vI rw_, vI cc, vI p, vI by_, vI i, vI tm, vI j], [vI ((6 * i) + j), vR (y + 20)], aq_h m s F c) _
      refine am_E.go (t2 := (140, [vR y, vI mn, vI rk, vI rw_, vI cc, vI p, vI by_, vI i, vI tm, vI j], [vR y, vI ((6 * i) + j), vR (y + 20)], aq_h m s F c)) rfl rfl ?_
      refine aq_gf (v := vR (y + 20)) rfl (by omega) hFo (by decide) rfl ?_
      show am_E _ (143, [vR y, vI mn, vI rk, vI rw_, vI cc, vI p, vI by_, vI i, vI tm, vI j], [vR (y + 20), vI ((6 * i) + j), vR (y + 20)], aq_h m s F c) _
      refine am_E.go (t2 := (145, [vR y, vI mn, vI rk, vI rw_, vI cc, vI p, vI by_, vI i, vI tm, vI j], [vI 6, vR (y + 20), vI ((6 * i) + j), vR (y + 20)], aq_h m s F c)) rfl rfl ?_
      refine am_E.go (t2 := (147, [vR y, vI mn, vI rk, vI rw_, vI cc, vI p, vI by_, vI i, vI tm, vI j], [vI i, vI 6, vR (y + 20), vI ((6 * i) + j), vR (y + 20)], aq_h m s F c)) rfl rfl ?_
      refine ae_mul rfl (am_ri (by omega) (by omega)) ?_
      show am_E _ (148, [vR y, vI mn, vI rk, vI rw_, vI cc, vI p, vI by_, vI i, vI tm, vI j], [vI (6 * i), vR (y + 20), vI ((6 * i) + j), vR (y + 20)], aq_h m s F c) _
      refine am_E.go (t2 := (150, [vR y, vI mn, vI rk, vI rw_, vI cc, vI p, vI by_, vI i, vI tm, vI j], [vI j, vI (6 * i), vR (y + 20), vI ((6 * i) + j), vR (y + 20)], aq_h m s F c)) rfl rfl ?_
      refine ae_add rfl (am_ri (by omega) (by omega)) ?_
      show am_E _ (151, [vR y, vI mn, vI rk, vI rw_, vI cc, vI p, vI by_, vI i, vI tm, vI j], [vI ((6 * i) + j), vR (y + 20), vI ((6 * i) + j), vR (y + 20)], aq_h m s F c) _
      refine aq_al (ok := fun k => k == 0) (v := vI (c (y + 20) ((6 * i) + j))) rfl rfl (by omega) hG20 rfl (by omega) (by omega) rfl ?_
      show am_E _ (152, [vR y, vI mn, vI rk, vI rw_, vI cc, vI p, vI by_, vI i, vI tm, vI j], [vI (c (y + 20) ((6 * i) + j)), vI ((6 * i) + j), vR (y + 20)], aq_h m s F c) _
      have f_2 := hfr i j (by omega) (by omega) (by omega) (by omega)
      refine am_E.go (t2 := (154, [vR y, vI mn, vI rk, vI rw_, vI cc, vI p, vI by_, vI i, vI tm, vI j], [vI p, vI (c (y + 20) ((6 * i) + j)), vI ((6 * i) + j), vR (y + 20)], aq_h m s F c)) rfl rfl ?_
      refine am_E.go (t2 := (156, [vR y, vI mn, vI rk, vI rw_, vI cc, vI p, vI by_, vI i, vI tm, vI j], [vI tm, vI p, vI (c (y + 20) ((6 * i) + j)), vI ((6 * i) + j), vR (y + 20)], aq_h m s F c)) rfl rfl ?_
      refine ae_sub rfl (am_ri (by omega) (by omega)) ?_
      show am_E _ (157, [vR y, vI mn, vI rk, vI rw_, vI cc, vI p, vI by_, vI i, vI tm, vI j], [vI (p - tm), vI (c (y + 20) ((6 * i) + j)), vI ((6 * i) + j), vR (y + 20)], aq_h m s F c) _
      refine am_E.go (t2 := (158, [vR y, vI mn, vI rk, vI rw_, vI cc, vI p, vI by_, vI i, vI tm, vI j], [vR y, vI (p - tm), vI (c (y + 20) ((6 * i) + j)), vI ((6 * i) + j), vR (y + 20)], aq_h m s F c)) rfl rfl ?_
      refine aq_gf (v := vR (y + 20)) rfl (by omega) hFo (by decide) rfl ?_
      show am_E _ (161, [vR y, vI mn, vI rk, vI rw_, vI cc, vI p, vI by_, vI i, vI tm, vI j], [vR (y + 20), vI (p - tm), vI (c (y + 20) ((6 * i) + j)), vI ((6 * i) + j), vR (y + 20)], aq_h m s F c) _
      refine am_E.go (t2 := (163, [vR y, vI mn, vI rk, vI rw_, vI cc, vI p, vI by_, vI i, vI tm, vI j], [vI 6, vR (y + 20), vI (p - tm), vI (c (y + 20) ((6 * i) + j)), vI ((6 * i) + j), vR (y + 20)], aq_h m s F c)) rfl rfl ?_
      refine am_E.go (t2 := (164, [vR y, vI mn, vI rk, vI rw_, vI cc, vI p, vI by_, vI i, vI tm, vI j], [vI rk, vI 6, vR (y + 20), vI (p - tm), vI (c (y + 20) ((6 * i) + j)), vI ((6 * i) + j), vR (y + 20)], aq_h m s F c)) rfl rfl ?_
      refine ae_mul rfl (am_ri (by omega) (by omega)) ?_
      show am_E _ (165, [vR y, vI mn, vI rk, vI rw_, vI cc, vI p, vI by_, vI i, vI tm, vI j], [vI (6 * rk), vR (y + 20), vI (p - tm), vI (c (y + 20) ((6 * i) + j)), vI ((6 * i) + j), vR (y + 20)], aq_h m s F c) _
      refine am_E.go (t2 := (167, [vR y, vI mn, vI rk, vI rw_, vI cc, vI p, vI by_, vI i, vI tm, vI j], [vI j, vI (6 * rk), vR (y + 20), vI (p - tm), vI (c (y + 20) ((6 * i) + j)), vI ((6 * i) + j), vR (y + 20)], aq_h m s F c)) rfl rfl ?_
      refine ae_add rfl (am_ri (by omega) (by omega)) ?_
      show am_E _ (168, [vR y, vI mn, vI rk, vI rw_, vI cc, vI p, vI by_, vI i, vI tm, vI j], [vI ((6 * rk) + j), vR (y + 20), vI (p - tm), vI (c (y + 20) ((6 * i) + j)), vI ((6 * i) + j), vR (y + 20)], aq_h m s F c) _
      refine aq_al (ok := fun k => k == 0) (v := vI (c (y + 20) ((6 * rk) + j))) rfl rfl (by omega) hG20 rfl (by omega) (by omega) rfl ?_
      show am_E _ (169, [vR y, vI mn, vI rk, vI rw_, vI cc, vI p, vI by_, vI i, vI tm, vI j], [vI (c (y + 20) ((6 * rk) + j)), vI (p - tm), vI (c (y + 20) ((6 * i) + j)), vI ((6 * i) + j), vR (y + 20)], aq_h m s F c) _
      have f_3 := hfr rk j (by omega) (by omega) (by omega) (by omega)
      have u_4 := nm_mul (a := (p - tm)) (b := (c (y + 20) ((6 * rk) + j))) (by omega) (by omega) (by omega) (by omega)
      refine ae_mul rfl (am_ri (by omega) (by omega)) ?_
      show am_E _ (170, [vR y, vI mn, vI rk, vI rw_, vI cc, vI p, vI by_, vI i, vI tm, vI j], [vI ((p - tm) * (c (y + 20) ((6 * rk) + j))), vI (c (y + 20) ((6 * i) + j)), vI ((6 * i) + j), vR (y + 20)], aq_h m s F c) _
      refine ae_add rfl (am_ri (by omega) (by omega)) ?_
      show am_E _ (171, [vR y, vI mn, vI rk, vI rw_, vI cc, vI p, vI by_, vI i, vI tm, vI j], [vI ((c (y + 20) ((6 * i) + j)) + ((p - tm) * (c (y + 20) ((6 * rk) + j)))), vI ((6 * i) + j), vR (y + 20)], aq_h m s F c) _
      refine am_E.go (t2 := (173, [vR y, vI mn, vI rk, vI rw_, vI cc, vI p, vI by_, vI i, vI tm, vI j], [vI p, vI ((c (y + 20) ((6 * i) + j)) + ((p - tm) * (c (y + 20) ((6 * rk) + j)))), vI ((6 * i) + j), vR (y + 20)], aq_h m s F c)) rfl rfl ?_
      have eu_5 := nm_em (a := ((c (y + 20) ((6 * i) + j)) + ((p - tm) * (c (y + 20) ((6 * rk) + j))))) (p := p) (by omega)
      refine ae_bin (z := ((c (y + 20) ((6 * i) + j)) + ((p - tm) * (c (y + 20) ((6 * rk) + j)))) % p) rfl rfl (am_rem_e (by omega) (by omega)) ?_
      generalize ((c (y + 20) ((6 * i) + j)) + ((p - tm) * (c (y + 20) ((6 * rk) + j)))) % p = u_5 at eu_5 ⊢
      refine aq_as (kd := 0) rfl rfl (by omega) hG20 (by omega) (by omega) rfl rfl ?_
      show am_E _ (175, [vR y, vI mn, vI rk, vI rw_, vI cc, vI p, vI by_, vI i, vI tm, vI j], [], aq_h m s F (aq_u c (y + 20) ((6 * i) + j) u_5)) _
      generalize hdc_6 : aq_u c (y + 20) ((6 * i) + j) u_5 = c_6
      have sc_6 := aq_smu hs hdc_6 rfl
      have hfrc_6 := fr_u hfr hdc_6 (by omega) (by omega)
      refine ae_iinc rfl rfl (am_ri (by omega) (by omega)) ?_
      show am_E _ (178, [vR y, vI mn, vI rk, vI rw_, vI cc, vI p, vI by_, vI i, vI tm, vI (j + 1)], [], aq_h m s F c_6) _
      refine am_E.go (t2 := (121, [vR y, vI mn, vI rk, vI rw_, vI cc, vI p, vI by_, vI i, vI tm, vI (j + 1)], [], aq_h m s F c_6)) rfl rfl ?_
      exact qm_reduce_i ⟨hm, hFo, hG5, hG6, hG7, hG8, hG9, hG10, hG11, hG12, hG13, hG14, hG15, hG16, hG17, hG18, hG19, hG20, hG21, hG22, hG23⟩ hp0 hp1 hmn hk0 hk1 hw0 hw1 hc0 hc1 hP d by_ i tm (j + 1) c_6 sc_6 (by omega) (by omega) (by omega) (by omega) (by omega) (by omega) hfrc_6 (by omega) K0

theorem qm_reduce_o {m s : Nat} {F : aq_F} {c0 : aq_C} {y : Nat} (hO : mo_0 m F y) {mn rk rw_ cc p : Int} (hp0 : 2 ≤ p) (hp1 : p ≤ 997) (hmn : mn ≤ 6) (hk0 : 0 ≤ rk) (hk1 : rk < mn) (hw0 : 0 ≤ rw_) (hw1 : rw_ < mn) (hc0 : 0 ≤ cc) (hc1 : cc < mn) (hP : nm_P p) : ∀ (d : Nat) (by_ : Int) (i : Int) (v8 : am_V) (v9 : am_V) (c : aq_C) (hs : aq_sm (fun a => a = y + 20) c0 c) (h0 : 0 ≤ i) (h1 : i ≤ mn) (h2 : 1 ≤ by_) (h3 : by_ < p) (hfr : fr_ y p mn c) (hd : mn - i < (d : Int)), am_E ac_X5_reduce (91, [vR y, vI mn, vI rk, vI rw_, vI cc, vI p, vI by_, vI i, v8, v9], [], aq_h m s F c) (aq_Z m s F (fun a => a = y + 20) c0 (fun r d => r = none ∧ fr_ y p mn d))
  | 0, by_, i, v8, v9, c, hs, h0, h1, h2, h3, hfr, hd => by exfalso; omega
  | d + 1, by_, i, v8, v9, c, hs, h0, h1, h2, h3, hfr, hd => by
    obtain ⟨hm, hFo, hG5, hG6, hG7, hG8, hG9, hG10, hG11, hG12, hG13, hG14, hG15, hG16, hG17, hG18, hG19, hG20, hG21, hG22, hG23⟩ := hO
    refine am_E.go (t2 := (93, [vR y, vI mn, vI rk, vI rw_, vI cc, vI p, vI by_, vI i, v8, v9], [vI i], aq_h m s F c)) rfl rfl ?_
    refine am_E.go (t2 := (94, [vR y, vI mn, vI rk, vI rw_, vI cc, vI p, vI by_, vI i, v8, v9], [vI mn, vI i], aq_h m s F c)) rfl rfl ?_
    refine ae_icmp rfl (fun (q_1 : mn ≤ i) => ?_) (fun (q_1 : i < mn) => ?_)
    · refine am_E.ret rfl rfl ?_
      exact ⟨_, rfl, hs, rfl, hfr⟩
    · refine am_E.go (t2 := (98, [vR y, vI mn, vI rk, vI rw_, vI cc, vI p, vI by_, vI i, v8, v9], [vR y], aq_h m s F c)) rfl rfl ?_
      refine aq_gf (v := vR (y + 20)) rfl (by omega) hFo (by decide) rfl ?_
      show am_E _ (101, [vR y, vI mn, vI rk, vI rw_, vI cc, vI p, vI by_, vI i, v8, v9], [vR (y + 20)], aq_h m s F c) _
      refine am_E.go (t2 := (103, [vR y, vI mn, vI rk, vI rw_, vI cc, vI p, vI by_, vI i, v8, v9], [vI 6, vR (y + 20)], aq_h m s F c)) rfl rfl ?_
      refine am_E.go (t2 := (105, [vR y, vI mn, vI rk, vI rw_, vI cc, vI p, vI by_, vI i, v8, v9], [vI i, vI 6, vR (y + 20)], aq_h m s F c)) rfl rfl ?_
      refine ae_mul rfl (am_ri (by omega) (by omega)) ?_
      show am_E _ (106, [vR y, vI mn, vI rk, vI rw_, vI cc, vI p, vI by_, vI i, v8, v9], [vI (6 * i), vR (y + 20)], aq_h m s F c) _
      refine am_E.go (t2 := (108, [vR y, vI mn, vI rk, vI rw_, vI cc, vI p, vI by_, vI i, v8, v9], [vI cc, vI (6 * i), vR (y + 20)], aq_h m s F c)) rfl rfl ?_
      refine ae_add rfl (am_ri (by omega) (by omega)) ?_
      show am_E _ (109, [vR y, vI mn, vI rk, vI rw_, vI cc, vI p, vI by_, vI i, v8, v9], [vI ((6 * i) + cc), vR (y + 20)], aq_h m s F c) _
      refine aq_al (ok := fun k => k == 0) (v := vI (c (y + 20) ((6 * i) + cc))) rfl rfl (by omega) hG20 rfl (by omega) (by omega) rfl ?_
      show am_E _ (110, [vR y, vI mn, vI rk, vI rw_, vI cc, vI p, vI by_, vI i, v8, v9], [vI (c (y + 20) ((6 * i) + cc))], aq_h m s F c) _
      have f_2 := hfr i cc (by omega) (by omega) (by omega) (by omega)
      refine am_E.go (t2 := (112, [vR y, vI mn, vI rk, vI rw_, vI cc, vI p, vI by_, vI i, v8, v9], [vI by_, vI (c (y + 20) ((6 * i) + cc))], aq_h m s F c)) rfl rfl ?_
      have u_3 := nm_mul (a := (c (y + 20) ((6 * i) + cc))) (b := by_) (by omega) (by omega) (by omega) (by omega)
      refine ae_mul rfl (am_ri (by omega) (by omega)) ?_
      show am_E _ (113, [vR y, vI mn, vI rk, vI rw_, vI cc, vI p, vI by_, vI i, v8, v9], [vI ((c (y + 20) ((6 * i) + cc)) * by_)], aq_h m s F c) _
      refine am_E.go (t2 := (115, [vR y, vI mn, vI rk, vI rw_, vI cc, vI p, vI by_, vI i, v8, v9], [vI p, vI ((c (y + 20) ((6 * i) + cc)) * by_)], aq_h m s F c)) rfl rfl ?_
      have eu_4 := nm_em (a := ((c (y + 20) ((6 * i) + cc)) * by_)) (p := p) (by omega)
      refine ae_bin (z := ((c (y + 20) ((6 * i) + cc)) * by_) % p) rfl rfl (am_rem_e (by omega) (by omega)) ?_
      generalize ((c (y + 20) ((6 * i) + cc)) * by_) % p = u_4 at eu_4 ⊢
      refine am_E.go (t2 := (118, [vR y, vI mn, vI rk, vI rw_, vI cc, vI p, vI by_, vI i, vI u_4, v9], [], aq_h m s F c)) rfl rfl ?_
      refine am_E.go (t2 := (119, [vR y, vI mn, vI rk, vI rw_, vI cc, vI p, vI by_, vI i, vI u_4, v9], [vI 0], aq_h m s F c)) rfl rfl ?_
      refine am_E.go (t2 := (121, [vR y, vI mn, vI rk, vI rw_, vI cc, vI p, vI by_, vI i, vI u_4, vI 0], [], aq_h m s F c)) rfl rfl ?_
      refine qm_reduce_i ⟨hm, hFo, hG5, hG6, hG7, hG8, hG9, hG10, hG11, hG12, hG13, hG14, hG15, hG16, hG17, hG18, hG19, hG20, hG21, hG22, hG23⟩ hp0 hp1 hmn hk0 hk1 hw0 hw1 hc0 hc1 hP 8 by_ i u_4 0 c hs (by omega) (by omega) (by omega) (by omega) (by omega) (by omega) hfr (by omega) ?_
      · intro j2_121 c_5 sc_5 hfr2_121
        refine ae_iinc rfl rfl (am_ri (by omega) (by omega)) ?_
        show am_E _ (184, [vR y, vI mn, vI rk, vI rw_, vI cc, vI p, vI by_, vI (i + 1), vI u_4, vI j2_121], [], aq_h m s F c_5) _
        refine am_E.go (t2 := (91, [vR y, vI mn, vI rk, vI rw_, vI cc, vI p, vI by_, vI (i + 1), vI u_4, vI j2_121], [], aq_h m s F c_5)) rfl rfl ?_
        exact qm_reduce_o ⟨hm, hFo, hG5, hG6, hG7, hG8, hG9, hG10, hG11, hG12, hG13, hG14, hG15, hG16, hG17, hG18, hG19, hG20, hG21, hG22, hG23⟩ hp0 hp1 hmn hk0 hk1 hw0 hw1 hc0 hc1 hP d by_ (i + 1) (vI u_4) (vI j2_121) c_5 sc_5 (by omega) (by omega) (by omega) (by omega) hfr2_121 (by omega)

theorem qm_reduce_s {m s : Nat} {F : aq_F} {c0 : aq_C} {y : Nat} (hO : mo_0 m F y) {mn rk rw_ cc p : Int} (hp0 : 2 ≤ p) (hp1 : p ≤ 997) (hmn : mn ≤ 6) (hk0 : 0 ≤ rk) (hk1 : rk < mn) (hw0 : 0 ≤ rw_) (hw1 : rw_ < mn) (hc0 : 0 ≤ cc) (hc1 : cc < mn) (hP : nm_P p) : ∀ (d : Nat) (q : Int) (v7 : am_V) (v8 : am_V) (v9 : am_V) (c : aq_C) (hs : aq_sm (fun a => a = y + 20) c0 c) (h0 : 0 ≤ q) (h1 : q ≤ mn) (hnz : (q ≤ cc → c (y + 20) (6 * rw_ + cc) ≠ 0) ∧ (cc < q → c (y + 20) (6 * rk + cc) ≠ 0)) (hfr : fr_ y p mn c) (hd : mn - q < (d : Int)), am_E ac_X5_reduce (3, [vR y, vI mn, vI rk, vI rw_, vI cc, vI p, vI q, v7, v8, v9], [], aq_h m s F c) (aq_Z m s F (fun a => a = y + 20) c0 (fun r d => r = none ∧ fr_ y p mn d))
  | 0, q, v7, v8, v9, c, hs, h0, h1, hnz, hfr, hd => by exfalso; omega
  | d + 1, q, v7, v8, v9, c, hs, h0, h1, hnz, hfr, hd => by
    obtain ⟨hm, hFo, hG5, hG6, hG7, hG8, hG9, hG10, hG11, hG12, hG13, hG14, hG15, hG16, hG17, hG18, hG19, hG20, hG21, hG22, hG23⟩ := hO
    refine am_E.go (t2 := (5, [vR y, vI mn, vI rk, vI rw_, vI cc, vI p, vI q, v7, v8, v9], [vI q], aq_h m s F c)) rfl rfl ?_
    refine am_E.go (t2 := (6, [vR y, vI mn, vI rk, vI rw_, vI cc, vI p, vI q, v7, v8, v9], [vI mn, vI q], aq_h m s F c)) rfl rfl ?_
    refine ae_icmp rfl (fun (q_1 : mn ≤ q) => ?_) (fun (q_1 : q < mn) => ?_)
    · refine am_E.go (t2 := (68, [vR y, vI mn, vI rk, vI rw_, vI cc, vI p, vI q, v7, v8, v9], [vR y], aq_h m s F c)) rfl rfl ?_
      refine aq_gf (v := vR (y + 20)) rfl (by omega) hFo (by decide) rfl ?_
      show am_E _ (71, [vR y, vI mn, vI rk, vI rw_, vI cc, vI p, vI q, v7, v8, v9], [vR (y + 20)], aq_h m s F c) _
      refine am_E.go (t2 := (73, [vR y, vI mn, vI rk, vI rw_, vI cc, vI p, vI q, v7, v8, v9], [vI 6, vR (y + 20)], aq_h m s F c)) rfl rfl ?_
      refine am_E.go (t2 := (74, [vR y, vI mn, vI rk, vI rw_, vI cc, vI p, vI q, v7, v8, v9], [vI rk, vI 6, vR (y + 20)], aq_h m s F c)) rfl rfl ?_
      refine ae_mul rfl (am_ri (by omega) (by omega)) ?_
      show am_E _ (75, [vR y, vI mn, vI rk, vI rw_, vI cc, vI p, vI q, v7, v8, v9], [vI (6 * rk), vR (y + 20)], aq_h m s F c) _
      refine am_E.go (t2 := (77, [vR y, vI mn, vI rk, vI rw_, vI cc, vI p, vI q, v7, v8, v9], [vI cc, vI (6 * rk), vR (y + 20)], aq_h m s F c)) rfl rfl ?_
      refine ae_add rfl (am_ri (by omega) (by omega)) ?_
      show am_E _ (78, [vR y, vI mn, vI rk, vI rw_, vI cc, vI p, vI q, v7, v8, v9], [vI ((6 * rk) + cc), vR (y + 20)], aq_h m s F c) _
      refine aq_al (ok := fun k => k == 0) (v := vI (c (y + 20) ((6 * rk) + cc))) rfl rfl (by omega) hG20 rfl (by omega) (by omega) rfl ?_
      show am_E _ (79, [vR y, vI mn, vI rk, vI rw_, vI cc, vI p, vI q, v7, v8, v9], [vI (c (y + 20) ((6 * rk) + cc))], aq_h m s F c) _
      have f_2 := hfr rk cc (by omega) (by omega) (by omega) (by omega)
      refine am_E.go (t2 := (81, [vR y, vI mn, vI rk, vI rw_, vI cc, vI p, vI q, v7, v8, v9], [vI p, vI (c (y + 20) ((6 * rk) + cc))], aq_h m s F c)) rfl rfl ?_
      refine am_E.call rfl rfl rfl (Nat.le_of_ble_eq_true rfl) (qm_inverse (by have := hnz.2 (by omega); omega) (by omega) (by omega) hP) ?_
      rintro r5 h5 ⟨rfl, by_, rfl, hby0, hby1⟩
      show am_E _ (84, [vR y, vI mn, vI rk, vI rw_, vI cc, vI p, vI q, v7, v8, v9], [vI by_], aq_h m s F c) _
      refine am_E.go (t2 := (86, [vR y, vI mn, vI rk, vI rw_, vI cc, vI p, vI by_, v7, v8, v9], [], aq_h m s F c)) rfl rfl ?_
      refine am_E.go (t2 := (87, [vR y, vI mn, vI rk, vI rw_, vI cc, vI p, vI by_, v7, v8, v9], [vI rk], aq_h m s F c)) rfl rfl ?_
      refine am_E.go (t2 := (88, [vR y, vI mn, vI rk, vI rw_, vI cc, vI p, vI by_, v7, v8, v9], [vI 1, vI rk], aq_h m s F c)) rfl rfl ?_
      refine ae_add rfl (am_ri (by omega) (by omega)) ?_
      show am_E _ (89, [vR y, vI mn, vI rk, vI rw_, vI cc, vI p, vI by_, v7, v8, v9], [vI (rk + 1)], aq_h m s F c) _
      refine am_E.go (t2 := (91, [vR y, vI mn, vI rk, vI rw_, vI cc, vI p, vI by_, vI (rk + 1), v8, v9], [], aq_h m s F c)) rfl rfl ?_
      exact qm_reduce_o ⟨hm, hFo, hG5, hG6, hG7, hG8, hG9, hG10, hG11, hG12, hG13, hG14, hG15, hG16, hG17, hG18, hG19, hG20, hG21, hG22, hG23⟩ hp0 hp1 hmn hk0 hk1 hw0 hw1 hc0 hc1 hP 8 by_ (rk + 1) (v8) (v9) c hs (by omega) (by omega) (by omega) (by omega) hfr (by omega)
    · refine am_E.go (t2 := (10, [vR y, vI mn, vI rk, vI rw_, vI cc, vI p, vI q, v7, v8, v9], [vR y], aq_h m s F c)) rfl rfl ?_
      refine aq_gf (v := vR (y + 20)) rfl (by omega) hFo (by decide) rfl ?_
      show am_E _ (13, [vR y, vI mn, vI rk, vI rw_, vI cc, vI p, vI q, v7, v8, v9], [vR (y + 20)], aq_h m s F c) _
      refine am_E.go (t2 := (15, [vR y, vI mn, vI rk, vI rw_, vI cc, vI p, vI q, v7, v8, v9], [vI 6, vR (y + 20)], aq_h m s F c)) rfl rfl ?_
      refine am_E.go (t2 := (16, [vR y, vI mn, vI rk, vI rw_, vI cc, vI p, vI q, v7, v8, v9], [vI rk, vI 6, vR (y + 20)], aq_h m s F c)) rfl rfl ?_
      refine ae_mul rfl (am_ri (by omega) (by omega)) ?_
      show am_E _ (17, [vR y, vI mn, vI rk, vI rw_, vI cc, vI p, vI q, v7, v8, v9], [vI (6 * rk), vR (y + 20)], aq_h m s F c) _
      refine am_E.go (t2 := (19, [vR y, vI mn, vI rk, vI rw_, vI cc, vI p, vI q, v7, v8, v9], [vI q, vI (6 * rk), vR (y + 20)], aq_h m s F c)) rfl rfl ?_
      refine ae_add rfl (am_ri (by omega) (by omega)) ?_
      show am_E _ (20, [vR y, vI mn, vI rk, vI rw_, vI cc, vI p, vI q, v7, v8, v9], [vI ((6 * rk) + q), vR (y + 20)], aq_h m s F c) _
      refine aq_al (ok := fun k => k == 0) (v := vI (c (y + 20) ((6 * rk) + q))) rfl rfl (by omega) hG20 rfl (by omega) (by omega) rfl ?_
      show am_E _ (21, [vR y, vI mn, vI rk, vI rw_, vI cc, vI p, vI q, v7, v8, v9], [vI (c (y + 20) ((6 * rk) + q))], aq_h m s F c) _
      have f_3 := hfr rk q (by omega) (by omega) (by omega) (by omega)
      refine am_E.go (t2 := (23, [vR y, vI mn, vI rk, vI rw_, vI cc, vI p, vI q, vI (c (y + 20) ((6 * rk) + q)), v8, v9], [], aq_h m s F c)) rfl rfl ?_
      refine am_E.go (t2 := (24, [vR y, vI mn, vI rk, vI rw_, vI cc, vI p, vI q, vI (c (y + 20) ((6 * rk) + q)), v8, v9], [vR y], aq_h m s F c)) rfl rfl ?_
      refine aq_gf (v := vR (y + 20)) rfl (by omega) hFo (by decide) rfl ?_
      show am_E _ (27, [vR y, vI mn, vI rk, vI rw_, vI cc, vI p, vI q, vI (c (y + 20) ((6 * rk) + q)), v8, v9], [vR (y + 20)], aq_h m s F c) _
      refine am_E.go (t2 := (29, [vR y, vI mn, vI rk, vI rw_, vI cc, vI p, vI q, vI (c (y + 20) ((6 * rk) + q)), v8, v9], [vI 6, vR (y + 20)], aq_h m s F c)) rfl rfl ?_
      refine am_E.go (t2 := (30, [vR y, vI mn, vI rk, vI rw_, vI cc, vI p, vI q, vI (c (y + 20) ((6 * rk) + q)), v8, v9], [vI rk, vI 6, vR (y + 20)], aq_h m s F c)) rfl rfl ?_
      refine ae_mul rfl (am_ri (by omega) (by omega)) ?_
      show am_E _ (31, [vR y, vI mn, vI rk, vI rw_, vI cc, vI p, vI q, vI (c (y + 20) ((6 * rk) + q)), v8, v9], [vI (6 * rk), vR (y + 20)], aq_h m s F c) _
      refine am_E.go (t2 := (33, [vR y, vI mn, vI rk, vI rw_, vI cc, vI p, vI q, vI (c (y + 20) ((6 * rk) + q)), v8, v9], [vI q, vI (6 * rk), vR (y + 20)], aq_h m s F c)) rfl rfl ?_
      refine ae_add rfl (am_ri (by omega) (by omega)) ?_
      show am_E _ (34, [vR y, vI mn, vI rk, vI rw_, vI cc, vI p, vI q, vI (c (y + 20) ((6 * rk) + q)), v8, v9], [vI ((6 * rk) + q), vR (y + 20)], aq_h m s F c) _
      refine am_E.go (t2 := (35, [vR y, vI mn, vI rk, vI rw_, vI cc, vI p, vI q, vI (c (y + 20) ((6 * rk) + q)), v8, v9], [vR y, vI ((6 * rk) + q), vR (y + 20)], aq_h m s F c)) rfl rfl ?_
      refine aq_gf (v := vR (y + 20)) rfl (by omega) hFo (by decide) rfl ?_
      show am_E _ (38, [vR y, vI mn, vI rk, vI rw_, vI cc, vI p, vI q, vI (c (y + 20) ((6 * rk) + q)), v8, v9], [vR (y + 20), vI ((6 * rk) + q), vR (y + 20)], aq_h m s F c) _
      refine am_E.go (t2 := (40, [vR y, vI mn, vI rk, vI rw_, vI cc, vI p, vI q, vI (c (y + 20) ((6 * rk) + q)), v8, v9], [vI 6, vR (y + 20), vI ((6 * rk) + q), vR (y + 20)], aq_h m s F c)) rfl rfl ?_
      refine am_E.go (t2 := (41, [vR y, vI mn, vI rk, vI rw_, vI cc, vI p, vI q, vI (c (y + 20) ((6 * rk) + q)), v8, v9], [vI rw_, vI 6, vR (y + 20), vI ((6 * rk) + q), vR (y + 20)], aq_h m s F c)) rfl rfl ?_
      refine ae_mul rfl (am_ri (by omega) (by omega)) ?_
      show am_E _ (42, [vR y, vI mn, vI rk, vI rw_, vI cc, vI p, vI q, vI (c (y + 20) ((6 * rk) + q)), v8, v9], [vI (6 * rw_), vR (y + 20), vI ((6 * rk) + q), vR (y + 20)], aq_h m s F c) _
      refine am_E.go (t2 := (44, [vR y, vI mn, vI rk, vI rw_, vI cc, vI p, vI q, vI (c (y + 20) ((6 * rk) + q)), v8, v9], [vI q, vI (6 * rw_), vR (y + 20), vI ((6 * rk) + q), vR (y + 20)], aq_h m s F c)) rfl rfl ?_
      refine ae_add rfl (am_ri (by omega) (by omega)) ?_
      show am_E _ (45, [vR y, vI mn, vI rk, vI rw_, vI cc, vI p, vI q, vI (c (y + 20) ((6 * rk) + q)), v8, v9], [vI ((6 * rw_) + q), vR (y + 20), vI ((6 * rk) + q), vR (y + 20)], aq_h m s F c) _
      refine aq_al (ok := fun k => k == 0) (v := vI (c (y + 20) ((6 * rw_) + q))) rfl rfl (by omega) hG20 rfl (by omega) (by omega) rfl ?_
      show am_E _ (46, [vR y, vI mn, vI rk, vI rw_, vI cc, vI p, vI q, vI (c (y + 20) ((6 * rk) + q)), v8, v9], [vI (c (y + 20) ((6 * rw_) + q)), vI ((6 * rk) + q), vR (y + 20)], aq_h m s F c) _
      have f_4 := hfr rw_ q (by omega) (by omega) (by omega) (by omega)
      refine aq_as (kd := 0) rfl rfl (by omega) hG20 (by omega) (by omega) rfl rfl ?_
      show am_E _ (47, [vR y, vI mn, vI rk, vI rw_, vI cc, vI p, vI q, vI (c (y + 20) ((6 * rk) + q)), v8, v9], [], aq_h m s F (aq_u c (y + 20) ((6 * rk) + q) (c (y + 20) ((6 * rw_) + q)))) _
      generalize hdc_5 : aq_u c (y + 20) ((6 * rk) + q) (c (y + 20) ((6 * rw_) + q)) = c_5
      have sc_5 := aq_smu hs hdc_5 rfl
      have hfrc_5 := fr_u hfr hdc_5 (by omega) (by omega)
      refine am_E.go (t2 := (48, [vR y, vI mn, vI rk, vI rw_, vI cc, vI p, vI q, vI (c (y + 20) ((6 * rk) + q)), v8, v9], [vR y], aq_h m s F c_5)) rfl rfl ?_
      refine aq_gf (v := vR (y + 20)) rfl (by omega) hFo (by decide) rfl ?_
      show am_E _ (51, [vR y, vI mn, vI rk, vI rw_, vI cc, vI p, vI q, vI (c (y + 20) ((6 * rk) + q)), v8, v9], [vR (y + 20)], aq_h m s F c_5) _
      refine am_E.go (t2 := (53, [vR y, vI mn, vI rk, vI rw_, vI cc, vI p, vI q, vI (c (y + 20) ((6 * rk) + q)), v8, v9], [vI 6, vR (y + 20)], aq_h m s F c_5)) rfl rfl ?_
      refine am_E.go (t2 := (54, [vR y, vI mn, vI rk, vI rw_, vI cc, vI p, vI q, vI (c (y + 20) ((6 * rk) + q)), v8, v9], [vI rw_, vI 6, vR (y + 20)], aq_h m s F c_5)) rfl rfl ?_
      refine ae_mul rfl (am_ri (by omega) (by omega)) ?_
      show am_E _ (55, [vR y, vI mn, vI rk, vI rw_, vI cc, vI p, vI q, vI (c (y + 20) ((6 * rk) + q)), v8, v9], [vI (6 * rw_), vR (y + 20)], aq_h m s F c_5) _
      refine am_E.go (t2 := (57, [vR y, vI mn, vI rk, vI rw_, vI cc, vI p, vI q, vI (c (y + 20) ((6 * rk) + q)), v8, v9], [vI q, vI (6 * rw_), vR (y + 20)], aq_h m s F c_5)) rfl rfl ?_
      refine ae_add rfl (am_ri (by omega) (by omega)) ?_
      show am_E _ (58, [vR y, vI mn, vI rk, vI rw_, vI cc, vI p, vI q, vI (c (y + 20) ((6 * rk) + q)), v8, v9], [vI ((6 * rw_) + q), vR (y + 20)], aq_h m s F c_5) _
      refine am_E.go (t2 := (60, [vR y, vI mn, vI rk, vI rw_, vI cc, vI p, vI q, vI (c (y + 20) ((6 * rk) + q)), v8, v9], [vI (c (y + 20) ((6 * rk) + q)), vI ((6 * rw_) + q), vR (y + 20)], aq_h m s F c_5)) rfl rfl ?_
      refine aq_as (kd := 0) rfl rfl (by omega) hG20 (by omega) (by omega) rfl rfl ?_
      show am_E _ (61, [vR y, vI mn, vI rk, vI rw_, vI cc, vI p, vI q, vI (c (y + 20) ((6 * rk) + q)), v8, v9], [], aq_h m s F (aq_u c_5 (y + 20) ((6 * rw_) + q) (c (y + 20) ((6 * rk) + q)))) _
      generalize hdc_6 : aq_u c_5 (y + 20) ((6 * rw_) + q) (c (y + 20) ((6 * rk) + q)) = c_6
      have sc_6 := aq_smu sc_5 hdc_6 rfl
      have hfrc_6 := fr_u hfrc_5 hdc_6 (by omega) (by omega)
      refine ae_iinc rfl rfl (am_ri (by omega) (by omega)) ?_
      show am_E _ (64, [vR y, vI mn, vI rk, vI rw_, vI cc, vI p, vI (q + 1), vI (c (y + 20) ((6 * rk) + q)), v8, v9], [], aq_h m s F c_6) _
      refine am_E.go (t2 := (3, [vR y, vI mn, vI rk, vI rw_, vI cc, vI p, vI (q + 1), vI (c (y + 20) ((6 * rk) + q)), v8, v9], [], aq_h m s F c_6)) rfl rfl ?_
      exact qm_reduce_s ⟨hm, hFo, hG5, hG6, hG7, hG8, hG9, hG10, hG11, hG12, hG13, hG14, hG15, hG16, hG17, hG18, hG19, hG20, hG21, hG22, hG23⟩ hp0 hp1 hmn hk0 hk1 hw0 hw1 hc0 hc1 hP d (q + 1) (vI (c (y + 20) ((6 * rk) + q))) (v8) (v9) c_6 sc_6 (by omega) (by omega) (nz_swap hnz hdc_5 hdc_6 (by omega) (by omega) (by omega) (by omega)) hfrc_6 (by omega)

theorem qm_reduce {m s : Nat} {F : aq_F} {c : aq_C} {y : Nat} (hO : mo_0 m F y) {mn rk rw_ cc p : Int} (hp0 : 2 ≤ p) (hp1 : p ≤ 997) (hmn : mn ≤ 6) (hk0 : 0 ≤ rk) (hk1 : rk < mn) (hw0 : 0 ≤ rw_) (hw1 : rw_ < mn) (hc0 : 0 ≤ cc) (hc1 : cc < mn) (hP : nm_P p) (hfr : fr_ y p mn c) (hnz0 : c (y + 20) (6 * rw_ + cc) ≠ 0) : am_E ac_X5_reduce (0, [vR y, vI mn, vI rk, vI rw_, vI cc, vI p, vU, vU, vU, vU], [], aq_h m s F c) (aq_Z m s F (fun a => a = y + 20) c (fun r d => r = none ∧ fr_ y p mn d)) := by
  obtain ⟨hm, hFo, hG5, hG6, hG7, hG8, hG9, hG10, hG11, hG12, hG13, hG14, hG15, hG16, hG17, hG18, hG19, hG20, hG21, hG22, hG23⟩ := hO
  refine am_E.go (t2 := (1, [vR y, vI mn, vI rk, vI rw_, vI cc, vI p, vU, vU, vU, vU], [vI 0], aq_h m s F c)) rfl rfl ?_
  refine am_E.go (t2 := (3, [vR y, vI mn, vI rk, vI rw_, vI cc, vI p, vI 0, vU, vU, vU], [], aq_h m s F c)) rfl rfl ?_
  exact qm_reduce_s ⟨hm, hFo, hG5, hG6, hG7, hG8, hG9, hG10, hG11, hG12, hG13, hG14, hG15, hG16, hG17, hG18, hG19, hG20, hG21, hG22, hG23⟩ hp0 hp1 hmn hk0 hk1 hw0 hw1 hc0 hc1 hP 8 0 (vU) (vU) (vU) c (aq_sm0 (c := c) (S := (fun a => a = y + 20))) (by omega) (by omega) ⟨fun _ => hnz0, fun h => absurd h (by omega)⟩ hfr (by omega)

def ff_ (y : Nat) (p mn i j : Int) (c : aq_C) : Prop := ∀ a b, 0 ≤ a → 0 ≤ b → b < mn → (a < i ∨ (a = i ∧ b < j)) → 0 ≤ c (y + 20) (6 * a + b) ∧ c (y + 20) (6 * a + b) < p
theorem ff_u {y : Nat} {p mn i j x : Int} {c d : aq_C} (h : ff_ y p mn i j c) (he : aq_u c (y + 20) (6 * i + j) x = d) (h0 : 0 ≤ x) (h1 : x < p) (hm : mn ≤ 6) (hj : j < mn) (hj0 : 0 ≤ j) : ff_ y p mn i (j + 1) d := fun a b a1 a2 a3 a4 => by
  rw [← he]
  unfold aq_u
  by_cases e : a = i ∧ b = j
  · rw [if_pos ⟨rfl, by omega⟩]
    exact ⟨h0, h1⟩
  · rw [if_neg (by omega)]
    exact h a b a1 a2 a3 (by omega)
theorem ff_c {y : Nat} {p mn i j : Int} {c d : aq_C} (h : ff_ y p mn i j c) (hs : ∀ k, d (y + 20) k = c (y + 20) k) : ff_ y p mn i j d := fun a b a1 a2 a3 a4 => by
  rw [hs]
  exact h a b a1 a2 a3 a4
/-- the first free point from p on -/
def dc_p (w : Int → Int) : Nat → Int → Int
  | 0, p => p
  | d + 1, p => if w p = 0 then p else dc_p w d (p + 1)
/-- the partner: as many free points are passed over as ch tells -/
def dc_q (w : Int → Int) : Nat → Int → Int → Int
  | 0, _, q => q
  | d + 1, ch, q => if w q = 0 ∧ ch ≤ 0 then q else dc_q w d (ch - if w q = 0 then 1 else 0) (q + 1)
def dc_u (w : Int → Int) (p : Int) : Int → Int := fun i => if i = p then 1 else w i
/-- does a search end, inside the eight points? -/
def dc_pb (w : Int → Int) : Nat → Int → Bool
  | 0, _ => false
  | d + 1, p => decide (p < 8) && (decide (w p = 0) || dc_pb w d (p + 1))
def dc_qb (w : Int → Int) : Nat → Int → Int → Bool
  | 0, _, _ => false
  | d + 1, ch, q => decide (q < 8) && (decide (w q = 0 ∧ ch ≤ 0) || dc_qb w d (ch - if w q = 0 then 1 else 0) (q + 1))
/-- decode goes well, and finds the pairs of prt -/
def dc_b (n b : Int) : Nat → Int → Int → Int → (Int → Int) → Bool
  | 0, _, _, _, _ => false
  | d + 1, many, left, ways, w => if many ≤ 0 then (List.range (2 * n).toNat).all (fun i => decide (w (i : Int) = 1)) else
    decide (1 ≤ ways / (many - 1)) && dc_pb w 9 0 && dc_qb (dc_u w (dc_p w 9 0)) 9 (left / (ways / (many - 1))) (dc_p w 9 0 + 1) &&
    decide (dc_p w 9 0 < 2 * n) && decide (dc_q (dc_u w (dc_p w 9 0)) 9 (left / (ways / (many - 1))) (dc_p w 9 0 + 1) < 2 * n) &&
    decide (prt n b (dc_p w 9 0) = dc_q (dc_u w (dc_p w 9 0)) 9 (left / (ways / (many - 1))) (dc_p w 9 0 + 1)) &&
    decide (prt n b (dc_q (dc_u w (dc_p w 9 0)) 9 (left / (ways / (many - 1))) (dc_p w 9 0 + 1)) = dc_p w 9 0) &&
    dc_b n b d (many - 2) (left % (ways / (many - 1))) (ways / (many - 1)) (dc_u (dc_u w (dc_p w 9 0)) (dc_q (dc_u w (dc_p w 9 0)) 9 (left / (ways / (many - 1))) (dc_p w 9 0 + 1)))
theorem dc_1 : ∀ b : Nat, b < 1 → dc_b 1 b 5 2 b 1 (fun _ => 0) = true := by decide +kernel
theorem dc_2 : ∀ b : Nat, b < 3 → dc_b 2 b 5 4 b 3 (fun _ => 0) = true := by decide +kernel
theorem dc_3 : ∀ b : Nat, b < 15 → dc_b 3 b 5 6 b 15 (fun _ => 0) = true := by decide +kernel
theorem dc_4 : ∀ b : Nat, b < 105 → dc_b 4 b 5 8 b 105 (fun _ => 0) = true := by decide +kernel
theorem dc_n {n b : Int} (h1 : 1 ≤ n) (h4 : n ≤ 4) (h0 : 0 ≤ b) (hb : b < bx_K n) : dc_b n b 5 (2 * n) b (bx_K n) (fun _ => 0) = true := by
  have h : n = 1 ∨ n = 2 ∨ n = 3 ∨ n = 4 := by omega
  have eb : ((b.toNat : Nat) : Int) = b := Int.toNat_of_nonneg h0
  rcases h with h | h | h | h <;> subst h
  · have hk : bx_K 1 = 1 := rfl
    have := dc_1 b.toNat (by omega)
    rw [eb] at this
    exact this
  · have hk : bx_K 2 = 3 := rfl
    have := dc_2 b.toNat (by omega)
    rw [eb] at this
    exact this
  · have hk : bx_K 3 = 15 := rfl
    have := dc_3 b.toNat (by omega)
    rw [eb] at this
    exact this
  · have hk : bx_K 4 = 105 := rfl
    have := dc_4 b.toNat (by omega)
    rw [eb] at this
    exact this
theorem dc_pr {w : Int → Int} : ∀ (d : Nat) (p : Int), dc_pb w d p = true → p ≤ dc_p w d p ∧ dc_p w d p < 8 ∧ w (dc_p w d p) = 0
  | 0, p, h => by cases h
  | d + 1, p, h => by
    rw [dc_pb, Bool.and_eq_true, Bool.or_eq_true] at h
    obtain ⟨h1, h2⟩ := h
    have h1 := of_decide_eq_true h1
    rw [dc_p]
    by_cases e : w p = 0
    · rw [if_pos e]
      exact ⟨Int.le_refl p, h1, e⟩
    · rw [if_neg e]
      rcases h2 with h2 | h2
      · exact absurd (of_decide_eq_true h2) e
      · have := dc_pr d (p + 1) h2
        exact ⟨by omega, this.2.1, this.2.2⟩
theorem dc_qr {w : Int → Int} : ∀ (d : Nat) (ch q : Int), dc_qb w d ch q = true → q ≤ dc_q w d ch q ∧ dc_q w d ch q < 8
  | 0, ch, q, h => by cases h
  | d + 1, ch, q, h => by
    rw [dc_qb, Bool.and_eq_true, Bool.or_eq_true] at h
    obtain ⟨h1, h2⟩ := h
    have h1 := of_decide_eq_true h1
    rw [dc_q]
    by_cases e : w q = 0 ∧ ch ≤ 0
    · rw [if_pos e]
      exact ⟨Int.le_refl q, h1⟩
    · rw [if_neg e]
      rcases h2 with h2 | h2
      · exact absurd (of_decide_eq_true h2) e
      · have := dc_qr d _ (q + 1) h2
        exact ⟨by omega, this.2⟩

theorem qm_dec_p {m s : Nat} {F : aq_F} {c0 : aq_C} {y : Nat} (hO : mo_0 m F y) (hG1 : F (y + 1) = (0, 992, fun _ => .inl 0)) {n b : Int} (hn1 : 1 ≤ n) (hn4 : n ≤ 4) (hb0 : 0 ≤ b) (hb1 : b < bx_K n) {w : Int → Int} {lf wy mn T : Int} {c : aq_C} : ∀ (d : Nat) (ch : Int) (p : Int) (v8 : am_V) (hw : ∀ i, 0 ≤ i → i < 8 → c (y + 11) i = w i) (h0 : 0 ≤ p) (hb : dc_pb w d p = true) (ht : dc_p w d p = T) (K0 : ∀ (p2 : Int) (ht : p2 = T), am_E ac_X5_decode (78, [vR y, vI n, vI b, vI lf, vI wy, vI mn, vI ch, vI p2, v8], [], aq_h m s F c) (aq_Z m s F (fun a => a = y + 1 ∨ a = y + 11) c0 (fun r d => r = none ∧ (∀ i, 0 ≤ i → i < 2 * n → d (y + 1) (8 * (mo_f n + b) + i) = prt n b i) ∧ ∀ j, (j < 8 * (mo_f n + b) ∨ 8 * (mo_f n + b) + 8 ≤ j) → d (y + 1) j = c0 (y + 1) j))), am_E ac_X5_decode (62, [vR y, vI n, vI b, vI lf, vI wy, vI mn, vI ch, vI p, v8], [], aq_h m s F c) (aq_Z m s F (fun a => a = y + 1 ∨ a = y + 11) c0 (fun r d => r = none ∧ (∀ i, 0 ≤ i → i < 2 * n → d (y + 1) (8 * (mo_f n + b) + i) = prt n b i) ∧ ∀ j, (j < 8 * (mo_f n + b) ∨ 8 * (mo_f n + b) + 8 ≤ j) → d (y + 1) j = c0 (y + 1) j))
  | 0, ch, p, v8, hw, h0, hb, ht, K0 => by cases hb
  | d + 1, ch, p, v8, hw, h0, hb, ht, K0 => by
    obtain ⟨hm, hFo, hG5, hG6, hG7, hG8, hG9, hG10, hG11, hG12, hG13, hG14, hG15, hG16, hG17, hG18, hG19, hG20, hG21, hG22, hG23⟩ := hO
    have hfs := mo_fs n
    rw [dc_pb, Bool.and_eq_true, Bool.or_eq_true] at hb
    obtain ⟨hb2, hb3⟩ := hb
    have hb2 := of_decide_eq_true hb2
    refine am_E.go (t2 := (63, [vR y, vI n, vI b, vI lf, vI wy, vI mn, vI ch, vI p, v8], [vR y], aq_h m s F c)) rfl rfl ?_
    refine aq_gf (v := vR (y + 11)) rfl (by omega) hFo (by decide) rfl ?_
    show am_E _ (66, [vR y, vI n, vI b, vI lf, vI wy, vI mn, vI ch, vI p, v8], [vR (y + 11)], aq_h m s F c) _
    refine am_E.go (t2 := (68, [vR y, vI n, vI b, vI lf, vI wy, vI mn, vI ch, vI p, v8], [vI p, vR (y + 11)], aq_h m s F c)) rfl rfl ?_
    refine aq_al (ok := fun k => k == 1) (v := vI (c (y + 11) p)) rfl rfl (by omega) hG11 rfl (by omega) (by omega) rfl ?_
    show am_E _ (69, [vR y, vI n, vI b, vI lf, vI wy, vI mn, vI ch, vI p, v8], [vI (c (y + 11) p)], aq_h m s F c) _
    refine ae_if0 rfl (fun (q_1 : (c (y + 11) p) = 0) => ?_) (fun (q_1 : (c (y + 11) p) ≠ 0) => ?_)
    · exact K0 p (by rw [← ht, dc_p, if_pos (by rw [← hw p (by omega) (by omega)]; assumption)])
    · refine ae_iinc rfl rfl (am_ri (by omega) (by omega)) ?_
      show am_E _ (75, [vR y, vI n, vI b, vI lf, vI wy, vI mn, vI ch, vI (p + 1), v8], [], aq_h m s F c) _
      refine am_E.go (t2 := (62, [vR y, vI n, vI b, vI lf, vI wy, vI mn, vI ch, vI (p + 1), v8], [], aq_h m s F c)) rfl rfl ?_
      exact qm_dec_p ⟨hm, hFo, hG5, hG6, hG7, hG8, hG9, hG10, hG11, hG12, hG13, hG14, hG15, hG16, hG17, hG18, hG19, hG20, hG21, hG22, hG23⟩ hG1 hn1 hn4 hb0 hb1 d ch (p + 1) (v8) hw (by omega) (hb3.resolve_left (fun h => absurd (of_decide_eq_true h) (by rw [← hw p (by omega) (by omega)]; assumption))) (by rw [← ht, dc_p, if_neg (by rw [← hw p (by omega) (by omega)]; assumption)]) K0

theorem qm_dec_q {m s : Nat} {F : aq_F} {c0 : aq_C} {y : Nat} (hO : mo_0 m F y) (hG1 : F (y + 1) = (0, 992, fun _ => .inl 0)) {n b : Int} (hn1 : 1 ≤ n) (hn4 : n ≤ 4) (hb0 : 0 ≤ b) (hb1 : b < bx_K n) {w : Int → Int} {lf wy mn T : Int} {c : aq_C} : ∀ (d : Nat) (ch : Int) (p : Int) (q : Int) (hw : ∀ i, 0 ≤ i → i < 8 → c (y + 11) i = w i) (h0 : 0 ≤ q) (h1 : ch ≤ 200) (h2 : 0 ≤ ch + q) (hb : dc_qb w d ch q = true) (ht : dc_q w d ch q = T) (K0 : ∀ (ch2 : Int) (q2 : Int) (ht : q2 = T), am_E ac_X5_decode (133, [vR y, vI n, vI b, vI lf, vI wy, vI mn, vI ch2, vI p, vI q2], [], aq_h m s F c) (aq_Z m s F (fun a => a = y + 1 ∨ a = y + 11) c0 (fun r d => r = none ∧ (∀ i, 0 ≤ i → i < 2 * n → d (y + 1) (8 * (mo_f n + b) + i) = prt n b i) ∧ ∀ j, (j < 8 * (mo_f n + b) ∨ 8 * (mo_f n + b) + 8 ≤ j) → d (y + 1) j = c0 (y + 1) j))), am_E ac_X5_decode (92, [vR y, vI n, vI b, vI lf, vI wy, vI mn, vI ch, vI p, vI q], [], aq_h m s F c) (aq_Z m s F (fun a => a = y + 1 ∨ a = y + 11) c0 (fun r d => r = none ∧ (∀ i, 0 ≤ i → i < 2 * n → d (y + 1) (8 * (mo_f n + b) + i) = prt n b i) ∧ ∀ j, (j < 8 * (mo_f n + b) ∨ 8 * (mo_f n + b) + 8 ≤ j) → d (y + 1) j = c0 (y + 1) j))
  | 0, ch, p, q, hw, h0, h1, h2, hb, ht, K0 => by cases hb
  | d + 1, ch, p, q, hw, h0, h1, h2, hb, ht, K0 => by
    obtain ⟨hm, hFo, hG5, hG6, hG7, hG8, hG9, hG10, hG11, hG12, hG13, hG14, hG15, hG16, hG17, hG18, hG19, hG20, hG21, hG22, hG23⟩ := hO
    have hfs := mo_fs n
    rw [dc_qb, Bool.and_eq_true, Bool.or_eq_true] at hb
    obtain ⟨hb2, hb3⟩ := hb
    have hb2 := of_decide_eq_true hb2
    have hwq := hw q h0 (by omega)
    refine am_E.go (t2 := (93, [vR y, vI n, vI b, vI lf, vI wy, vI mn, vI ch, vI p, vI q], [vR y], aq_h m s F c)) rfl rfl ?_
    refine aq_gf (v := vR (y + 11)) rfl (by omega) hFo (by decide) rfl ?_
    show am_E _ (96, [vR y, vI n, vI b, vI lf, vI wy, vI mn, vI ch, vI p, vI q], [vR (y + 11)], aq_h m s F c) _
    refine am_E.go (t2 := (98, [vR y, vI n, vI b, vI lf, vI wy, vI mn, vI ch, vI p, vI q], [vI q, vR (y + 11)], aq_h m s F c)) rfl rfl ?_
    refine aq_al (ok := fun k => k == 1) (v := vI (c (y + 11) q)) rfl rfl (by omega) hG11 rfl (by omega) (by omega) rfl ?_
    show am_E _ (99, [vR y, vI n, vI b, vI lf, vI wy, vI mn, vI ch, vI p, vI q], [vI (c (y + 11) q)], aq_h m s F c) _
    refine ae_if0 rfl (fun (q_1 : (c (y + 11) q) ≠ 0) => ?_) (fun (q_1 : (c (y + 11) q) = 0) => ?_)
    · refine am_E.go (t2 := (109, [vR y, vI n, vI b, vI lf, vI wy, vI mn, vI ch, vI p, vI q], [vI ch], aq_h m s F c)) rfl rfl ?_
      refine am_E.go (t2 := (110, [vR y, vI n, vI b, vI lf, vI wy, vI mn, vI ch, vI p, vI q], [vR y, vI ch], aq_h m s F c)) rfl rfl ?_
      refine aq_gf (v := vR (y + 11)) rfl (by omega) hFo (by decide) rfl ?_
      show am_E _ (113, [vR y, vI n, vI b, vI lf, vI wy, vI mn, vI ch, vI p, vI q], [vR (y + 11), vI ch], aq_h m s F c) _
      refine am_E.go (t2 := (115, [vR y, vI n, vI b, vI lf, vI wy, vI mn, vI ch, vI p, vI q], [vI q, vR (y + 11), vI ch], aq_h m s F c)) rfl rfl ?_
      refine aq_al (ok := fun k => k == 1) (v := vI (c (y + 11) q)) rfl rfl (by omega) hG11 rfl (by omega) (by omega) rfl ?_
      show am_E _ (116, [vR y, vI n, vI b, vI lf, vI wy, vI mn, vI ch, vI p, vI q], [vI (c (y + 11) q), vI ch], aq_h m s F c) _
      refine ae_if0 rfl (fun (q_2 : (c (y + 11) q) = 0) => ?_) (fun (q_2 : (c (y + 11) q) ≠ 0) => ?_)
      · refine am_E.go (t2 := (124, [vR y, vI n, vI b, vI lf, vI wy, vI mn, vI ch, vI p, vI q], [vI 1, vI ch], aq_h m s F c)) rfl rfl ?_
        refine ae_sub rfl (am_ri (by omega) (by omega)) ?_
        show am_E _ (125, [vR y, vI n, vI b, vI lf, vI wy, vI mn, vI ch, vI p, vI q], [vI (ch - 1)], aq_h m s F c) _
        refine am_E.go (t2 := (127, [vR y, vI n, vI b, vI lf, vI wy, vI mn, vI (ch - 1), vI p, vI q], [], aq_h m s F c)) rfl rfl ?_
        refine ae_iinc rfl rfl (am_ri (by omega) (by omega)) ?_
        show am_E _ (130, [vR y, vI n, vI b, vI lf, vI wy, vI mn, vI (ch - 1), vI p, vI (q + 1)], [], aq_h m s F c) _
        refine am_E.go (t2 := (92, [vR y, vI n, vI b, vI lf, vI wy, vI mn, vI (ch - 1), vI p, vI (q + 1)], [], aq_h m s F c)) rfl rfl ?_
        exact qm_dec_q ⟨hm, hFo, hG5, hG6, hG7, hG8, hG9, hG10, hG11, hG12, hG13, hG14, hG15, hG16, hG17, hG18, hG19, hG20, hG21, hG22, hG23⟩ hG1 hn1 hn4 hb0 hb1 d (ch - 1) p (q + 1) hw (by omega) (by omega) (by omega) (by have h9 := hb3.resolve_left (fun h => absurd (of_decide_eq_true h) (by omega)); first | (exfalso; omega) | (rw [if_pos (by omega)] at h9; exact h9) | (rw [if_neg (by omega)] at h9; exact h9)) (by first | (exfalso; omega) | (rw [← ht, dc_q, if_neg (by omega), if_pos (by omega)]) | (rw [← ht, dc_q, if_neg (by omega), if_neg (by omega)])) K0
      · refine am_E.go (t2 := (120, [vR y, vI n, vI b, vI lf, vI wy, vI mn, vI ch, vI p, vI q], [vI 0, vI ch], aq_h m s F c)) rfl rfl ?_
        refine am_E.go (t2 := (124, [vR y, vI n, vI b, vI lf, vI wy, vI mn, vI ch, vI p, vI q], [vI 0, vI ch], aq_h m s F c)) rfl rfl ?_
        refine ae_sub rfl (am_ri (by omega) (by omega)) ?_
        show am_E _ (125, [vR y, vI n, vI b, vI lf, vI wy, vI mn, vI ch, vI p, vI q], [vI (ch - 0)], aq_h m s F c) _
        refine am_E.go (t2 := (127, [vR y, vI n, vI b, vI lf, vI wy, vI mn, vI (ch - 0), vI p, vI q], [], aq_h m s F c)) rfl rfl ?_
        refine ae_iinc rfl rfl (am_ri (by omega) (by omega)) ?_
        show am_E _ (130, [vR y, vI n, vI b, vI lf, vI wy, vI mn, vI (ch - 0), vI p, vI (q + 1)], [], aq_h m s F c) _
        refine am_E.go (t2 := (92, [vR y, vI n, vI b, vI lf, vI wy, vI mn, vI (ch - 0), vI p, vI (q + 1)], [], aq_h m s F c)) rfl rfl ?_
        exact qm_dec_q ⟨hm, hFo, hG5, hG6, hG7, hG8, hG9, hG10, hG11, hG12, hG13, hG14, hG15, hG16, hG17, hG18, hG19, hG20, hG21, hG22, hG23⟩ hG1 hn1 hn4 hb0 hb1 d (ch - 0) p (q + 1) hw (by omega) (by omega) (by omega) (by have h9 := hb3.resolve_left (fun h => absurd (of_decide_eq_true h) (by omega)); first | (exfalso; omega) | (rw [if_pos (by omega)] at h9; exact h9) | (rw [if_neg (by omega)] at h9; exact h9)) (by first | (exfalso; omega) | (rw [← ht, dc_q, if_neg (by omega), if_pos (by omega)]) | (rw [← ht, dc_q, if_neg (by omega), if_neg (by omega)])) K0
    · refine am_E.go (t2 := (104, [vR y, vI n, vI b, vI lf, vI wy, vI mn, vI ch, vI p, vI q], [vI ch], aq_h m s F c)) rfl rfl ?_
      refine ae_if0 rfl (fun (q_3 : ch ≤ 0) => ?_) (fun (q_3 : 0 < ch) => ?_)
      · exact K0 ch q (by rw [← ht, dc_q, if_pos (by omega)])
      · refine am_E.go (t2 := (109, [vR y, vI n, vI b, vI lf, vI wy, vI mn, vI ch, vI p, vI q], [vI ch], aq_h m s F c)) rfl rfl ?_
        refine am_E.go (t2 := (110, [vR y, vI n, vI b, vI lf, vI wy, vI mn, vI ch, vI p, vI q], [vR y, vI ch], aq_h m s F c)) rfl rfl ?_
        refine aq_gf (v := vR (y + 11)) rfl (by omega) hFo (by decide) rfl ?_
        show am_E _ (113, [vR y, vI n, vI b, vI lf, vI wy, vI mn, vI ch, vI p, vI q], [vR (y + 11), vI ch], aq_h m s F c) _
        refine am_E.go (t2 := (115, [vR y, vI n, vI b, vI lf, vI wy, vI mn, vI ch, vI p, vI q], [vI q, vR (y + 11), vI ch], aq_h m s F c)) rfl rfl ?_
        refine aq_al (ok := fun k => k == 1) (v := vI (c (y + 11) q)) rfl rfl (by omega) hG11 rfl (by omega) (by omega) rfl ?_
        show am_E _ (116, [vR y, vI n, vI b, vI lf, vI wy, vI mn, vI ch, vI p, vI q], [vI (c (y + 11) q), vI ch], aq_h m s F c) _
        refine ae_if0 rfl (fun (q_4 : (c (y + 11) q) = 0) => ?_) (fun (q_4 : (c (y + 11) q) ≠ 0) => ?_)
        · refine am_E.go (t2 := (124, [vR y, vI n, vI b, vI lf, vI wy, vI mn, vI ch, vI p, vI q], [vI 1, vI ch], aq_h m s F c)) rfl rfl ?_
          refine ae_sub rfl (am_ri (by omega) (by omega)) ?_
          show am_E _ (125, [vR y, vI n, vI b, vI lf, vI wy, vI mn, vI ch, vI p, vI q], [vI (ch - 1)], aq_h m s F c) _
          refine am_E.go (t2 := (127, [vR y, vI n, vI b, vI lf, vI wy, vI mn, vI (ch - 1), vI p, vI q], [], aq_h m s F c)) rfl rfl ?_
          refine ae_iinc rfl rfl (am_ri (by omega) (by omega)) ?_
          show am_E _ (130, [vR y, vI n, vI b, vI lf, vI wy, vI mn, vI (ch - 1), vI p, vI (q + 1)], [], aq_h m s F c) _
          refine am_E.go (t2 := (92, [vR y, vI n, vI b, vI lf, vI wy, vI mn, vI (ch - 1), vI p, vI (q + 1)], [], aq_h m s F c)) rfl rfl ?_
          exact qm_dec_q ⟨hm, hFo, hG5, hG6, hG7, hG8, hG9, hG10, hG11, hG12, hG13, hG14, hG15, hG16, hG17, hG18, hG19, hG20, hG21, hG22, hG23⟩ hG1 hn1 hn4 hb0 hb1 d (ch - 1) p (q + 1) hw (by omega) (by omega) (by omega) (by have h9 := hb3.resolve_left (fun h => absurd (of_decide_eq_true h) (by omega)); first | (exfalso; omega) | (rw [if_pos (by omega)] at h9; exact h9) | (rw [if_neg (by omega)] at h9; exact h9)) (by first | (exfalso; omega) | (rw [← ht, dc_q, if_neg (by omega), if_pos (by omega)]) | (rw [← ht, dc_q, if_neg (by omega), if_neg (by omega)])) K0
        · refine am_E.go (t2 := (120, [vR y, vI n, vI b, vI lf, vI wy, vI mn, vI ch, vI p, vI q], [vI 0, vI ch], aq_h m s F c)) rfl rfl ?_
          refine am_E.go (t2 := (124, [vR y, vI n, vI b, vI lf, vI wy, vI mn, vI ch, vI p, vI q], [vI 0, vI ch], aq_h m s F c)) rfl rfl ?_
          refine ae_sub rfl (am_ri (by omega) (by omega)) ?_
          show am_E _ (125, [vR y, vI n, vI b, vI lf, vI wy, vI mn, vI ch, vI p, vI q], [vI (ch - 0)], aq_h m s F c) _
          refine am_E.go (t2 := (127, [vR y, vI n, vI b, vI lf, vI wy, vI mn, vI (ch - 0), vI p, vI q], [], aq_h m s F c)) rfl rfl ?_
          refine ae_iinc rfl rfl (am_ri (by omega) (by omega)) ?_
          show am_E _ (130, [vR y, vI n, vI b, vI lf, vI wy, vI mn, vI (ch - 0), vI p, vI (q + 1)], [], aq_h m s F c) _
          refine am_E.go (t2 := (92, [vR y, vI n, vI b, vI lf, vI wy, vI mn, vI (ch - 0), vI p, vI (q + 1)], [], aq_h m s F c)) rfl rfl ?_
          exact qm_dec_q ⟨hm, hFo, hG5, hG6, hG7, hG8, hG9, hG10, hG11, hG12, hG13, hG14, hG15, hG16, hG17, hG18, hG19, hG20, hG21, hG22, hG23⟩ hG1 hn1 hn4 hb0 hb1 d (ch - 0) p (q + 1) hw (by omega) (by omega) (by omega) (by have h9 := hb3.resolve_left (fun h => absurd (of_decide_eq_true h) (by omega)); first | (exfalso; omega) | (rw [if_pos (by omega)] at h9; exact h9) | (rw [if_neg (by omega)] at h9; exact h9)) (by first | (exfalso; omega) | (rw [← ht, dc_q, if_neg (by omega), if_pos (by omega)]) | (rw [← ht, dc_q, if_neg (by omega), if_neg (by omega)])) K0

theorem dc_ac {y : Nat} {w : Int → Int} {p : Int} {c d : aq_C} (hw : ∀ i, 0 ≤ i → i < 8 → c (y + 11) i = w i) (he : aq_u c (y + 11) p 1 = d) : ∀ i, 0 ≤ i → i < 8 → d (y + 11) i = dc_u w p i := fun i h0 h1 => by
  rw [← he]
  unfold aq_u dc_u
  by_cases e : i = p
  · rw [if_pos ⟨rfl, e⟩, if_pos e]
  · rw [if_neg (fun h => e h.2), if_neg e]
    exact hw i h0 h1

theorem qm_dec_o {m s : Nat} {F : aq_F} {c0 : aq_C} {y : Nat} (hO : mo_0 m F y) (hG1 : F (y + 1) = (0, 992, fun _ => .inl 0)) {n b : Int} (hn1 : 1 ≤ n) (hn4 : n ≤ 4) (hb0 : 0 ≤ b) (hb1 : b < bx_K n) : ∀ (d : Nat) (w : Int → Int) (lf : Int) (wy : Int) (mn : Int) (v6 : am_V) (v7 : am_V) (v8 : am_V) (c : aq_C) (hs : aq_sm (fun a => a = y + 1 ∨ a = y + 11) c0 c) (h0 : 0 ≤ lf) (h1 : lf ≤ 200) (h2 : 1 ≤ wy) (h3 : wy ≤ 105) (h4 : mn ≤ 8) (h5 : mn % 2 = 0) (h6 : -1 ≤ mn) (hw : ∀ i, 0 ≤ i → i < 8 → c (y + 11) i = w i) (htb : ∀ i, 0 ≤ i → i < 2 * n → w i = 1 → c (y + 1) (8 * (mo_f n + b) + i) = prt n b i) (hot : ∀ j, (j < 8 * (mo_f n + b) ∨ 8 * (mo_f n + b) + 8 ≤ j) → c (y + 1) j = c0 (y + 1) j) (hb : dc_b n b d mn lf wy w = true), am_E ac_X5_decode (34, [vR y, vI n, vI b, vI lf, vI wy, vI mn, v6, v7, v8], [], aq_h m s F c) (aq_Z m s F (fun a => a = y + 1 ∨ a = y + 11) c0 (fun r d => r = none ∧ (∀ i, 0 ≤ i → i < 2 * n → d (y + 1) (8 * (mo_f n + b) + i) = prt n b i) ∧ ∀ j, (j < 8 * (mo_f n + b) ∨ 8 * (mo_f n + b) + 8 ≤ j) → d (y + 1) j = c0 (y + 1) j))
  | 0, w, lf, wy, mn, v6, v7, v8, c, hs, h0, h1, h2, h3, h4, h5, h6, hw, htb, hot, hb => by cases hb
  | d + 1, w, lf, wy, mn, v6, v7, v8, c, hs, h0, h1, h2, h3, h4, h5, h6, hw, htb, hot, hb => by
    obtain ⟨hm, hFo, hG5, hG6, hG7, hG8, hG9, hG10, hG11, hG12, hG13, hG14, hG15, hG16, hG17, hG18, hG19, hG20, hG21, hG22, hG23⟩ := hO
    have hfs := mo_fs n
    rw [dc_b] at hb
    refine am_E.go (t2 := (36, [vR y, vI n, vI b, vI lf, vI wy, vI mn, v6, v7, v8], [vI mn], aq_h m s F c)) rfl rfl ?_
    refine ae_if0 rfl (fun (q_1 : mn ≤ 0) => ?_) (fun (q_1 : 0 < mn) => ?_)
    · refine am_E.ret rfl rfl ?_
      rw [if_pos (show mn ≤ 0 by omega)] at hb
      rw [List.all_eq_true] at hb
      exact ⟨_, rfl, hs, rfl, fun i h8 h9 => htb i h8 h9 (by have h10 := of_decide_eq_true (hb i.toNat (List.mem_range.mpr (by omega))); rw [Int.toNat_of_nonneg h8] at h10; exact h10), hot⟩
    · rw [if_neg (show ¬ mn ≤ 0 by omega)] at hb
      simp only [Bool.and_eq_true, decide_eq_true_eq] at hb
      obtain ⟨⟨⟨⟨⟨⟨⟨b1, b2⟩, b3⟩, b4⟩, b5⟩, b6⟩, b7⟩, b8⟩ := hb
      have pr := dc_pr 9 0 b2
      refine am_E.go (t2 := (41, [vR y, vI n, vI b, vI lf, vI wy, vI mn, v6, v7, v8], [vI wy], aq_h m s F c)) rfl rfl ?_
      refine am_E.go (t2 := (43, [vR y, vI n, vI b, vI lf, vI wy, vI mn, v6, v7, v8], [vI mn, vI wy], aq_h m s F c)) rfl rfl ?_
      refine am_E.go (t2 := (44, [vR y, vI n, vI b, vI lf, vI wy, vI mn, v6, v7, v8], [vI 1, vI mn, vI wy], aq_h m s F c)) rfl rfl ?_
      refine ae_sub rfl (am_ri (by omega) (by omega)) ?_
      show am_E _ (45, [vR y, vI n, vI b, vI lf, vI wy, vI mn, v6, v7, v8], [vI (mn - 1), vI wy], aq_h m s F c) _
      have u1 := Int.ediv_le_self (mn - 1) (show 0 ≤ wy by omega)
      refine ae_bin (z := wy / (mn - 1)) rfl rfl (am_div_e (by omega) (by omega) (by omega)) ?_
      generalize wy / (mn - 1) = wy2 at u1 b1 b3 b5 b6 b7 b8 ⊢
      refine am_E.go (t2 := (48, [vR y, vI n, vI b, vI lf, vI wy2, vI mn, v6, v7, v8], [], aq_h m s F c)) rfl rfl ?_
      refine am_E.go (t2 := (49, [vR y, vI n, vI b, vI lf, vI wy2, vI mn, v6, v7, v8], [vI lf], aq_h m s F c)) rfl rfl ?_
      refine am_E.go (t2 := (51, [vR y, vI n, vI b, vI lf, vI wy2, vI mn, v6, v7, v8], [vI wy2, vI lf], aq_h m s F c)) rfl rfl ?_
      have u2 := Int.ediv_le_self wy2 (show 0 ≤ lf by omega)
      have u3 := Int.ediv_nonneg (show 0 ≤ lf by omega) (show 0 ≤ wy2 by omega)
      refine ae_bin (z := lf / wy2) rfl rfl (am_div_e (by omega) (by omega) (by omega)) ?_
      generalize lf / wy2 = ch0 at u2 u3 b3 b5 b6 b7 b8 ⊢
      refine am_E.go (t2 := (54, [vR y, vI n, vI b, vI lf, vI wy2, vI mn, vI ch0, v7, v8], [], aq_h m s F c)) rfl rfl ?_
      refine am_E.go (t2 := (55, [vR y, vI n, vI b, vI lf, vI wy2, vI mn, vI ch0, v7, v8], [vI lf], aq_h m s F c)) rfl rfl ?_
      refine am_E.go (t2 := (57, [vR y, vI n, vI b, vI lf, vI wy2, vI mn, vI ch0, v7, v8], [vI wy2, vI lf], aq_h m s F c)) rfl rfl ?_
      have u4 := Int.emod_nonneg lf (show wy2 ≠ 0 by omega)
      have u5 := Int.emod_lt_of_pos lf (show 0 < wy2 by omega)
      refine ae_bin (z := lf % wy2) rfl rfl (am_rem_e (by omega) (by omega)) ?_
      generalize lf % wy2 = lf2 at u4 u5 b8 ⊢
      refine am_E.go (t2 := (59, [vR y, vI n, vI b, vI lf2, vI wy2, vI mn, vI ch0, v7, v8], [], aq_h m s F c)) rfl rfl ?_
      refine am_E.go (t2 := (60, [vR y, vI n, vI b, vI lf2, vI wy2, vI mn, vI ch0, v7, v8], [vI 0], aq_h m s F c)) rfl rfl ?_
      refine am_E.go (t2 := (62, [vR y, vI n, vI b, vI lf2, vI wy2, vI mn, vI ch0, vI 0, v8], [], aq_h m s F c)) rfl rfl ?_
      refine qm_dec_p ⟨hm, hFo, hG5, hG6, hG7, hG8, hG9, hG10, hG11, hG12, hG13, hG14, hG15, hG16, hG17, hG18, hG19, hG20, hG21, hG22, hG23⟩ hG1 hn1 hn4 hb0 hb1 (w := w) 9 ch0 0 (v8) hw (by omega) b2 rfl ?_
      · intro p2_62 ht_62
        rw [← ht_62] at b3 b4 b5 b6 b7 b8 pr
        refine am_E.go (t2 := (79, [vR y, vI n, vI b, vI lf2, vI wy2, vI mn, vI ch0, vI p2_62, (v8)], [vR y], aq_h m s F c)) rfl rfl ?_
        refine aq_gf (v := vR (y + 11)) rfl (by omega) hFo (by decide) rfl ?_
        show am_E _ (82, [vR y, vI n, vI b, vI lf2, vI wy2, vI mn, vI ch0, vI p2_62, (v8)], [vR (y + 11)], aq_h m s F c) _
        refine am_E.go (t2 := (84, [vR y, vI n, vI b, vI lf2, vI wy2, vI mn, vI ch0, vI p2_62, (v8)], [vI p2_62, vR (y + 11)], aq_h m s F c)) rfl rfl ?_
        refine am_E.go (t2 := (85, [vR y, vI n, vI b, vI lf2, vI wy2, vI mn, vI ch0, vI p2_62, (v8)], [vI 1, vI p2_62, vR (y + 11)], aq_h m s F c)) rfl rfl ?_
        refine aq_as (kd := 1) rfl rfl (by omega) hG11 (by omega) (by omega) rfl rfl ?_
        show am_E _ (86, [vR y, vI n, vI b, vI lf2, vI wy2, vI mn, vI ch0, vI p2_62, (v8)], [], aq_h m s F (aq_u c (y + 11) p2_62 1)) _
        generalize hdc_3 : aq_u c (y + 11) p2_62 1 = c_3
        have sc_3 := aq_smu hs hdc_3 (Or.inr rfl)
        refine am_E.go (t2 := (88, [vR y, vI n, vI b, vI lf2, vI wy2, vI mn, vI ch0, vI p2_62, (v8)], [vI p2_62], aq_h m s F c_3)) rfl rfl ?_
        refine am_E.go (t2 := (89, [vR y, vI n, vI b, vI lf2, vI wy2, vI mn, vI ch0, vI p2_62, (v8)], [vI 1, vI p2_62], aq_h m s F c_3)) rfl rfl ?_
        refine ae_add rfl (am_ri (by omega) (by omega)) ?_
        show am_E _ (90, [vR y, vI n, vI b, vI lf2, vI wy2, vI mn, vI ch0, vI p2_62, (v8)], [vI (p2_62 + 1)], aq_h m s F c_3) _
        refine am_E.go (t2 := (92, [vR y, vI n, vI b, vI lf2, vI wy2, vI mn, vI ch0, vI p2_62, vI (p2_62 + 1)], [], aq_h m s F c_3)) rfl rfl ?_
        refine qm_dec_q ⟨hm, hFo, hG5, hG6, hG7, hG8, hG9, hG10, hG11, hG12, hG13, hG14, hG15, hG16, hG17, hG18, hG19, hG20, hG21, hG22, hG23⟩ hG1 hn1 hn4 hb0 hb1 (w := dc_u w p2_62) 9 ch0 p2_62 (p2_62 + 1) (dc_ac hw hdc_3) (by omega) (by omega) (by omega) b3 rfl ?_
        · intro ch2_92 q2_92 ht_92
          have qr := dc_qr 9 ch0 (p2_62 + 1) b3
          rw [← ht_92] at b5 b6 b7 b8 qr
          refine am_E.go (t2 := (134, [vR y, vI n, vI b, vI lf2, vI wy2, vI mn, vI ch2_92, vI p2_62, vI q2_92], [vR y], aq_h m s F c_3)) rfl rfl ?_
          refine aq_gf (v := vR (y + 11)) rfl (by omega) hFo (by decide) rfl ?_
          show am_E _ (137, [vR y, vI n, vI b, vI lf2, vI wy2, vI mn, vI ch2_92, vI p2_62, vI q2_92], [vR (y + 11)], aq_h m s F c_3) _
          refine am_E.go (t2 := (139, [vR y, vI n, vI b, vI lf2, vI wy2, vI mn, vI ch2_92, vI p2_62, vI q2_92], [vI q2_92, vR (y + 11)], aq_h m s F c_3)) rfl rfl ?_
          refine am_E.go (t2 := (140, [vR y, vI n, vI b, vI lf2, vI wy2, vI mn, vI ch2_92, vI p2_62, vI q2_92], [vI 1, vI q2_92, vR (y + 11)], aq_h m s F c_3)) rfl rfl ?_
          refine aq_as (kd := 1) rfl rfl (by omega) hG11 (by omega) (by omega) rfl rfl ?_
          show am_E _ (141, [vR y, vI n, vI b, vI lf2, vI wy2, vI mn, vI ch2_92, vI p2_62, vI q2_92], [], aq_h m s F (aq_u c_3 (y + 11) q2_92 1)) _
          generalize hdc_5 : aq_u c_3 (y + 11) q2_92 1 = c_5
          have sc_5 := aq_smu sc_3 hdc_5 (Or.inr rfl)
          refine am_E.go (t2 := (142, [vR y, vI n, vI b, vI lf2, vI wy2, vI mn, vI ch2_92, vI p2_62, vI q2_92], [vR y], aq_h m s F c_5)) rfl rfl ?_
          refine aq_gf (v := vR (y + 1)) rfl (by omega) hFo (by decide) rfl ?_
          show am_E _ (145, [vR y, vI n, vI b, vI lf2, vI wy2, vI mn, vI ch2_92, vI p2_62, vI q2_92], [vR (y + 1)], aq_h m s F c_5) _
          refine am_E.go (t2 := (146, [vR y, vI n, vI b, vI lf2, vI wy2, vI mn, vI ch2_92, vI p2_62, vI q2_92], [vI n, vR (y + 1)], aq_h m s F c_5)) rfl rfl ?_
          refine am_E.go (t2 := (147, [vR y, vI n, vI b, vI lf2, vI wy2, vI mn, vI ch2_92, vI p2_62, vI q2_92], [vI b, vI n, vR (y + 1)], aq_h m s F c_5)) rfl rfl ?_
          refine am_E.call rfl rfl rfl (Nat.le_of_ble_eq_true rfl) (qm_at (by omega) (by omega)) ?_
          rintro r5 h5 ⟨rfl, xa, rfl, hxa⟩
          show am_E _ (150, [vR y, vI n, vI b, vI lf2, vI wy2, vI mn, vI ch2_92, vI p2_62, vI q2_92], [vI xa, vR (y + 1)], aq_h m s F c_5) _
          refine am_E.go (t2 := (152, [vR y, vI n, vI b, vI lf2, vI wy2, vI mn, vI ch2_92, vI p2_62, vI q2_92], [vI p2_62, vI xa, vR (y + 1)], aq_h m s F c_5)) rfl rfl ?_
          refine ae_add rfl (am_ri (by omega) (by omega)) ?_
          show am_E _ (153, [vR y, vI n, vI b, vI lf2, vI wy2, vI mn, vI ch2_92, vI p2_62, vI q2_92], [vI (xa + p2_62), vR (y + 1)], aq_h m s F c_5) _
          refine am_E.go (t2 := (155, [vR y, vI n, vI b, vI lf2, vI wy2, vI mn, vI ch2_92, vI p2_62, vI q2_92], [vI q2_92, vI (xa + p2_62), vR (y + 1)], aq_h m s F c_5)) rfl rfl ?_
          refine aq_as (kd := 0) rfl rfl (by omega) hG1 (by omega) (by omega) rfl rfl ?_
          show am_E _ (156, [vR y, vI n, vI b, vI lf2, vI wy2, vI mn, vI ch2_92, vI p2_62, vI q2_92], [], aq_h m s F (aq_u c_5 (y + 1) (xa + p2_62) q2_92)) _
          generalize hdc_6 : aq_u c_5 (y + 1) (xa + p2_62) q2_92 = c_6
          have sc_6 := aq_smu sc_5 hdc_6 (Or.inl rfl)
          refine am_E.go (t2 := (157, [vR y, vI n, vI b, vI lf2, vI wy2, vI mn, vI ch2_92, vI p2_62, vI q2_92], [vR y], aq_h m s F c_6)) rfl rfl ?_
          refine aq_gf (v := vR (y + 1)) rfl (by omega) hFo (by decide) rfl ?_
          show am_E _ (160, [vR y, vI n, vI b, vI lf2, vI wy2, vI mn, vI ch2_92, vI p2_62, vI q2_92], [vR (y + 1)], aq_h m s F c_6) _
          refine am_E.go (t2 := (161, [vR y, vI n, vI b, vI lf2, vI wy2, vI mn, vI ch2_92, vI p2_62, vI q2_92], [vI n, vR (y + 1)], aq_h m s F c_6)) rfl rfl ?_
          refine am_E.go (t2 := (162, [vR y, vI n, vI b, vI lf2, vI wy2, vI mn, vI ch2_92, vI p2_62, vI q2_92], [vI b, vI n, vR (y + 1)], aq_h m s F c_6)) rfl rfl ?_
          refine am_E.call rfl rfl rfl (Nat.le_of_ble_eq_true rfl) (qm_at (by omega) (by omega)) ?_
          rintro r5 h5 ⟨rfl, xb, rfl, hxb⟩
          show am_E _ (165, [vR y, vI n, vI b, vI lf2, vI wy2, vI mn, vI ch2_92, vI p2_62, vI q2_92], [vI xb, vR (y + 1)], aq_h m s F c_6) _
          refine am_E.go (t2 := (167, [vR y, vI n, vI b, vI lf2, vI wy2, vI mn, vI ch2_92, vI p2_62, vI q2_92], [vI q2_92, vI xb, vR (y + 1)], aq_h m s F c_6)) rfl rfl ?_
          refine ae_add rfl (am_ri (by omega) (by omega)) ?_
          show am_E _ (168, [vR y, vI n, vI b, vI lf2, vI wy2, vI mn, vI ch2_92, vI p2_62, vI q2_92], [vI (xb + q2_92), vR (y + 1)], aq_h m s F c_6) _
          refine am_E.go (t2 := (170, [vR y, vI n, vI b, vI lf2, vI wy2, vI mn, vI ch2_92, vI p2_62, vI q2_92], [vI p2_62, vI (xb + q2_92), vR (y + 1)], aq_h m s F c_6)) rfl rfl ?_
          refine aq_as (kd := 0) rfl rfl (by omega) hG1 (by omega) (by omega) rfl rfl ?_
          show am_E _ (171, [vR y, vI n, vI b, vI lf2, vI wy2, vI mn, vI ch2_92, vI p2_62, vI q2_92], [], aq_h m s F (aq_u c_6 (y + 1) (xb + q2_92) p2_62)) _
          generalize hdc_7 : aq_u c_6 (y + 1) (xb + q2_92) p2_62 = c_7
          have sc_7 := aq_smu sc_6 hdc_7 (Or.inl rfl)
          refine ae_iinc rfl rfl (am_ri (by omega) (by omega)) ?_
          show am_E _ (174, [vR y, vI n, vI b, vI lf2, vI wy2, vI (mn + (-2)), vI ch2_92, vI p2_62, vI q2_92], [], aq_h m s F c_7) _
          refine am_E.go (t2 := (34, [vR y, vI n, vI b, vI lf2, vI wy2, vI (mn + (-2)), vI ch2_92, vI p2_62, vI q2_92], [], aq_h m s F c_7)) rfl rfl ?_
          exact qm_dec_o ⟨hm, hFo, hG5, hG6, hG7, hG8, hG9, hG10, hG11, hG12, hG13, hG14, hG15, hG16, hG17, hG18, hG19, hG20, hG21, hG22, hG23⟩ hG1 hn1 hn4 hb0 hb1 d (dc_u (dc_u w p2_62) q2_92) lf2 wy2 (mn + (-2)) (vI ch2_92) (vI p2_62) (vI q2_92) c_7 sc_7 (by omega) (by omega) (by omega) (by omega) (by omega) (by omega) (by omega) (fun i h5 h6 => by rw [← hdc_7, aq_un (Or.inl (by omega)), ← hdc_6, aq_un (Or.inl (by omega))]; exact dc_ac (dc_ac hw hdc_3) hdc_5 i h5 h6) (fun i h5 h6 h7 => by
      rw [← hdc_7]
      by_cases e1 : i = q2_92
      · rw [e1, ← hxb, aq_us, b7]
      · rw [aq_un (Or.inr (by omega)), ← hdc_6]
        by_cases e2 : i = p2_62
        · rw [e2, ← hxa, aq_us, b6]
        · rw [aq_un (Or.inr (by omega)), ← hdc_5, aq_un (Or.inl (by omega)), ← hdc_3, aq_un (Or.inl (by omega))]
          unfold dc_u at h7
          rw [if_neg e1, if_neg e2] at h7
          exact htb i h5 h6 h7) (fun j h5 => by rw [← hdc_7, aq_un (Or.inr (by omega)), ← hdc_6, aq_un (Or.inr (by omega)), ← hdc_5, aq_un (Or.inl (by omega)), ← hdc_3, aq_un (Or.inl (by omega))]; exact hot j h5) b8

theorem qm_dec_z {m s : Nat} {F : aq_F} {c0 : aq_C} {y : Nat} (hO : mo_0 m F y) (hG1 : F (y + 1) = (0, 992, fun _ => .inl 0)) {n b : Int} (hn1 : 1 ≤ n) (hn4 : n ≤ 4) (hb0 : 0 ≤ b) (hb1 : b < bx_K n) : ∀ (d : Nat) (k : Int) (v4 : am_V) (v5 : am_V) (v6 : am_V) (v7 : am_V) (v8 : am_V) (c : aq_C) (hs : aq_sm (fun a => a = y + 1 ∨ a = y + 11) c0 c) (h0 : 0 ≤ k) (h1 : k ≤ 8) (hz : ∀ i, 0 ≤ i → i < k → c (y + 11) i = 0) (hot : ∀ j, c (y + 1) j = c0 (y + 1) j) (hd : 8 - k < (d : Int)), am_E ac_X5_decode (2, [vR y, vI n, vI b, vI k, v4, v5, v6, v7, v8], [], aq_h m s F c) (aq_Z m s F (fun a => a = y + 1 ∨ a = y + 11) c0 (fun r d => r = none ∧ (∀ i, 0 ≤ i → i < 2 * n → d (y + 1) (8 * (mo_f n + b) + i) = prt n b i) ∧ ∀ j, (j < 8 * (mo_f n + b) ∨ 8 * (mo_f n + b) + 8 ≤ j) → d (y + 1) j = c0 (y + 1) j))
  | 0, k, v4, v5, v6, v7, v8, c, hs, h0, h1, hz, hot, hd => by exfalso; omega
  | d + 1, k, v4, v5, v6, v7, v8, c, hs, h0, h1, hz, hot, hd => by
    obtain ⟨hm, hFo, hG5, hG6, hG7, hG8, hG9, hG10, hG11, hG12, hG13, hG14, hG15, hG16, hG17, hG18, hG19, hG20, hG21, hG22, hG23⟩ := hO
    have hfs := mo_fs n
    refine am_E.go (t2 := (3, [vR y, vI n, vI b, vI k, v4, v5, v6, v7, v8], [vI k], aq_h m s F c)) rfl rfl ?_
    refine am_E.go (t2 := (5, [vR y, vI n, vI b, vI k, v4, v5, v6, v7, v8], [vI 8, vI k], aq_h m s F c)) rfl rfl ?_
    refine ae_icmp rfl (fun (q_1 : 8 ≤ k) => ?_) (fun (q_1 : k < 8) => ?_)
    · refine am_E.go (t2 := (22, [vR y, vI n, vI b, vI k, v4, v5, v6, v7, v8], [vI b], aq_h m s F c)) rfl rfl ?_
      refine am_E.go (t2 := (23, [vR y, vI n, vI b, vI b, v4, v5, v6, v7, v8], [], aq_h m s F c)) rfl rfl ?_
      refine am_E.go (t2 := (24, [vR y, vI n, vI b, vI b, v4, v5, v6, v7, v8], [vI n], aq_h m s F c)) rfl rfl ?_
      refine am_E.call rfl rfl rfl (Nat.le_of_ble_eq_true rfl) (qm_boxes) ?_
      rintro r5 h5 ⟨rfl, v_bx, rfl, hv_bx⟩
      show am_E _ (27, [vR y, vI n, vI b, vI b, v4, v5, v6, v7, v8], [vI v_bx], aq_h m s F c) _
      refine am_E.go (t2 := (29, [vR y, vI n, vI b, vI b, vI v_bx, v5, v6, v7, v8], [], aq_h m s F c)) rfl rfl ?_
      refine am_E.go (t2 := (30, [vR y, vI n, vI b, vI b, vI v_bx, v5, v6, v7, v8], [vI 2], aq_h m s F c)) rfl rfl ?_
      refine am_E.go (t2 := (31, [vR y, vI n, vI b, vI b, vI v_bx, v5, v6, v7, v8], [vI n, vI 2], aq_h m s F c)) rfl rfl ?_
      refine ae_mul rfl (am_ri (by omega) (by omega)) ?_
      show am_E _ (32, [vR y, vI n, vI b, vI b, vI v_bx, v5, v6, v7, v8], [vI (2 * n)], aq_h m s F c) _
      refine am_E.go (t2 := (34, [vR y, vI n, vI b, vI b, vI v_bx, vI (2 * n), v6, v7, v8], [], aq_h m s F c)) rfl rfl ?_
      exact qm_dec_o ⟨hm, hFo, hG5, hG6, hG7, hG8, hG9, hG10, hG11, hG12, hG13, hG14, hG15, hG16, hG17, hG18, hG19, hG20, hG21, hG22, hG23⟩ hG1 hn1 hn4 hb0 hb1 5 (fun _ => 0) b v_bx (2 * n) (v6) (v7) (v8) c hs (by omega) (by omega) (by omega) (by omega) (by omega) (by omega) (by omega) (fun i h5 h6 => hz i h5 (by omega)) (fun i _ _ h7 => absurd h7 (by decide)) (fun j _ => hot j) (by have h9 := dc_n hn1 hn4 hb0 hb1; rw [← hv_bx] at h9; exact h9)
    · refine am_E.go (t2 := (9, [vR y, vI n, vI b, vI k, v4, v5, v6, v7, v8], [vR y], aq_h m s F c)) rfl rfl ?_
      refine aq_gf (v := vR (y + 11)) rfl (by omega) hFo (by decide) rfl ?_
      show am_E _ (12, [vR y, vI n, vI b, vI k, v4, v5, v6, v7, v8], [vR (y + 11)], aq_h m s F c) _
      refine am_E.go (t2 := (13, [vR y, vI n, vI b, vI k, v4, v5, v6, v7, v8], [vI k, vR (y + 11)], aq_h m s F c)) rfl rfl ?_
      refine am_E.go (t2 := (14, [vR y, vI n, vI b, vI k, v4, v5, v6, v7, v8], [vI 0, vI k, vR (y + 11)], aq_h m s F c)) rfl rfl ?_
      refine aq_as (kd := 1) rfl rfl (by omega) hG11 (by omega) (by omega) rfl rfl ?_
      show am_E _ (15, [vR y, vI n, vI b, vI k, v4, v5, v6, v7, v8], [], aq_h m s F (aq_u c (y + 11) k 0)) _
      generalize hdc_2 : aq_u c (y + 11) k 0 = c_2
      have sc_2 := aq_smu hs hdc_2 (Or.inr rfl)
      refine ae_iinc rfl rfl (am_ri (by omega) (by omega)) ?_
      show am_E _ (18, [vR y, vI n, vI b, vI (k + 1), v4, v5, v6, v7, v8], [], aq_h m s F c_2) _
      refine am_E.go (t2 := (2, [vR y, vI n, vI b, vI (k + 1), v4, v5, v6, v7, v8], [], aq_h m s F c_2)) rfl rfl ?_
      exact qm_dec_z ⟨hm, hFo, hG5, hG6, hG7, hG8, hG9, hG10, hG11, hG12, hG13, hG14, hG15, hG16, hG17, hG18, hG19, hG20, hG21, hG22, hG23⟩ hG1 hn1 hn4 hb0 hb1 d (k + 1) (v4) (v5) (v6) (v7) (v8) c_2 sc_2 (by omega) (by omega) (aq_fl (g := fun _ => 0) hz hdc_2 rfl) (fun j => by rw [← hdc_2, aq_un (Or.inl (by omega))]; exact hot j) (by omega)

theorem qm_decode {m s : Nat} {F : aq_F} {c : aq_C} {y : Nat} (hO : mo_0 m F y) (hG1 : F (y + 1) = (0, 992, fun _ => .inl 0)) {n b : Int} (hn1 : 1 ≤ n) (hn4 : n ≤ 4) (hb0 : 0 ≤ b) (hb1 : b < bx_K n) : am_E ac_X5_decode (0, [vR y, vI n, vI b, vU, vU, vU, vU, vU, vU], [], aq_h m s F c) (aq_Z m s F (fun a => a = y + 1 ∨ a = y + 11) c (fun r d => r = none ∧ (∀ i, 0 ≤ i → i < 2 * n → d (y + 1) (8 * (mo_f n + b) + i) = prt n b i) ∧ ∀ j, (j < 8 * (mo_f n + b) ∨ 8 * (mo_f n + b) + 8 ≤ j) → d (y + 1) j = c (y + 1) j)) := by
  obtain ⟨hm, hFo, hG5, hG6, hG7, hG8, hG9, hG10, hG11, hG12, hG13, hG14, hG15, hG16, hG17, hG18, hG19, hG20, hG21, hG22, hG23⟩ := hO
  have hfs := mo_fs n
  refine am_E.go (t2 := (1, [vR y, vI n, vI b, vU, vU, vU, vU, vU, vU], [vI 0], aq_h m s F c)) rfl rfl ?_
  refine am_E.go (t2 := (2, [vR y, vI n, vI b, vI 0, vU, vU, vU, vU, vU], [], aq_h m s F c)) rfl rfl ?_
  exact qm_dec_z ⟨hm, hFo, hG5, hG6, hG7, hG8, hG9, hG10, hG11, hG12, hG13, hG14, hG15, hG16, hG17, hG18, hG19, hG20, hG21, hG22, hG23⟩ hG1 hn1 hn4 hb0 hb1 10 0 (vU) (vU) (vU) (vU) (vU) c (aq_sm0 (c := c) (S := (fun a => a = y + 1 ∨ a = y + 11))) (by omega) (by omega) (fun i h1 h2 => absurd h2 (by omega)) (fun _ => rfl) (by omega)
/-! New arrays and references put into fields, in heaps of a shape. -/
theorem aq_mk {m s kd n : Nat} {F : aq_F} {c : aq_C} (hkd : kd ≤ 2) : am_mk (aq_h m s F c) kd n (fun _ => am_dv kd) = aq_h (m + 1) (s + n) (am_up F m (kd, n, fun _ => .inl (if kd = 2 then 2 else 0))) (fun a i => if a = m then 0 else c a i) := by
  unfold am_mk
  show (m + 1, s + n, am_up (aq_h m s F c).2.2 m (kd, n, fun _ => am_dv kd)) = (m + 1, s + n, (aq_h (m + 1) (s + n) (am_up F m (kd, n, fun _ => .inl (if kd = 2 then 2 else 0))) (fun a i => if a = m then 0 else c a i)).2.2)
  refine congrArg (fun f => (m + 1, s + n, f)) ?_
  funext a
  by_cases e : a = m
  · subst e
    rw [am_up_s, aq_hc (am_up_s)]
    refine congrArg (fun f => (kd, n, f)) ?_
    funext i
    rw [if_pos rfl]
    have h : kd = 0 ∨ kd = 1 ∨ kd = 2 := by omega
    rcases h with h | h | h <;> subst h <;> rfl
  · rw [am_up_n e]
    show ((F a).1, (F a).2.1, fun i => aq_w ((F a).2.2 i) (c a (i : Int))) = ((am_up F m _ a).1, (am_up F m _ a).2.1, fun i => aq_w ((am_up F m _ a).2.2 i) (if a = m then 0 else c a (i : Int)))
    rw [am_up_n e]
    simp only [if_neg e]
theorem aq_wp {m s o k n a : Nat} {F : aq_F} {c : aq_C} {kd : Nat} {tg : Nat → aq_T} (hF : F o = (kd, n, tg)) : am_wr (aq_h m s F c) o k (vR a) = aq_h m s (am_up F o (kd, n, am_up tg k (.inr (vR a)))) c := by
  unfold am_wr
  show (m, s, am_up (aq_h m s F c).2.2 o _) = (m, s, (aq_h m s (am_up F o (kd, n, am_up tg k (.inr (vR a)))) c).2.2)
  refine congrArg (fun f => (m, s, f)) ?_
  funext b
  by_cases e : b = o
  · subst e
    rw [am_up_s, aq_hc hF, aq_hc am_up_s]
    refine congrArg (fun f => (kd, n, f)) ?_
    funext i
    by_cases ei : i = k
    · rw [ei, am_up_s, am_up_s]
      rfl
    · rw [am_up_n ei, am_up_n ei]
  · rw [am_up_n e]
    show ((F b).1, (F b).2.1, fun i => aq_w ((F b).2.2 i) (c b (i : Int))) = ((am_up F o _ b).1, (am_up F o _ b).2.1, fun i => aq_w ((am_up F o _ b).2.2 i) (c b (i : Int)))
    rw [am_up_n e]
section AE
variable {C : am_C} {pc : Nat} {ls st : List am_V} {Z : Option am_V → am_H → Prop} {m s : Nat} {F : aq_F} {c : aq_C}
/-- a new array of numbers, put into a field of the object at o -/
theorem aq_step {ty : Jvm.ClassFile.ArrayType} {kd y1 i x fl o n N : Nat} {v : Int} {tg : Nat → aq_T} (hr1 : am_row C pc = some (.newarray ty, 2, kd, y1)) (hr2 : am_row C (pc + 2) = some (.putfield i, 3, x, fl)) (hF : F o = (10 + x, N, tg)) (ho : o < m) (hkd : kd ≤ 2) (hv : v = (n : Int)) (hn : n ≤ 1024) (hft : ac_ft x fl = 3) (hfl : fl < N) (k : ∀ (F2 : aq_F) (c2 : aq_C), F2 o = (10 + x, N, am_up tg fl (.inr (vR m))) → F2 m = (kd, n, fun _ => .inl (if kd = 2 then 2 else 0)) → (∀ a, a ≠ o → a ≠ m → F2 a = F a) → (∀ j, c2 m j = 0) → (∀ a, a ≠ m → ∀ j, c2 a j = c a j) → am_E C (pc + 5, ls, st, aq_h (m + 1) (s + n) F2 c2) Z) : am_E C (pc, ls, vI v :: vR o :: st, aq_h m s F c) Z := by
  refine ae_newa (h := aq_h m s F c) (lo := 0) (top := 2) (n := n) hr1 rfl hv hn ⟨by omega, hkd⟩ ?_
  rw [aq_mk hkd]
  have e1 : am_up F m (kd, n, fun _ => Sum.inl (if kd = 2 then 2 else 0)) o = (10 + x, N, tg) := by
    rw [am_up_n (by omega)]
    exact hF
  refine ae_pf (h := aq_h (m + 1) (s + n) _ _) (x := x) (y := fl) hr2 (show o < m + 1 by omega) (aq_hc e1) hfl (by rw [hft]; rfl) ?_
  show am_E C (pc + 2 + 3, ls, st, am_wr (aq_h (m + 1) (s + n) _ _) o fl (vR m)) Z
  rw [aq_wp e1]
  refine k _ _ am_up_s ?_ (fun a h1 h2 => ?_) (fun j => if_pos rfl) (fun a h1 j => if_neg h1)
  · rw [am_up_n (by omega), am_up_s]
  · rw [am_up_n h1, am_up_n h2]
end AE
theorem aq_frz {m s a n : Nat} {F : aq_F} {c : aq_C} (hF : F a = (0, n, fun _ => .inl 0)) : aq_h m s F c = aq_h m s (am_up F a (0, n, fun j => .inr (vI (c a (j : Int))))) c := by
  show (m, s, (aq_h m s F c).2.2) = (m, s, (aq_h m s (am_up F a (0, n, fun j => .inr (vI (c a (j : Int))))) c).2.2)
  refine congrArg (fun f => (m, s, f)) ?_
  funext b
  by_cases e : b = a
  · subst e
    rw [aq_hc hF, aq_hc am_up_s]
    rfl
  · show ((F b).1, (F b).2.1, fun i => aq_w ((F b).2.2 i) (c b (i : Int))) = ((am_up F a _ b).1, (am_up F a _ b).2.1, fun i => aq_w ((am_up F a _ b).2.2 i) (c b (i : Int)))
    rw [am_up_n e]
theorem mo_0f {m y a : Nat} {F : aq_F} {q : Nat × Nat × (Nat → aq_T)} (h : mo_0 m F y) (h1 : y + 1 ≤ a) (h4 : a ≤ y + 4) : mo_0 m (am_up F a q) y := by
  unfold mo_0 at *
  repeat rw [am_up_n (by omega)]
  exact h
theorem mo_fm {a b : Int} (h1 : 1 ≤ a) (h : a < b) (h4 : b ≤ 4) : mo_f a + bx_K a ≤ mo_f b := by
  have ha : a = 1 ∨ a = 2 ∨ a = 3 := by omega
  have hb : b = 2 ∨ b = 3 ∨ b = 4 := by omega
  rcases ha with ha | ha | ha <;> rcases hb with hb | hb | hb <;> subst ha <;> subst hb <;> first | decide | omega
/-- the row's strands, the crossings, the sums as a new object has them -/
def mo_b (y : Nat) (c : aq_C) : Prop := c y 9 = 2 ∧ c y 10 = 0 ∧ (∀ s, 0 ≤ s → s < 8 → c (y + 5) s = 2) ∧ ∀ s, c (y + 6) s = 0
theorem mo_bI {y : Nat} {c : aq_C} (h : mo_b y c) : mo_I y c := by
  obtain ⟨h1, h2, h3, h4⟩ := h
  refine ⟨⟨by omega, by omega, by omega, by omega, fun i h5 h6 => absurd h6 (by omega)⟩, fun s s0 s1 => ?_⟩
  have e3 := h3 s s0 s1
  have e4 := h4 s
  exact ⟨by omega, by omega, by omega, by omega, fun k k0 k1 => absurd k1 (by omega)⟩
theorem mo_bs {S : Nat → Prop} {y : Nat} {c d : aq_C} (h : mo_b y c) (hs : aq_sm S c d) (hk : mo_k y c d) (h5 : ¬ S (y + 5)) (h6 : ¬ S (y + 6)) : mo_b y d :=
  ⟨by rw [hk.1]; exact h.1, by rw [hk.2.1]; exact h.2.1, fun s s0 s1 => by rw [hs _ h5]; exact h.2.2.1 s s0 s1, fun s => by rw [hs _ h6]; exact h.2.2.2 s⟩
def mo_Z (y sT : Nat) (F0 : aq_F) (c0 : aq_C) : Option am_V → am_H → Prop := fun r h2 => ∃ F2 c2, r = none ∧ h2 = aq_h (y + 24) sT F2 c2 ∧ mo_C (y + 24) F2 y ∧ (mo_I y c2 ∧ mo_b y c2) ∧ ∀ a, a < y → F2 a = F0 a ∧ ∀ i, c2 a i = c0 a i

/-- an object of Halves while it is made: size, left and partners are contents still -/
def hc_t (o n : Nat) : Nat → aq_T := fun y => match y with
  | 0 => .inr (vI (n : Int))
  | 1 => .inr (vR (o + 9))
  | 2 => .inr (vR (o + 1))
  | 3 => .inr (vR (o + 2))
  | 4 => .inr (vR (o + 16))
  | 5 => .inr (vR (o + 17))
  | _ => .inl 0
def hc_0 (m : Nat) (F : aq_F) (o n : Nat) : Prop := o + 18 ≤ m ∧ 1 ≤ n ∧ n ≤ 4 ∧ F o = (12, 7, hc_t o n) ∧ F (o + 1) = (0, 6, fun _ => .inl 0) ∧ F (o + 2) = (3, 6, fun j => aq_g 6 j (o + 3 + j)) ∧ (∀ j, j < 6 → F (o + 3 + j) = (0, 6, fun _ => .inl 0)) ∧ F (o + 9) = (3, 6, fun j => aq_g 6 j (o + 10 + j)) ∧ (∀ h, h < 6 → F (o + 10 + h) = (0, n, fun _ => .inl 0)) ∧ F (o + 16) = (0, n, fun _ => .inl 0) ∧ F (o + 17) = (1, n, fun _ => .inl 0)
/-- draft and partners lie in range, size too -/
def hc_I (o n : Nat) (c : aq_C) : Prop := aq_rg (o + 16) (n : Int) 0 ((n : Int) + 1) c ∧ (∀ h, h < 6 → aq_rg (o + 10 + h) (n : Int) 0 ((n : Int) + 1) c) ∧ 0 ≤ c o 6 ∧ c o 6 ≤ 6
theorem nu_1 : ∀ b : Nat, b < 1 → nu_o (prt 1 b) (2 * 1) 9 0 0 (2 * 1 - 1) = b := by decide +kernel
theorem nu_2 : ∀ b : Nat, b < 3 → nu_o (prt 2 b) (2 * 2) 9 0 0 (2 * 2 - 1) = b := by decide +kernel
theorem nu_3 : ∀ b : Nat, b < 15 → nu_o (prt 3 b) (2 * 3) 9 0 0 (2 * 3 - 1) = b := by decide +kernel
theorem nu_4 : ∀ b : Nat, b < 105 → nu_o (prt 4 b) (2 * 4) 9 0 0 (2 * 4 - 1) = b := by decide +kernel
theorem nu_b {n b : Int} (h1 : 1 ≤ n) (h4 : n ≤ 4) (h0 : 0 ≤ b) (hb : b < bx_K n) : nu_o (prt n b) (2 * n) 9 0 0 (2 * n - 1) = b := by
  have h : n = 1 ∨ n = 2 ∨ n = 3 ∨ n = 4 := by omega
  have eb : ((b.toNat : Nat) : Int) = b := Int.toNat_of_nonneg h0
  rcases h with h | h | h | h <;> subst h
  · have hk : bx_K 1 = 1 := rfl
    have := nu_1 b.toNat (by omega)
    rw [eb] at this
    exact this
  · have hk : bx_K 2 = 3 := rfl
    have := nu_2 b.toNat (by omega)
    rw [eb] at this
    exact this
  · have hk : bx_K 3 = 15 := rfl
    have := nu_3 b.toNat (by omega)
    rw [eb] at this
    exact this
  · have hk : bx_K 4 = 105 := rfl
    have := nu_4 b.toNat (by omega)
    rw [eb] at this
    exact this
theorem nu_fi {n : Int} {f : Int → Int} (h1 : 1 ≤ n) (h4 : n ≤ 4) (hf : fi n f) : 0 ≤ nu_o f (2 * n) 9 0 0 (2 * n - 1) ∧ nu_o f (2 * n) 9 0 0 (2 * n - 1) < bx_K n := by
  obtain ⟨b, b0, b1, b2⟩ := pr_c h1 h4 hf
  have e := nu_oc (N := 2 * n) b2 (fun i k0 k1 => by have := pr_fi h1 h4 b0 b1 i k0 k1; omega) 9 0 0 (2 * n - 1) (by omega)
  rw [← e, nu_b h1 h4 b0 b1]
  exact ⟨b0, b1⟩
theorem ldr_le {n : Int} {f g : Int → Int} : ∀ (d k : Nat) (u : Bool) (p : Int), exd n f g d u p → ldr n f g (d + k) u p = ldr n f g d u p
  | 0, k, u, p, h => h.elim
  | d + 1, k, true, p, h => by
    rw [show d + 1 + k = (d + k) + 1 by omega, ldr, ldr]
    by_cases e : n ≤ f p
    · rw [if_pos e, if_pos e, ldr_le d k false _ (h e)]
    · rw [if_neg e, if_neg e]
  | d + 1, k, false, p, h => by
    rw [show d + 1 + k = (d + k) + 1 by omega, ldr, ldr]
    by_cases e : g p < n
    · rw [if_pos e, if_pos e, ldr_le d k true _ (h e)]
    · rw [if_neg e, if_neg e]
/-- one strand: two steps are enough -/
theorem ld_ex1 {f g : Int → Int} (hf : fi 1 f) (hg : fi 1 g) {p : Int} (h0 : 0 ≤ p) (h1 : p < 2) : exd 1 f g 3 (decide (p < 1)) p := by
  have a := hf 0 (by omega) (by omega)
  have b := hf 1 (by omega) (by omega)
  have c := hg 0 (by omega) (by omega)
  have d := hg 1 (by omega) (by omega)
  have e : p = 0 ∨ p = 1 := by omega
  rcases e with e | e <;> subst e
  · intro k1
    intro k2
    have e1 : f 0 = 1 := by omega
    rw [e1] at k2
    exfalso
    have : (1 : Int) - 1 = 0 := rfl
    rw [this] at k2
    omega
  · intro k1
    intro k2
    have e1 : g 1 = 0 := by omega
    rw [e1] at k2
    exfalso
    have : (1 : Int) + 0 = 1 := rfl
    rw [this] at k2
    omega

/-- freeBehind: the free point behind p, with l free ones passed over -/
def fb_ (N : Int) (w : Int → Int) : Nat → Int → Int → Int
  | 0, _, q => q
  | d + 1, l, q => if q < N - 1 ∧ (w q ≠ 0 ∨ 0 < l) then fb_ N w d (l - if w q = 0 then 1 else 0) (q + 1) else q
theorem fb_r {N : Int} {w : Int → Int} : ∀ (d : Nat) (l q : Int), q ≤ N - 1 → q ≤ fb_ N w d l q ∧ fb_ N w d l q ≤ N - 1
  | 0, l, q, h => ⟨Int.le_refl q, h⟩
  | d + 1, l, q, h => by
    rw [fb_]
    split
    · rename_i e
      have := fb_r (N := N) (w := w) d (l - if w q = 0 then 1 else 0) (q + 1) (by omega)
      omega
    · exact ⟨Int.le_refl q, h⟩

theorem qb_free_l {m s : Nat} {F : aq_F} {c : aq_C} {o n K : Nat} (hB : bx_0 m F o n K) {p l0 T : Int} : ∀ (d : Nat) (l : Int) (q : Int) (h0 : 0 ≤ q) (h1 : q ≤ 2 * (n : Int) - 1) (h2 : l ≤ 100) (h3 : -100 ≤ l + q) (ht : fb_ (2 * (n : Int)) (c (o + 7 + 3 * K)) d l q = T) (hd : 2 * (n : Int) - 1 - q < (d : Int)), am_E ac_X0_freeBehind (7, [vR o, vI p, vI l0, vI l, vI q], [], aq_h m s F c) (aq_P m s F c (fun r => r = some (vI T)))
  | 0, l, q, h0, h1, h2, h3, ht, hd => by exfalso; omega
  | d + 1, l, q, h0, h1, h2, h3, ht, hd => by
    obtain ⟨hm, hn1, hn4, hK, hFo, hFd, hFs⟩ := hB
    refine am_E.go (t2 := (9, [vR o, vI p, vI l0, vI l, vI q], [vI q], aq_h m s F c)) rfl rfl ?_
    refine am_E.go (t2 := (10, [vR o, vI p, vI l0, vI l, vI q], [vR o, vI q], aq_h m s F c)) rfl rfl ?_
    refine aq_gf (v := vI (2 * (n : Int))) rfl (by omega) hFo (by decide) rfl ?_
    show am_E _ (13, [vR o, vI p, vI l0, vI l, vI q], [vI (2 * (n : Int)), vI q], aq_h m s F c) _
    refine am_E.go (t2 := (14, [vR o, vI p, vI l0, vI l, vI q], [vI 1, vI (2 * (n : Int)), vI q], aq_h m s F c)) rfl rfl ?_
    refine ae_sub rfl (am_ri (by omega) (by omega)) ?_
    show am_E _ (15, [vR o, vI p, vI l0, vI l, vI q], [vI ((2 * (n : Int)) - 1), vI q], aq_h m s F c) _
    refine ae_icmp rfl (fun (q_1 : ((2 * (n : Int)) - 1) ≤ q) => ?_) (fun (q_1 : q < ((2 * (n : Int)) - 1)) => ?_)
    · refine am_E.go (t2 := (58, [vR o, vI p, vI l0, vI l, vI q], [vI q], aq_h m s F c)) rfl rfl ?_
      refine am_E.ret rfl rfl ?_
      refine ⟨rfl, ?_⟩
      rw [← ht, fb_, if_neg (by omega)]
    · refine am_E.go (t2 := (19, [vR o, vI p, vI l0, vI l, vI q], [vR o], aq_h m s F c)) rfl rfl ?_
      refine aq_gf (v := vR (o + 7 + 3 * K)) rfl (by omega) hFo (by decide) rfl ?_
      show am_E _ (22, [vR o, vI p, vI l0, vI l, vI q], [vR (o + 7 + 3 * K)], aq_h m s F c) _
      refine am_E.go (t2 := (24, [vR o, vI p, vI l0, vI l, vI q], [vI q, vR (o + 7 + 3 * K)], aq_h m s F c)) rfl rfl ?_
      refine aq_al (ok := fun k => k == 1) (v := vI (c (o + 7 + 3 * K) q)) rfl rfl (by omega) hFs rfl (by omega) (by omega) rfl ?_
      show am_E _ (25, [vR o, vI p, vI l0, vI l, vI q], [vI (c (o + 7 + 3 * K) q)], aq_h m s F c) _
      refine ae_if0 rfl (fun (q_2 : (c (o + 7 + 3 * K) q) ≠ 0) => ?_) (fun (q_2 : (c (o + 7 + 3 * K) q) = 0) => ?_)
      · refine am_E.go (t2 := (33, [vR o, vI p, vI l0, vI l, vI q], [vI l], aq_h m s F c)) rfl rfl ?_
        refine am_E.go (t2 := (34, [vR o, vI p, vI l0, vI l, vI q], [vR o, vI l], aq_h m s F c)) rfl rfl ?_
        refine aq_gf (v := vR (o + 7 + 3 * K)) rfl (by omega) hFo (by decide) rfl ?_
        show am_E _ (37, [vR o, vI p, vI l0, vI l, vI q], [vR (o + 7 + 3 * K), vI l], aq_h m s F c) _
        refine am_E.go (t2 := (39, [vR o, vI p, vI l0, vI l, vI q], [vI q, vR (o + 7 + 3 * K), vI l], aq_h m s F c)) rfl rfl ?_
        refine aq_al (ok := fun k => k == 1) (v := vI (c (o + 7 + 3 * K) q)) rfl rfl (by omega) hFs rfl (by omega) (by omega) rfl ?_
        show am_E _ (40, [vR o, vI p, vI l0, vI l, vI q], [vI (c (o + 7 + 3 * K) q), vI l], aq_h m s F c) _
        refine ae_if0 rfl (fun (q_3 : (c (o + 7 + 3 * K) q) = 0) => ?_) (fun (q_3 : (c (o + 7 + 3 * K) q) ≠ 0) => ?_)
        · refine am_E.go (t2 := (48, [vR o, vI p, vI l0, vI l, vI q], [vI 1, vI l], aq_h m s F c)) rfl rfl ?_
          refine ae_sub rfl (am_ri (by omega) (by omega)) ?_
          show am_E _ (49, [vR o, vI p, vI l0, vI l, vI q], [vI (l - 1)], aq_h m s F c) _
          refine am_E.go (t2 := (50, [vR o, vI p, vI l0, vI (l - 1), vI q], [], aq_h m s F c)) rfl rfl ?_
          refine ae_iinc rfl rfl (am_ri (by omega) (by omega)) ?_
          show am_E _ (53, [vR o, vI p, vI l0, vI (l - 1), vI (q + 1)], [], aq_h m s F c) _
          refine am_E.go (t2 := (7, [vR o, vI p, vI l0, vI (l - 1), vI (q + 1)], [], aq_h m s F c)) rfl rfl ?_
          exact qb_free_l ⟨hm, hn1, hn4, hK, hFo, hFd, hFs⟩ d (l - 1) (q + 1) (by omega) (by omega) (by omega) (by omega) (by first | (exfalso; omega) | (rw [← ht, fb_, if_pos (by omega)]; first | rw [if_pos (by omega)] | rw [if_neg (by omega)])) (by omega)
        · refine am_E.go (t2 := (44, [vR o, vI p, vI l0, vI l, vI q], [vI 0, vI l], aq_h m s F c)) rfl rfl ?_
          refine am_E.go (t2 := (48, [vR o, vI p, vI l0, vI l, vI q], [vI 0, vI l], aq_h m s F c)) rfl rfl ?_
          refine ae_sub rfl (am_ri (by omega) (by omega)) ?_
          show am_E _ (49, [vR o, vI p, vI l0, vI l, vI q], [vI (l - 0)], aq_h m s F c) _
          refine am_E.go (t2 := (50, [vR o, vI p, vI l0, vI (l - 0), vI q], [], aq_h m s F c)) rfl rfl ?_
          refine ae_iinc rfl rfl (am_ri (by omega) (by omega)) ?_
          show am_E _ (53, [vR o, vI p, vI l0, vI (l - 0), vI (q + 1)], [], aq_h m s F c) _
          refine am_E.go (t2 := (7, [vR o, vI p, vI l0, vI (l - 0), vI (q + 1)], [], aq_h m s F c)) rfl rfl ?_
          exact qb_free_l ⟨hm, hn1, hn4, hK, hFo, hFd, hFs⟩ d (l - 0) (q + 1) (by omega) (by omega) (by omega) (by omega) (by first | (exfalso; omega) | (rw [← ht, fb_, if_pos (by omega)]; first | rw [if_pos (by omega)] | rw [if_neg (by omega)])) (by omega)
      · refine am_E.go (t2 := (29, [vR o, vI p, vI l0, vI l, vI q], [vI l], aq_h m s F c)) rfl rfl ?_
        refine ae_if0 rfl (fun (q_4 : l ≤ 0) => ?_) (fun (q_4 : 0 < l) => ?_)
        · refine am_E.go (t2 := (58, [vR o, vI p, vI l0, vI l, vI q], [vI q], aq_h m s F c)) rfl rfl ?_
          refine am_E.ret rfl rfl ?_
          refine ⟨rfl, ?_⟩
          rw [← ht, fb_, if_neg (by omega)]
        · refine am_E.go (t2 := (33, [vR o, vI p, vI l0, vI l, vI q], [vI l], aq_h m s F c)) rfl rfl ?_
          refine am_E.go (t2 := (34, [vR o, vI p, vI l0, vI l, vI q], [vR o, vI l], aq_h m s F c)) rfl rfl ?_
          refine aq_gf (v := vR (o + 7 + 3 * K)) rfl (by omega) hFo (by decide) rfl ?_
          show am_E _ (37, [vR o, vI p, vI l0, vI l, vI q], [vR (o + 7 + 3 * K), vI l], aq_h m s F c) _
          refine am_E.go (t2 := (39, [vR o, vI p, vI l0, vI l, vI q], [vI q, vR (o + 7 + 3 * K), vI l], aq_h m s F c)) rfl rfl ?_
          refine aq_al (ok := fun k => k == 1) (v := vI (c (o + 7 + 3 * K) q)) rfl rfl (by omega) hFs rfl (by omega) (by omega) rfl ?_
          show am_E _ (40, [vR o, vI p, vI l0, vI l, vI q], [vI (c (o + 7 + 3 * K) q), vI l], aq_h m s F c) _
          refine ae_if0 rfl (fun (q_5 : (c (o + 7 + 3 * K) q) = 0) => ?_) (fun (q_5 : (c (o + 7 + 3 * K) q) ≠ 0) => ?_)
          · refine am_E.go (t2 := (48, [vR o, vI p, vI l0, vI l, vI q], [vI 1, vI l], aq_h m s F c)) rfl rfl ?_
            refine ae_sub rfl (am_ri (by omega) (by omega)) ?_
            show am_E _ (49, [vR o, vI p, vI l0, vI l, vI q], [vI (l - 1)], aq_h m s F c) _
            refine am_E.go (t2 := (50, [vR o, vI p, vI l0, vI (l - 1), vI q], [], aq_h m s F c)) rfl rfl ?_
            refine ae_iinc rfl rfl (am_ri (by omega) (by omega)) ?_
            show am_E _ (53, [vR o, vI p, vI l0, vI (l - 1), vI (q + 1)], [], aq_h m s F c) _
            refine am_E.go (t2 := (7, [vR o, vI p, vI l0, vI (l - 1), vI (q + 1)], [], aq_h m s F c)) rfl rfl ?_
            exact qb_free_l ⟨hm, hn1, hn4, hK, hFo, hFd, hFs⟩ d (l - 1) (q + 1) (by omega) (by omega) (by omega) (by omega) (by first | (exfalso; omega) | (rw [← ht, fb_, if_pos (by omega)]; first | rw [if_pos (by omega)] | rw [if_neg (by omega)])) (by omega)
          · refine am_E.go (t2 := (44, [vR o, vI p, vI l0, vI l, vI q], [vI 0, vI l], aq_h m s F c)) rfl rfl ?_
            refine am_E.go (t2 := (48, [vR o, vI p, vI l0, vI l, vI q], [vI 0, vI l], aq_h m s F c)) rfl rfl ?_
            refine ae_sub rfl (am_ri (by omega) (by omega)) ?_
            show am_E _ (49, [vR o, vI p, vI l0, vI l, vI q], [vI (l - 0)], aq_h m s F c) _
            refine am_E.go (t2 := (50, [vR o, vI p, vI l0, vI (l - 0), vI q], [], aq_h m s F c)) rfl rfl ?_
            refine ae_iinc rfl rfl (am_ri (by omega) (by omega)) ?_
            show am_E _ (53, [vR o, vI p, vI l0, vI (l - 0), vI (q + 1)], [], aq_h m s F c) _
            refine am_E.go (t2 := (7, [vR o, vI p, vI l0, vI (l - 0), vI (q + 1)], [], aq_h m s F c)) rfl rfl ?_
            exact qb_free_l ⟨hm, hn1, hn4, hK, hFo, hFd, hFs⟩ d (l - 0) (q + 1) (by omega) (by omega) (by omega) (by omega) (by first | (exfalso; omega) | (rw [← ht, fb_, if_pos (by omega)]; first | rw [if_pos (by omega)] | rw [if_neg (by omega)])) (by omega)

theorem qb_freeBehind {m s : Nat} {F : aq_F} {c : aq_C} {o n K : Nat} (hB : bx_0 m F o n K) {p l : Int} (h0 : 0 ≤ p) (h1 : p < 2 * (n : Int) - 1) (h2 : 0 ≤ l) (h3 : l ≤ 100) : am_E ac_X0_freeBehind (0, [vR o, vI p, vI l, vU, vU], [], aq_h m s F c) (aq_P m s F c (fun r => r = some (vI (fb_ (2 * (n : Int)) (c (o + 7 + 3 * K)) 9 l (p + 1))))) := by
  obtain ⟨hm, hn1, hn4, hK, hFo, hFd, hFs⟩ := hB
  refine am_E.go (t2 := (1, [vR o, vI p, vI l, vU, vU], [vI l], aq_h m s F c)) rfl rfl ?_
  refine am_E.go (t2 := (2, [vR o, vI p, vI l, vI l, vU], [], aq_h m s F c)) rfl rfl ?_
  refine am_E.go (t2 := (3, [vR o, vI p, vI l, vI l, vU], [vI p], aq_h m s F c)) rfl rfl ?_
  refine am_E.go (t2 := (4, [vR o, vI p, vI l, vI l, vU], [vI 1, vI p], aq_h m s F c)) rfl rfl ?_
  refine ae_add rfl (am_ri (by omega) (by omega)) ?_
  show am_E _ (5, [vR o, vI p, vI l, vI l, vU], [vI (p + 1)], aq_h m s F c) _
  refine am_E.go (t2 := (7, [vR o, vI p, vI l, vI l, vI (p + 1)], [], aq_h m s F c)) rfl rfl ?_
  exact qb_free_l ⟨hm, hn1, hn4, hK, hFo, hFd, hFs⟩ 9 l (p + 1) (by omega) (by omega) (by omega) (by omega) rfl (by omega)
