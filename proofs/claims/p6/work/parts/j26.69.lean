theorem nm_bz : ∀ a b : Nat, ∃ x y : Int, (a : Int) * x + (b : Int) * y = ((Nat.gcd a b : Nat) : Int) := by
  intro a b
  induction a, b using Nat.gcd.induction with
  | H0 n => exact ⟨0, 1, by simp⟩
  | H1 m n hm ih =>
    obtain ⟨x, y, h⟩ := ih
    refine ⟨y - ((n / m : Nat) : Int) * x, x, ?_⟩
    rw [Nat.gcd_rec, ← h]
    have e : (n : Int) = (m : Int) * ((n / m : Nat) : Int) + ((n % m : Nat) : Int) := by
      have := Nat.div_add_mod n m
      rw [← Int.natCast_mul, ← Int.natCast_add, this]
    generalize ((n / m : Nat) : Int) = q at *
    generalize ((n % m : Nat) : Int) = r at *
    rw [e]
    rw [Int.mul_sub, Int.add_mul]
    have e2 : (m : Int) * (q * x) = (m : Int) * q * x := by rw [Int.mul_assoc]
    omega
theorem nm_cop {v p : Nat} (hv0 : 1 ≤ v) (hvp : v < p) (hp : ∀ e, 2 ≤ e → e * e ≤ p → p % e ≠ 0) : Nat.gcd v p = 1 := by
  have h1 : Nat.gcd v p ∣ v := Nat.gcd_dvd_left v p
  have h2 : Nat.gcd v p ∣ p := Nat.gcd_dvd_right v p
  have h3 : 0 < Nat.gcd v p := Nat.gcd_pos_of_pos_left p hv0
  have h4 : Nat.gcd v p ≤ v := Nat.le_of_dvd hv0 h1
  generalize Nat.gcd v p = g at *
  by_cases hg : g = 1
  · exact hg
  · exfalso
    obtain ⟨h, e⟩ := h2
    have hh : 2 ≤ h := by
      by_cases h0 : h = 0
      · rw [h0] at e
        omega
      · by_cases h5 : h = 1
        · rw [h5] at e
          omega
        · omega
    by_cases h6 : g ≤ h
    · refine hp g (by omega) ?_ ?_
      · rw [e]
        exact Nat.mul_le_mul_left g h6
      · rw [e]
        exact Nat.mul_mod_right g h
    · refine hp h hh ?_ ?_
      · rw [e]
        exact Nat.mul_le_mul_right h (by omega)
      · rw [e]
        exact Nat.mul_mod_left g h
/-- p has no divisor up to its root -/
def nm_P (p : Int) : Prop := ∀ e : Int, 2 ≤ e → e * e ≤ p → p % e ≠ 0
theorem nm_inv {v p : Int} (hv0 : 1 ≤ v) (hvp : v < p) (hp : nm_P p) : ∃ w, 1 ≤ w ∧ w < p ∧ (v * w) % p = 1 := by
  have hc : Nat.gcd v.toNat p.toNat = 1 := by
    refine nm_cop (by omega) (by omega) (fun e he h1 h2 => ?_)
    refine hp (e : Int) (by omega) ?_ ?_
    · rw [← Int.natCast_mul]
      omega
    · have : p = ((p.toNat : Nat) : Int) := by omega
      rw [this, ← Int.natCast_emod, h2]
      rfl
  obtain ⟨x, z, h⟩ := nm_bz v.toNat p.toNat
  rw [hc, Int.toNat_of_nonneg (by omega), Int.toNat_of_nonneg (by omega)] at h
  have h5 : (v * (x % p)) % p = 1 := by
    rw [Int.mul_emod, Int.emod_emod_of_dvd _ (Int.dvd_refl p), ← Int.mul_emod]
    have e : v * x = 1 + p * (-z) := by
      rw [Int.mul_neg]
      have : ((1 : Nat) : Int) = 1 := rfl
      omega
    rw [e, Int.add_mul_emod_self_left]
    exact Int.emod_eq_of_lt (by omega) (by omega)
  have h6 : 0 ≤ x % p := Int.emod_nonneg x (by omega)
  have h7 : x % p < p := Int.emod_lt_of_pos x (by omega)
  refine ⟨x % p, ?_, h7, h5⟩
  by_cases h8 : x % p = 0
  · rw [h8, Int.mul_zero, Int.zero_emod] at h5
    exact absurd h5 (by decide)
  · omega
theorem nm_mul {a b : Int} (h0 : 0 ≤ a) (h1 : a < 1000) (h2 : 0 ≤ b) (h3 : b < 1000) : 0 ≤ a * b ∧ a * b ≤ 998001 := by
  refine ⟨Int.mul_nonneg h0 h2, ?_⟩
  exact Int.mul_le_mul (show a ≤ 999 by omega) (show b ≤ 999 by omega) h2 (by decide)

theorem hv_Nb (n t : Int) : 0 ≤ hv_N n t ∧ hv_N n t ≤ 6 := by
  unfold hv_N hv_l
  (repeat' split) <;> decide

theorem qm_formOf {m s : Nat} {F : aq_F} {c : aq_C} {y : Nat} (hO : mo_0 m F y) {n t i j : Int} (hn1 : 1 ≤ n) (hn4 : n ≤ 4) (ht0 : 0 ≤ t) (ht1 : t ≤ n) (hi0 : 0 ≤ i) (hi1 : i < hv_N n t) (hj0 : 0 ≤ j) (hj1 : j < hv_N n t) (hA : ∀ p, 0 ≤ p → p < n → c (y + 18) p = hv_d n t i p) (hB : ∀ p, 0 ≤ p → p < n → c (y + 19) p = hv_d n t j p) : am_E ac_X5_formOf (0, [vR y, vI n, vU, vU, vU, vU, vU], [], aq_h m s F c) (aq_Z m s F (fun a => a = y + 13) c (fun r _ => ∃ v, r = some (vI v) ∧ -4 ≤ v ∧ v ≤ 4)) := by
  have h : n = 1 ∨ n = 2 ∨ n = 3 ∨ n = 4 := by omega
  rcases h with h | h | h | h <;> subst h
  · have h : t = 0 ∨ t = 1 := by omega
    rcases h with h | h <;> subst h
    · have hN : hv_N 1 0 = 0 := rfl
      exfalso; omega
    · have hN : hv_N 1 1 = 1 := rfl
      have hi : i = 0 := by omega
      have hj : j = 0 := by omega
      subst hi
      subst hj
      exact (qm_fo_1100 hO (hA 0 (by decide) (by decide)) (hB 0 (by decide) (by decide))).imp (fun r h2 ⟨d, e1, e2, e3⟩ => ⟨d, e1, e2, 0, e3, by decide, by decide⟩)
  · have h : t = 0 ∨ t = 1 ∨ t = 2 := by omega
    rcases h with h | h | h <;> subst h
    · have hN : hv_N 2 0 = 1 := rfl
      have hi : i = 0 := by omega
      have hj : j = 0 := by omega
      subst hi
      subst hj
      exact (qm_fo_2000 hO (hA 0 (by decide) (by decide)) (hA 1 (by decide) (by decide)) (hB 0 (by decide) (by decide)) (hB 1 (by decide) (by decide))).imp (fun r h2 ⟨d, e1, e2, e3⟩ => ⟨d, e1, e2, 1, e3, by decide, by decide⟩)
    · have hN : hv_N 2 1 = 0 := rfl
      exfalso; omega
    · have hN : hv_N 2 2 = 1 := rfl
      have hi : i = 0 := by omega
      have hj : j = 0 := by omega
      subst hi
      subst hj
      exact (qm_fo_2200 hO (hA 0 (by decide) (by decide)) (hA 1 (by decide) (by decide)) (hB 0 (by decide) (by decide)) (hB 1 (by decide) (by decide))).imp (fun r h2 ⟨d, e1, e2, e3⟩ => ⟨d, e1, e2, 0, e3, by decide, by decide⟩)
  · have h : t = 0 ∨ t = 1 ∨ t = 2 ∨ t = 3 := by omega
    rcases h with h | h | h | h <;> subst h
    · have hN : hv_N 3 0 = 0 := rfl
      exfalso; omega
    · have hN : hv_N 3 1 = 2 := rfl
      have hi : i = 0 ∨ i = 1 := by omega
      have hj : j = 0 ∨ j = 1 := by omega
      rcases hi with hi | hi <;> rcases hj with hj | hj <;> subst hi <;> subst hj
      · exact (qm_fo_3100 hO (hA 0 (by decide) (by decide)) (hA 1 (by decide) (by decide)) (hA 2 (by decide) (by decide)) (hB 0 (by decide) (by decide)) (hB 1 (by decide) (by decide)) (hB 2 (by decide) (by decide))).imp (fun r h2 ⟨d, e1, e2, e3⟩ => ⟨d, e1, e2, 1, e3, by decide, by decide⟩)
      · exact (qm_fo_3101 hO (hA 0 (by decide) (by decide)) (hA 1 (by decide) (by decide)) (hA 2 (by decide) (by decide)) (hB 0 (by decide) (by decide)) (hB 1 (by decide) (by decide)) (hB 2 (by decide) (by decide))).imp (fun r h2 ⟨d, e1, e2, e3⟩ => ⟨d, e1, e2, 0, e3, by decide, by decide⟩)
      · exact (qm_fo_3110 hO (hA 0 (by decide) (by decide)) (hA 1 (by decide) (by decide)) (hA 2 (by decide) (by decide)) (hB 0 (by decide) (by decide)) (hB 1 (by decide) (by decide)) (hB 2 (by decide) (by decide))).imp (fun r h2 ⟨d, e1, e2, e3⟩ => ⟨d, e1, e2, 0, e3, by decide, by decide⟩)
      · exact (qm_fo_3111 hO (hA 0 (by decide) (by decide)) (hA 1 (by decide) (by decide)) (hA 2 (by decide) (by decide)) (hB 0 (by decide) (by decide)) (hB 1 (by decide) (by decide)) (hB 2 (by decide) (by decide))).imp (fun r h2 ⟨d, e1, e2, e3⟩ => ⟨d, e1, e2, 1, e3, by decide, by decide⟩)
    · have hN : hv_N 3 2 = 0 := rfl
      exfalso; omega
    · have hN : hv_N 3 3 = 1 := rfl
      have hi : i = 0 := by omega
      have hj : j = 0 := by omega
      subst hi
      subst hj
      exact (qm_fo_3300 hO (hA 0 (by decide) (by decide)) (hA 1 (by decide) (by decide)) (hA 2 (by decide) (by decide)) (hB 0 (by decide) (by decide)) (hB 1 (by decide) (by decide)) (hB 2 (by decide) (by decide))).imp (fun r h2 ⟨d, e1, e2, e3⟩ => ⟨d, e1, e2, 0, e3, by decide, by decide⟩)
  · have h : t = 0 ∨ t = 1 ∨ t = 2 ∨ t = 3 ∨ t = 4 := by omega
    rcases h with h | h | h | h | h <;> subst h
    · have hN : hv_N 4 0 = 2 := rfl
      have hi : i = 0 ∨ i = 1 := by omega
      have hj : j = 0 ∨ j = 1 := by omega
      rcases hi with hi | hi <;> rcases hj with hj | hj <;> subst hi <;> subst hj
      · exact (qm_fo_4000 hO (hA 0 (by decide) (by decide)) (hA 1 (by decide) (by decide)) (hA 2 (by decide) (by decide)) (hA 3 (by decide) (by decide)) (hB 0 (by decide) (by decide)) (hB 1 (by decide) (by decide)) (hB 2 (by decide) (by decide)) (hB 3 (by decide) (by decide))).imp (fun r h2 ⟨d, e1, e2, e3⟩ => ⟨d, e1, e2, 2, e3, by decide, by decide⟩)
      · exact (qm_fo_4001 hO (hA 0 (by decide) (by decide)) (hA 1 (by decide) (by decide)) (hA 2 (by decide) (by decide)) (hA 3 (by decide) (by decide)) (hB 0 (by decide) (by decide)) (hB 1 (by decide) (by decide)) (hB 2 (by decide) (by decide)) (hB 3 (by decide) (by decide))).imp (fun r h2 ⟨d, e1, e2, e3⟩ => ⟨d, e1, e2, 1, e3, by decide, by decide⟩)
      · exact (qm_fo_4010 hO (hA 0 (by decide) (by decide)) (hA 1 (by decide) (by decide)) (hA 2 (by decide) (by decide)) (hA 3 (by decide) (by decide)) (hB 0 (by decide) (by decide)) (hB 1 (by decide) (by decide)) (hB 2 (by decide) (by decide)) (hB 3 (by decide) (by decide))).imp (fun r h2 ⟨d, e1, e2, e3⟩ => ⟨d, e1, e2, 1, e3, by decide, by decide⟩)
      · exact (qm_fo_4011 hO (hA 0 (by decide) (by decide)) (hA 1 (by decide) (by decide)) (hA 2 (by decide) (by decide)) (hA 3 (by decide) (by decide)) (hB 0 (by decide) (by decide)) (hB 1 (by decide) (by decide)) (hB 2 (by decide) (by decide)) (hB 3 (by decide) (by decide))).imp (fun r h2 ⟨d, e1, e2, e3⟩ => ⟨d, e1, e2, 2, e3, by decide, by decide⟩)
    · have hN : hv_N 4 1 = 0 := rfl
      exfalso; omega
    · have hN : hv_N 4 2 = 3 := rfl
      have hi : i = 0 ∨ i = 1 ∨ i = 2 := by omega
      have hj : j = 0 ∨ j = 1 ∨ j = 2 := by omega
      rcases hi with hi | hi | hi <;> rcases hj with hj | hj | hj <;> subst hi <;> subst hj
      · exact (qm_fo_4200 hO (hA 0 (by decide) (by decide)) (hA 1 (by decide) (by decide)) (hA 2 (by decide) (by decide)) (hA 3 (by decide) (by decide)) (hB 0 (by decide) (by decide)) (hB 1 (by decide) (by decide)) (hB 2 (by decide) (by decide)) (hB 3 (by decide) (by decide))).imp (fun r h2 ⟨d, e1, e2, e3⟩ => ⟨d, e1, e2, 1, e3, by decide, by decide⟩)
      · exact (qm_fo_4201 hO (hA 0 (by decide) (by decide)) (hA 1 (by decide) (by decide)) (hA 2 (by decide) (by decide)) (hA 3 (by decide) (by decide)) (hB 0 (by decide) (by decide)) (hB 1 (by decide) (by decide)) (hB 2 (by decide) (by decide)) (hB 3 (by decide) (by decide))).imp (fun r h2 ⟨d, e1, e2, e3⟩ => ⟨d, e1, e2, 0, e3, by decide, by decide⟩)
      · exact (qm_fo_4202 hO (hA 0 (by decide) (by decide)) (hA 1 (by decide) (by decide)) (hA 2 (by decide) (by decide)) (hA 3 (by decide) (by decide)) (hB 0 (by decide) (by decide)) (hB 1 (by decide) (by decide)) (hB 2 (by decide) (by decide)) (hB 3 (by decide) (by decide))).imp (fun r h2 ⟨d, e1, e2, e3⟩ => ⟨d, e1, e2, (-4), e3, by decide, by decide⟩)
      · exact (qm_fo_4210 hO (hA 0 (by decide) (by decide)) (hA 1 (by decide) (by decide)) (hA 2 (by decide) (by decide)) (hA 3 (by decide) (by decide)) (hB 0 (by decide) (by decide)) (hB 1 (by decide) (by decide)) (hB 2 (by decide) (by decide)) (hB 3 (by decide) (by decide))).imp (fun r h2 ⟨d, e1, e2, e3⟩ => ⟨d, e1, e2, 0, e3, by decide, by decide⟩)
      · exact (qm_fo_4211 hO (hA 0 (by decide) (by decide)) (hA 1 (by decide) (by decide)) (hA 2 (by decide) (by decide)) (hA 3 (by decide) (by decide)) (hB 0 (by decide) (by decide)) (hB 1 (by decide) (by decide)) (hB 2 (by decide) (by decide)) (hB 3 (by decide) (by decide))).imp (fun r h2 ⟨d, e1, e2, e3⟩ => ⟨d, e1, e2, 1, e3, by decide, by decide⟩)
      · exact (qm_fo_4212 hO (hA 0 (by decide) (by decide)) (hA 1 (by decide) (by decide)) (hA 2 (by decide) (by decide)) (hA 3 (by decide) (by decide)) (hB 0 (by decide) (by decide)) (hB 1 (by decide) (by decide)) (hB 2 (by decide) (by decide)) (hB 3 (by decide) (by decide))).imp (fun r h2 ⟨d, e1, e2, e3⟩ => ⟨d, e1, e2, 0, e3, by decide, by decide⟩)
      · exact (qm_fo_4220 hO (hA 0 (by decide) (by decide)) (hA 1 (by decide) (by decide)) (hA 2 (by decide) (by decide)) (hA 3 (by decide) (by decide)) (hB 0 (by decide) (by decide)) (hB 1 (by decide) (by decide)) (hB 2 (by decide) (by decide)) (hB 3 (by decide) (by decide))).imp (fun r h2 ⟨d, e1, e2, e3⟩ => ⟨d, e1, e2, (-4), e3, by decide, by decide⟩)
      · exact (qm_fo_4221 hO (hA 0 (by decide) (by decide)) (hA 1 (by decide) (by decide)) (hA 2 (by decide) (by decide)) (hA 3 (by decide) (by decide)) (hB 0 (by decide) (by decide)) (hB 1 (by decide) (by decide)) (hB 2 (by decide) (by decide)) (hB 3 (by decide) (by decide))).imp (fun r h2 ⟨d, e1, e2, e3⟩ => ⟨d, e1, e2, 0, e3, by decide, by decide⟩)
      · exact (qm_fo_4222 hO (hA 0 (by decide) (by decide)) (hA 1 (by decide) (by decide)) (hA 2 (by decide) (by decide)) (hA 3 (by decide) (by decide)) (hB 0 (by decide) (by decide)) (hB 1 (by decide) (by decide)) (hB 2 (by decide) (by decide)) (hB 3 (by decide) (by decide))).imp (fun r h2 ⟨d, e1, e2, e3⟩ => ⟨d, e1, e2, 1, e3, by decide, by decide⟩)
    · have hN : hv_N 4 3 = 0 := rfl
      exfalso; omega
    · have hN : hv_N 4 4 = 1 := rfl
      have hi : i = 0 := by omega
      have hj : j = 0 := by omega
      subst hi
      subst hj
      exact (qm_fo_4400 hO (hA 0 (by decide) (by decide)) (hA 1 (by decide) (by decide)) (hA 2 (by decide) (by decide)) (hA 3 (by decide) (by decide)) (hB 0 (by decide) (by decide)) (hB 1 (by decide) (by decide)) (hB 2 (by decide) (by decide)) (hB 3 (by decide) (by decide))).imp (fun r h2 ⟨d, e1, e2, e3⟩ => ⟨d, e1, e2, 0, e3, by decide, by decide⟩)

theorem qm_X5_halves {m s : Nat} {F : aq_F} {c : aq_C} {y : Nat} (hC : mo_C m F y) (hI : mo_I y c) {n t : Int} : am_E ac_X5_halves (0, [vR y, vI n, vI t], [], aq_h m s F c) (aq_Z m s F (fun a => y ≤ a ∧ a < y + 24) c (fun r d => aq_vi r ∧ mo_I y d)) := by
  obtain ⟨⟨hm, hFo, hG5, hG6, hG7, hG8, hG9, hG10, hG11, hG12, hG13, hG14, hG15, hG16, hG17, hG18, hG19, hG20, hG21, hG22, hG23⟩, ⟨tbl, hT1, hTt⟩, ⟨tA, tB, tD, hL1, hL2, hL3, hLt⟩⟩ := hC
  refine am_E.go (t2 := (1, [vR y, vI n, vI t], [vI n], aq_h m s F c)) rfl rfl ?_
  refine am_E.go (t2 := (2, [vR y, vI n, vI t], [vI t, vI n], aq_h m s F c)) rfl rfl ?_
  refine am_E.call rfl rfl rfl (Nat.le_of_ble_eq_true rfl) (qm_areHalves) ?_
  rintro r5 h5 ⟨rfl, v_1, rfl, hv_1⟩
  show am_E _ (5, [vR y, vI n, vI t], [vI v_1], aq_h m s F c) _
  refine ae_if0 rfl (fun (q_2 : v_1 = 0) => ?_) (fun (q_2 : v_1 ≠ 0) => ?_)
  · refine am_E.go (t2 := (23, [vR y, vI n, vI t], [vI (-1)], aq_h m s F c)) rfl rfl ?_
    refine am_E.ret rfl rfl ?_
    exact ⟨_, rfl, aq_smi (aq_sm0 (c := c) (S := mo_S y)) (fun a h => mo_Sa h), ⟨_, rfl⟩, mo_Ik hI (aq_sm0 (c := c) (S := mo_S y)) (mo_k0 (y := y) (c := c))⟩
  · refine am_E.go (t2 := (9, [vR y, vI n, vI t], [vR y], aq_h m s F c)) rfl rfl ?_
    refine am_E.go (t2 := (10, [vR y, vI n, vI t], [vI n, vR y], aq_h m s F c)) rfl rfl ?_
    refine am_E.go (t2 := (11, [vR y, vI n, vI t], [vI t, vI n, vR y], aq_h m s F c)) rfl rfl ?_
    refine am_E.go (t2 := (12, [vR y, vI n, vI t], [vI (-1), vI t, vI n, vR y], aq_h m s F c)) rfl rfl ?_
    refine am_E.go (t2 := (13, [vR y, vI n, vI t], [vR y, vI (-1), vI t, vI n, vR y], aq_h m s F c)) rfl rfl ?_
    refine aq_gf (v := vR (y + 18)) rfl (by omega) hFo (by decide) rfl ?_
    show am_E _ (16, [vR y, vI n, vI t], [vR (y + 18), vI (-1), vI t, vI n, vR y], aq_h m s F c) _
    refine aq_callv (y := 5) (as2 := [vI n, vI t, vI (-1), vR (y + 18)]) (rest := []) rfl rfl (by decide) (Nat.le_of_ble_eq_true rfl) rfl rfl (Nat.le_of_ble_eq_true rfl) (by omega) hFo rfl (Nat.le_of_ble_eq_true rfl) (qm_lay (y := y) (a := y + 18) (by omega) hFo (by omega) hG18 (n := n) (t := t) (by omega) (by omega) (by omega) (by omega) (Or.inl rfl)) ?_
    rintro r5 h5 ⟨c_3, rfl, sc_3, vc_3, rfl, hmc_3, hdc_3⟩
    show am_E _ (19, [vR y, vI n, vI t], [vI vc_3], aq_h m s F c_3) _
    have hm5 := hmc_3 rfl
    have hNb := hv_Nb n t
    refine am_E.go (t2 := (23, [vR y, vI n, vI t], [vI vc_3], aq_h m s F c_3)) rfl rfl ?_
    refine am_E.ret rfl rfl ?_
    exact ⟨_, rfl, aq_smi (aq_smt (aq_sm0 (c := c) (S := mo_S y)) (aq_smi sc_3 (fun a h => by unfold mo_S; omega))) (fun a h => mo_Sa h), ⟨_, rfl⟩, mo_Ik hI (aq_smt (aq_sm0 (c := c) (S := mo_S y)) (aq_smi sc_3 (fun a h => by unfold mo_S; omega))) (mo_ks (mo_k0 (y := y) (c := c)) sc_3 (by omega))⟩

theorem qm_X5_half {m s : Nat} {F : aq_F} {c : aq_C} {y : Nat} (hC : mo_C m F y) (hI : mo_I y c) {n t i p : Int} : am_E ac_X5_half (0, [vR y, vI n, vI t, vI i, vI p, vU], [], aq_h m s F c) (aq_Z m s F (fun a => y ≤ a ∧ a < y + 24) c (fun r d => aq_vi r ∧ mo_I y d)) := by
  obtain ⟨⟨hm, hFo, hG5, hG6, hG7, hG8, hG9, hG10, hG11, hG12, hG13, hG14, hG15, hG16, hG17, hG18, hG19, hG20, hG21, hG22, hG23⟩, ⟨tbl, hT1, hTt⟩, ⟨tA, tB, tD, hL1, hL2, hL3, hLt⟩⟩ := hC
  refine am_E.go (t2 := (1, [vR y, vI n, vI t, vI i, vI p, vU], [vI n], aq_h m s F c)) rfl rfl ?_
  refine am_E.go (t2 := (2, [vR y, vI n, vI t, vI i, vI p, vU], [vI t, vI n], aq_h m s F c)) rfl rfl ?_
  refine am_E.call rfl rfl rfl (Nat.le_of_ble_eq_true rfl) (qm_areHalves) ?_
  rintro r5 h5 ⟨rfl, v_1, rfl, hv_1⟩
  show am_E _ (5, [vR y, vI n, vI t, vI i, vI p, vU], [vI v_1], aq_h m s F c) _
  refine ae_if0 rfl (fun (q_2 : v_1 = 0) => ?_) (fun (q_2 : v_1 ≠ 0) => ?_)
  · refine am_E.go (t2 := (27, [vR y, vI n, vI t, vI i, vI p, vU], [vI (-1)], aq_h m s F c)) rfl rfl ?_
    refine am_E.ret rfl rfl ?_
    exact ⟨_, rfl, aq_smi (aq_sm0 (c := c) (S := mo_S y)) (fun a h => mo_Sa h), ⟨_, rfl⟩, mo_Ik hI (aq_sm0 (c := c) (S := mo_S y)) (mo_k0 (y := y) (c := c))⟩
  · refine am_E.go (t2 := (9, [vR y, vI n, vI t, vI i, vI p, vU], [vI i], aq_h m s F c)) rfl rfl ?_
    refine ae_if0 rfl (fun (q_3 : i < 0) => ?_) (fun (q_3 : 0 ≤ i) => ?_)
    · refine am_E.go (t2 := (27, [vR y, vI n, vI t, vI i, vI p, vU], [vI (-1)], aq_h m s F c)) rfl rfl ?_
      refine am_E.ret rfl rfl ?_
      exact ⟨_, rfl, aq_smi (aq_sm0 (c := c) (S := mo_S y)) (fun a h => mo_Sa h), ⟨_, rfl⟩, mo_Ik hI (aq_sm0 (c := c) (S := mo_S y)) (mo_k0 (y := y) (c := c))⟩
    · refine am_E.go (t2 := (14, [vR y, vI n, vI t, vI i, vI p, vU], [vI p], aq_h m s F c)) rfl rfl ?_
      refine am_E.go (t2 := (15, [vR y, vI n, vI t, vI i, vI p, vU], [vL p], aq_h m s F c)) rfl rfl ?_
      refine am_E.go (t2 := (16, [vR y, vI n, vI t, vI i, vI p, vU], [vL 0, vL p], aq_h m s F c)) rfl rfl ?_
      refine am_E.go (t2 := (17, [vR y, vI n, vI t, vI i, vI p, vU], [vI n, vL 0, vL p], aq_h m s F c)) rfl rfl ?_
      refine am_E.go (t2 := (18, [vR y, vI n, vI t, vI i, vI p, vU], [vI 1, vI n, vL 0, vL p], aq_h m s F c)) rfl rfl ?_
      refine ae_sub rfl (am_ri (by omega) (by omega)) ?_
      show am_E _ (19, [vR y, vI n, vI t, vI i, vI p, vU], [vI (n - 1), vL 0, vL p], aq_h m s F c) _
      refine am_E.go (t2 := (20, [vR y, vI n, vI t, vI i, vI p, vU], [vL (n - 1), vL 0, vL p], aq_h m s F c)) rfl rfl ?_
      refine am_E.call rfl rfl rfl (Nat.le_of_ble_eq_true rfl) (qm_in) ?_
      rintro r5 h5 ⟨rfl, v_4, rfl, hv_4⟩
      show am_E _ (23, [vR y, vI n, vI t, vI i, vI p, vU], [vI v_4], aq_h m s F c) _
      refine ae_if0 rfl (fun (q_5 : v_4 ≠ 0) => ?_) (fun (q_5 : v_4 = 0) => ?_)
      · refine am_E.go (t2 := (29, [vR y, vI n, vI t, vI i, vI p, vU], [vI i], aq_h m s F c)) rfl rfl ?_
        refine am_E.go (t2 := (30, [vR y, vI n, vI t, vI i, vI p, vU], [vR y, vI i], aq_h m s F c)) rfl rfl ?_
        refine am_E.go (t2 := (31, [vR y, vI n, vI t, vI i, vI p, vU], [vI n, vR y, vI i], aq_h m s F c)) rfl rfl ?_
        refine am_E.go (t2 := (32, [vR y, vI n, vI t, vI i, vI p, vU], [vI t, vI n, vR y, vI i], aq_h m s F c)) rfl rfl ?_
        refine am_E.go (t2 := (33, [vR y, vI n, vI t, vI i, vI p, vU], [vI (-1), vI t, vI n, vR y, vI i], aq_h m s F c)) rfl rfl ?_
        refine am_E.go (t2 := (34, [vR y, vI n, vI t, vI i, vI p, vU], [vR y, vI (-1), vI t, vI n, vR y, vI i], aq_h m s F c)) rfl rfl ?_
        refine aq_gf (v := vR (y + 18)) rfl (by omega) hFo (by decide) rfl ?_
        show am_E _ (37, [vR y, vI n, vI t, vI i, vI p, vU], [vR (y + 18), vI (-1), vI t, vI n, vR y, vI i], aq_h m s F c) _
        refine aq_callv (y := 5) (as2 := [vI n, vI t, vI (-1), vR (y + 18)]) (rest := [vI i]) rfl rfl (by decide) (Nat.le_of_ble_eq_true rfl) rfl rfl (Nat.le_of_ble_eq_true rfl) (by omega) hFo rfl (Nat.le_of_ble_eq_true rfl) (qm_lay (y := y) (a := y + 18) (by omega) hFo (by omega) hG18 (n := n) (t := t) (by omega) (by omega) (by omega) (by omega) (Or.inl rfl)) ?_
        rintro r5 h5 ⟨c_6, rfl, sc_6, vc_6, rfl, hmc_6, hdc_6⟩
        show am_E _ (40, [vR y, vI n, vI t, vI i, vI p, vU], [vI vc_6, vI i], aq_h m s F c_6) _
        have hm5 := hmc_6 rfl
        have hNb := hv_Nb n t
        refine ae_icmp rfl (fun (q_7 : i < vc_6) => ?_) (fun (q_7 : vc_6 ≤ i) => ?_)
        · refine am_E.go (t2 := (47, [vR y, vI n, vI t, vI i, vI p, vU], [vR y], aq_h m s F c_6)) rfl rfl ?_
          refine am_E.go (t2 := (48, [vR y, vI n, vI t, vI i, vI p, vU], [vI n, vR y], aq_h m s F c_6)) rfl rfl ?_
          refine am_E.go (t2 := (49, [vR y, vI n, vI t, vI i, vI p, vU], [vI t, vI n, vR y], aq_h m s F c_6)) rfl rfl ?_
          refine am_E.go (t2 := (50, [vR y, vI n, vI t, vI i, vI p, vU], [vI i, vI t, vI n, vR y], aq_h m s F c_6)) rfl rfl ?_
          refine am_E.go (t2 := (51, [vR y, vI n, vI t, vI i, vI p, vU], [vR y, vI i, vI t, vI n, vR y], aq_h m s F c_6)) rfl rfl ?_
          refine aq_gf (v := vR (y + 18)) rfl (by omega) hFo (by decide) rfl ?_
          show am_E _ (54, [vR y, vI n, vI t, vI i, vI p, vU], [vR (y + 18), vI i, vI t, vI n, vR y], aq_h m s F c_6) _
          refine aq_callv (y := 5) (as2 := [vI n, vI t, vI i, vR (y + 18)]) (rest := []) rfl rfl (by decide) (Nat.le_of_ble_eq_true rfl) rfl rfl (Nat.le_of_ble_eq_true rfl) (by omega) hFo rfl (Nat.le_of_ble_eq_true rfl) (qm_lay (y := y) (a := y + 18) (by omega) hFo (by omega) hG18 (n := n) (t := t) (by omega) (by omega) (by omega) (by omega) (Or.inr ⟨by omega, by omega⟩)) ?_
          rintro r5 h5 ⟨c_8, rfl, sc_8, vc_8, rfl, hmc_8, hdc_8⟩
          show am_E _ (57, [vR y, vI n, vI t, vI i, vI p, vU], [vI vc_8], aq_h m s F c_8) _
          have hNb := hv_Nb n t
          refine am_E.go (t2 := (59, [vR y, vI n, vI t, vI i, vI p, vI vc_8], [], aq_h m s F c_8)) rfl rfl ?_
          refine am_E.go (t2 := (60, [vR y, vI n, vI t, vI i, vI p, vI vc_8], [vR y], aq_h m s F c_8)) rfl rfl ?_
          refine aq_gf (v := vR (y + 18)) rfl (by omega) hFo (by decide) rfl ?_
          show am_E _ (63, [vR y, vI n, vI t, vI i, vI p, vI vc_8], [vR (y + 18)], aq_h m s F c_8) _
          refine am_E.go (t2 := (65, [vR y, vI n, vI t, vI i, vI p, vI vc_8], [vI p, vR (y + 18)], aq_h m s F c_8)) rfl rfl ?_
          refine aq_al (ok := fun k => k == 0) (v := vI (c_8 (y + 18) p)) rfl rfl (by omega) hG18 rfl (by omega) (by omega) rfl ?_
          show am_E _ (66, [vR y, vI n, vI t, vI i, vI p, vI vc_8], [vI (c_8 (y + 18) p)], aq_h m s F c_8) _
          refine am_E.ret rfl rfl ?_
          exact ⟨_, rfl, aq_smi (aq_smt (aq_smt (aq_sm0 (c := c) (S := mo_S y)) (aq_smi sc_6 (fun a h => by unfold mo_S; omega))) (aq_smi sc_8 (fun a h => by unfold mo_S; omega))) (fun a h => mo_Sa h), ⟨_, rfl⟩, mo_Ik hI (aq_smt (aq_smt (aq_sm0 (c := c) (S := mo_S y)) (aq_smi sc_6 (fun a h => by unfold mo_S; omega))) (aq_smi sc_8 (fun a h => by unfold mo_S; omega))) (mo_ks (mo_ks (mo_k0 (y := y) (c := c)) sc_6 (by omega)) sc_8 (by omega))⟩
        · refine am_E.go (t2 := (45, [vR y, vI n, vI t, vI i, vI p, vU], [vI (-4)], aq_h m s F c_6)) rfl rfl ?_
          refine am_E.ret rfl rfl ?_
          exact ⟨_, rfl, aq_smi (aq_smt (aq_sm0 (c := c) (S := mo_S y)) (aq_smi sc_6 (fun a h => by unfold mo_S; omega))) (fun a h => mo_Sa h), ⟨_, rfl⟩, mo_Ik hI (aq_smt (aq_sm0 (c := c) (S := mo_S y)) (aq_smi sc_6 (fun a h => by unfold mo_S; omega))) (mo_ks (mo_k0 (y := y) (c := c)) sc_6 (by omega))⟩
      · refine am_E.go (t2 := (27, [vR y, vI n, vI t, vI i, vI p, vU], [vI (-1)], aq_h m s F c)) rfl rfl ?_
        refine am_E.ret rfl rfl ?_
        exact ⟨_, rfl, aq_smi (aq_sm0 (c := c) (S := mo_S y)) (fun a h => mo_Sa h), ⟨_, rfl⟩, mo_Ik hI (aq_sm0 (c := c) (S := mo_S y)) (mo_k0 (y := y) (c := c))⟩

theorem qm_form {m s : Nat} {F : aq_F} {c : aq_C} {y : Nat} (hO : mo_0 m F y) {n t i j : Int} : am_E ac_X5_form (0, [vR y, vI n, vI t, vI i, vI j, vU, vU, vU], [], aq_h m s F c) (aq_Z m s F (mo_S y) c (fun r d => mo_k y c d ∧ (∀ i, d (y + 20) i = c (y + 20) i) ∧ ∃ v, r = some (vI v) ∧ -4 ≤ v ∧ v ≤ 4)) := by
  obtain ⟨hm, hFo, hG5, hG6, hG7, hG8, hG9, hG10, hG11, hG12, hG13, hG14, hG15, hG16, hG17, hG18, hG19, hG20, hG21, hG22, hG23⟩ := hO
  refine am_E.go (t2 := (1, [vR y, vI n, vI t, vI i, vI j, vU, vU, vU], [vI n], aq_h m s F c)) rfl rfl ?_
  refine am_E.go (t2 := (2, [vR y, vI n, vI t, vI i, vI j, vU, vU, vU], [vI t, vI n], aq_h m s F c)) rfl rfl ?_
  refine am_E.call rfl rfl rfl (Nat.le_of_ble_eq_true rfl) (qm_areHalves) ?_
  rintro r5 h5 ⟨rfl, v_1, rfl, hv_1⟩
  show am_E _ (5, [vR y, vI n, vI t, vI i, vI j, vU, vU, vU], [vI v_1], aq_h m s F c) _
  refine ae_if0 rfl (fun (q_2 : v_1 ≠ 0) => ?_) (fun (q_2 : v_1 = 0) => ?_)
  · refine am_E.go (t2 := (11, [vR y, vI n, vI t, vI i, vI j, vU, vU, vU], [vR y], aq_h m s F c)) rfl rfl ?_
    refine am_E.go (t2 := (12, [vR y, vI n, vI t, vI i, vI j, vU, vU, vU], [vI n, vR y], aq_h m s F c)) rfl rfl ?_
    refine am_E.go (t2 := (13, [vR y, vI n, vI t, vI i, vI j, vU, vU, vU], [vI t, vI n, vR y], aq_h m s F c)) rfl rfl ?_
    refine am_E.go (t2 := (14, [vR y, vI n, vI t, vI i, vI j, vU, vU, vU], [vI (-1), vI t, vI n, vR y], aq_h m s F c)) rfl rfl ?_
    refine am_E.go (t2 := (15, [vR y, vI n, vI t, vI i, vI j, vU, vU, vU], [vR y, vI (-1), vI t, vI n, vR y], aq_h m s F c)) rfl rfl ?_
    refine aq_gf (v := vR (y + 18)) rfl (by omega) hFo (by decide) rfl ?_
    show am_E _ (18, [vR y, vI n, vI t, vI i, vI j, vU, vU, vU], [vR (y + 18), vI (-1), vI t, vI n, vR y], aq_h m s F c) _
    refine aq_callv (y := 5) (as2 := [vI n, vI t, vI (-1), vR (y + 18)]) (rest := []) rfl rfl (by decide) (Nat.le_of_ble_eq_true rfl) rfl rfl (Nat.le_of_ble_eq_true rfl) (by omega) hFo rfl (Nat.le_of_ble_eq_true rfl) (qm_lay (y := y) (a := y + 18) (by omega) hFo (by omega) hG18 (n := n) (t := t) (by omega) (by omega) (by omega) (by omega) (Or.inl rfl)) ?_
    rintro r5 h5 ⟨c_3, rfl, sc_3, vc_3, rfl, hmc_3, hdc_3⟩
    show am_E _ (21, [vR y, vI n, vI t, vI i, vI j, vU, vU, vU], [vI vc_3], aq_h m s F c_3) _
    have hm5 := hmc_3 rfl
    have hNb := hv_Nb n t
    refine am_E.go (t2 := (23, [vR y, vI n, vI t, vI i, vI j, vI vc_3, vU, vU], [], aq_h m s F c_3)) rfl rfl ?_
    refine am_E.go (t2 := (24, [vR y, vI n, vI t, vI i, vI j, vI vc_3, vU, vU], [vI i], aq_h m s F c_3)) rfl rfl ?_
    refine am_E.go (t2 := (25, [vR y, vI n, vI t, vI i, vI j, vI vc_3, vU, vU], [vL i], aq_h m s F c_3)) rfl rfl ?_
    refine am_E.go (t2 := (26, [vR y, vI n, vI t, vI i, vI j, vI vc_3, vU, vU], [vL 0, vL i], aq_h m s F c_3)) rfl rfl ?_
    refine am_E.go (t2 := (28, [vR y, vI n, vI t, vI i, vI j, vI vc_3, vU, vU], [vI vc_3, vL 0, vL i], aq_h m s F c_3)) rfl rfl ?_
    refine am_E.go (t2 := (29, [vR y, vI n, vI t, vI i, vI j, vI vc_3, vU, vU], [vI 1, vI vc_3, vL 0, vL i], aq_h m s F c_3)) rfl rfl ?_
    refine ae_sub rfl (am_ri (by omega) (by omega)) ?_
    show am_E _ (30, [vR y, vI n, vI t, vI i, vI j, vI vc_3, vU, vU], [vI (vc_3 - 1), vL 0, vL i], aq_h m s F c_3) _
    refine am_E.go (t2 := (31, [vR y, vI n, vI t, vI i, vI j, vI vc_3, vU, vU], [vL (vc_3 - 1), vL 0, vL i], aq_h m s F c_3)) rfl rfl ?_
    refine am_E.call rfl rfl rfl (Nat.le_of_ble_eq_true rfl) (qm_in) ?_
    rintro r5 h5 ⟨rfl, v_4, rfl, hv_4⟩
    show am_E _ (34, [vR y, vI n, vI t, vI i, vI j, vI vc_3, vU, vU], [vI v_4], aq_h m s F c_3) _
    refine ae_if0 rfl (fun (q_5 : v_4 = 0) => ?_) (fun (q_5 : v_4 ≠ 0) => ?_)
    · refine am_E.go (t2 := (53, [vR y, vI n, vI t, vI i, vI j, vI vc_3, vU, vU], [vI (-1)], aq_h m s F c_3)) rfl rfl ?_
      refine am_E.ret rfl rfl ?_
      exact ⟨_, rfl, aq_smi (aq_smt (aq_sm0 (c := c) (S := (fun a => a = y + 13 ∨ a = y + 18 ∨ a = y + 19))) (aq_smi sc_3 (fun a h => by omega))) (fun a h => by unfold mo_S; omega), mo_ks mo_k0 (aq_smt (aq_sm0 (c := c) (S := (fun a => a = y + 13 ∨ a = y + 18 ∨ a = y + 19))) (aq_smi sc_3 (fun a h => by omega))) (by omega), fun i => (aq_smt (aq_sm0 (c := c) (S := (fun a => a = y + 13 ∨ a = y + 18 ∨ a = y + 19))) (aq_smi sc_3 (fun a h => by omega))) _ (by omega) i, _, rfl, by omega, by omega⟩
    · refine am_E.go (t2 := (39, [vR y, vI n, vI t, vI i, vI j, vI vc_3, vU, vU], [vI j], aq_h m s F c_3)) rfl rfl ?_
      refine am_E.go (t2 := (40, [vR y, vI n, vI t, vI i, vI j, vI vc_3, vU, vU], [vL j], aq_h m s F c_3)) rfl rfl ?_
      refine am_E.go (t2 := (41, [vR y, vI n, vI t, vI i, vI j, vI vc_3, vU, vU], [vL 0, vL j], aq_h m s F c_3)) rfl rfl ?_
      refine am_E.go (t2 := (43, [vR y, vI n, vI t, vI i, vI j, vI vc_3, vU, vU], [vI vc_3, vL 0, vL j], aq_h m s F c_3)) rfl rfl ?_
      refine am_E.go (t2 := (44, [vR y, vI n, vI t, vI i, vI j, vI vc_3, vU, vU], [vI 1, vI vc_3, vL 0, vL j], aq_h m s F c_3)) rfl rfl ?_
      refine ae_sub rfl (am_ri (by omega) (by omega)) ?_
      show am_E _ (45, [vR y, vI n, vI t, vI i, vI j, vI vc_3, vU, vU], [vI (vc_3 - 1), vL 0, vL j], aq_h m s F c_3) _
      refine am_E.go (t2 := (46, [vR y, vI n, vI t, vI i, vI j, vI vc_3, vU, vU], [vL (vc_3 - 1), vL 0, vL j], aq_h m s F c_3)) rfl rfl ?_
      refine am_E.call rfl rfl rfl (Nat.le_of_ble_eq_true rfl) (qm_in) ?_
      rintro r5 h5 ⟨rfl, v_6, rfl, hv_6⟩
      show am_E _ (49, [vR y, vI n, vI t, vI i, vI j, vI vc_3, vU, vU], [vI v_6], aq_h m s F c_3) _
      refine ae_if0 rfl (fun (q_7 : v_6 ≠ 0) => ?_) (fun (q_7 : v_6 = 0) => ?_)
      · refine am_E.go (t2 := (55, [vR y, vI n, vI t, vI i, vI j, vI vc_3, vU, vU], [vR y], aq_h m s F c_3)) rfl rfl ?_
        refine am_E.go (t2 := (56, [vR y, vI n, vI t, vI i, vI j, vI vc_3, vU, vU], [vI n, vR y], aq_h m s F c_3)) rfl rfl ?_
        refine am_E.go (t2 := (57, [vR y, vI n, vI t, vI i, vI j, vI vc_3, vU, vU], [vI t, vI n, vR y], aq_h m s F c_3)) rfl rfl ?_
        refine am_E.go (t2 := (58, [vR y, vI n, vI t, vI i, vI j, vI vc_3, vU, vU], [vI i, vI t, vI n, vR y], aq_h m s F c_3)) rfl rfl ?_
        refine am_E.go (t2 := (59, [vR y, vI n, vI t, vI i, vI j, vI vc_3, vU, vU], [vR y, vI i, vI t, vI n, vR y], aq_h m s F c_3)) rfl rfl ?_
        refine aq_gf (v := vR (y + 18)) rfl (by omega) hFo (by decide) rfl ?_
        show am_E _ (62, [vR y, vI n, vI t, vI i, vI j, vI vc_3, vU, vU], [vR (y + 18), vI i, vI t, vI n, vR y], aq_h m s F c_3) _
        refine aq_callv (y := 5) (as2 := [vI n, vI t, vI i, vR (y + 18)]) (rest := []) rfl rfl (by decide) (Nat.le_of_ble_eq_true rfl) rfl rfl (Nat.le_of_ble_eq_true rfl) (by omega) hFo rfl (Nat.le_of_ble_eq_true rfl) (qm_lay (y := y) (a := y + 18) (by omega) hFo (by omega) hG18 (n := n) (t := t) (by omega) (by omega) (by omega) (by omega) (Or.inr ⟨by omega, by omega⟩)) ?_
        rintro r5 h5 ⟨c_8, rfl, sc_8, vc_8, rfl, hmc_8, hdc_8⟩
        show am_E _ (65, [vR y, vI n, vI t, vI i, vI j, vI vc_3, vU, vU], [vI vc_8], aq_h m s F c_8) _
        have hNb := hv_Nb n t
        refine am_E.go (t2 := (67, [vR y, vI n, vI t, vI i, vI j, vI vc_3, vI vc_8, vU], [], aq_h m s F c_8)) rfl rfl ?_
        refine am_E.go (t2 := (68, [vR y, vI n, vI t, vI i, vI j, vI vc_3, vI vc_8, vU], [vR y], aq_h m s F c_8)) rfl rfl ?_
        refine am_E.go (t2 := (69, [vR y, vI n, vI t, vI i, vI j, vI vc_3, vI vc_8, vU], [vI n, vR y], aq_h m s F c_8)) rfl rfl ?_
        refine am_E.go (t2 := (70, [vR y, vI n, vI t, vI i, vI j, vI vc_3, vI vc_8, vU], [vI t, vI n, vR y], aq_h m s F c_8)) rfl rfl ?_
        refine am_E.go (t2 := (72, [vR y, vI n, vI t, vI i, vI j, vI vc_3, vI vc_8, vU], [vI j, vI t, vI n, vR y], aq_h m s F c_8)) rfl rfl ?_
        refine am_E.go (t2 := (73, [vR y, vI n, vI t, vI i, vI j, vI vc_3, vI vc_8, vU], [vR y, vI j, vI t, vI n, vR y], aq_h m s F c_8)) rfl rfl ?_
        refine aq_gf (v := vR (y + 19)) rfl (by omega) hFo (by decide) rfl ?_
        show am_E _ (76, [vR y, vI n, vI t, vI i, vI j, vI vc_3, vI vc_8, vU], [vR (y + 19), vI j, vI t, vI n, vR y], aq_h m s F c_8) _
        refine aq_callv (y := 5) (as2 := [vI n, vI t, vI j, vR (y + 19)]) (rest := []) rfl rfl (by decide) (Nat.le_of_ble_eq_true rfl) rfl rfl (Nat.le_of_ble_eq_true rfl) (by omega) hFo rfl (Nat.le_of_ble_eq_true rfl) (qm_lay (y := y) (a := y + 19) (by omega) hFo (by omega) hG19 (n := n) (t := t) (by omega) (by omega) (by omega) (by omega) (Or.inr ⟨by omega, by omega⟩)) ?_
        rintro r5 h5 ⟨c_9, rfl, sc_9, vc_9, rfl, hmc_9, hdc_9⟩
        show am_E _ (79, [vR y, vI n, vI t, vI i, vI j, vI vc_3, vI vc_8, vU], [vI vc_9], aq_h m s F c_9) _
        have hNb := hv_Nb n t
        refine am_E.go (t2 := (81, [vR y, vI n, vI t, vI i, vI j, vI vc_3, vI vc_8, vI vc_9], [], aq_h m s F c_9)) rfl rfl ?_
        refine am_E.go (t2 := (82, [vR y, vI n, vI t, vI i, vI j, vI vc_3, vI vc_8, vI vc_9], [vR y], aq_h m s F c_9)) rfl rfl ?_
        refine am_E.go (t2 := (83, [vR y, vI n, vI t, vI i, vI j, vI vc_3, vI vc_8, vI vc_9], [vI n, vR y], aq_h m s F c_9)) rfl rfl ?_
        refine aq_callv (y := 2) (as2 := [vI n]) (rest := []) rfl rfl (by decide) (Nat.le_of_ble_eq_true rfl) rfl rfl (Nat.le_of_ble_eq_true rfl) (by omega) hFo rfl (Nat.le_of_ble_eq_true rfl) (qm_formOf ⟨hm, hFo, hG5, hG6, hG7, hG8, hG9, hG10, hG11, hG12, hG13, hG14, hG15, hG16, hG17, hG18, hG19, hG20, hG21, hG22, hG23⟩ (n := n) (t := t) (i := i) (j := j) (by omega) (by omega) (by omega) (by omega) (by omega) (by omega) (by omega) (by omega) (fun p5 h5 h6 => by rw [sc_9 _ (by omega)]; exact hdc_8 (by omega) p5 h5 h6) (fun p5 h5 h6 => hdc_9 (by omega) p5 h5 h6)) ?_
        rintro r5 h5 ⟨c_f, rfl, s_f, v_f, rfl, hf1, hf2⟩
        show am_E _ (86, [vR y, vI n, vI t, vI i, vI j, vI vc_3, vI vc_8, vI vc_9], [vI v_f], aq_h m s F c_f) _
        refine am_E.ret rfl rfl ?_
        exact ⟨_, rfl, aq_smi (aq_smt (aq_smt (aq_smt (aq_smt (aq_sm0 (c := c) (S := (fun a => a = y + 13 ∨ a = y + 18 ∨ a = y + 19))) (aq_smi sc_3 (fun a h => by omega))) (aq_smi sc_8 (fun a h => by omega))) (aq_smi sc_9 (fun a h => by omega))) (aq_smi s_f (fun a h => by omega))) (fun a h => by unfold mo_S; omega), mo_ks mo_k0 (aq_smt (aq_smt (aq_smt (aq_smt (aq_sm0 (c := c) (S := (fun a => a = y + 13 ∨ a = y + 18 ∨ a = y + 19))) (aq_smi sc_3 (fun a h => by omega))) (aq_smi sc_8 (fun a h => by omega))) (aq_smi sc_9 (fun a h => by omega))) (aq_smi s_f (fun a h => by omega))) (by omega), fun i => (aq_smt (aq_smt (aq_smt (aq_smt (aq_sm0 (c := c) (S := (fun a => a = y + 13 ∨ a = y + 18 ∨ a = y + 19))) (aq_smi sc_3 (fun a h => by omega))) (aq_smi sc_8 (fun a h => by omega))) (aq_smi sc_9 (fun a h => by omega))) (aq_smi s_f (fun a h => by omega))) _ (by omega) i, _, rfl, by omega, by omega⟩
      · refine am_E.go (t2 := (53, [vR y, vI n, vI t, vI i, vI j, vI vc_3, vU, vU], [vI (-1)], aq_h m s F c_3)) rfl rfl ?_
        refine am_E.ret rfl rfl ?_
        exact ⟨_, rfl, aq_smi (aq_smt (aq_sm0 (c := c) (S := (fun a => a = y + 13 ∨ a = y + 18 ∨ a = y + 19))) (aq_smi sc_3 (fun a h => by omega))) (fun a h => by unfold mo_S; omega), mo_ks mo_k0 (aq_smt (aq_sm0 (c := c) (S := (fun a => a = y + 13 ∨ a = y + 18 ∨ a = y + 19))) (aq_smi sc_3 (fun a h => by omega))) (by omega), fun i => (aq_smt (aq_sm0 (c := c) (S := (fun a => a = y + 13 ∨ a = y + 18 ∨ a = y + 19))) (aq_smi sc_3 (fun a h => by omega))) _ (by omega) i, _, rfl, by omega, by omega⟩
  · refine am_E.go (t2 := (9, [vR y, vI n, vI t, vI i, vI j, vU, vU, vU], [vI (-1)], aq_h m s F c)) rfl rfl ?_
    refine am_E.ret rfl rfl ?_
    exact ⟨_, rfl, aq_smi (aq_sm0 (c := c) (S := (fun a => a = y + 13 ∨ a = y + 18 ∨ a = y + 19))) (fun a h => by unfold mo_S; omega), mo_ks mo_k0 (aq_sm0 (c := c) (S := (fun a => a = y + 13 ∨ a = y + 18 ∨ a = y + 19))) (by omega), fun i => (aq_sm0 (c := c) (S := (fun a => a = y + 13 ∨ a = y + 18 ∨ a = y + 19))) _ (by omega) i, _, rfl, by omega, by omega⟩

theorem qm_X5_form {m s : Nat} {F : aq_F} {c : aq_C} {y : Nat} (hC : mo_C m F y) (hI : mo_I y c) {n t i j : Int} : am_E ac_X5_form (0, [vR y, vI n, vI t, vI i, vI j, vU, vU, vU], [], aq_h m s F c) (aq_Z m s F (fun a => y ≤ a ∧ a < y + 24) c (fun r d => aq_vi r ∧ mo_I y d)) :=
  (qm_form hC.1).imp (fun r h2 ⟨d, e1, e2, e3, _, v, e4, _⟩ => ⟨d, e1, aq_smi e2 (fun a h => mo_Sa h), ⟨v, e4⟩, mo_Ik hI e2 e3⟩)

theorem nm_lt {a e : Int} (h0 : 2 ≤ a) (h5 : 2 ≤ e) (h : e * e < a * a) : e < a := by
  by_cases h1 : e < a
  · exact h1
  · exfalso
    have := Int.mul_le_mul (show a ≤ e by omega) (show a ≤ e by omega) (by omega) (by omega)
    omega

theorem qm_isPrime_l {m s : Nat} {F : aq_F} {c : aq_C} {p : Int} (hp0 : 2 ≤ p) (hp1 : p ≤ 997) : ∀ (d : Nat) (is : Int) (d5 : Int) (h0 : 2 ≤ d5) (h1 : d5 ≤ 32) (hi : is = 0 ∨ (is = 1 ∧ ∀ e, 2 ≤ e → e < d5 → p % e ≠ 0)) (hd : 32 - d5 < (d : Int)), am_E ac_X5_isPrime (13, [vI p, vI is, vI d5], [], aq_h m s F c) (aq_P m s F c (fun r => ∃ v, r = some (vI v) ∧ (v = 0 ∨ (v = 1 ∧ nm_P p))))
  | 0, is, d5, h0, h1, hi, hd => by exfalso; omega
  | d + 1, is, d5, h0, h1, hi, hd => by
    have e1 : d5 = 32 → d5 * d5 = 1024 := by intro h; rw [h]; rfl
    have e2 := am_sq h0 h1
    refine am_E.go (t2 := (14, [vI p, vI is, vI d5], [vI d5], aq_h m s F c)) rfl rfl ?_
    refine am_E.go (t2 := (15, [vI p, vI is, vI d5], [vI d5, vI d5], aq_h m s F c)) rfl rfl ?_
    refine ae_mul rfl (am_ri (by omega) (by omega)) ?_
    show am_E _ (16, [vI p, vI is, vI d5], [vI (d5 * d5)], aq_h m s F c) _
    refine am_E.go (t2 := (17, [vI p, vI is, vI d5], [vI p, vI (d5 * d5)], aq_h m s F c)) rfl rfl ?_
    refine ae_icmp rfl (fun (q_1 : p < (d5 * d5)) => ?_) (fun (q_1 : (d5 * d5) ≤ p) => ?_)
    · refine am_E.go (t2 := (43, [vI p, vI is, vI d5], [vI is], aq_h m s F c)) rfl rfl ?_
      refine ae_retb rfl (by omega) ?_
      refine ⟨rfl, _, rfl, ?_⟩
      rcases hi with h | ⟨h, h9⟩
      · exact Or.inl h
      · first | (exfalso; omega) | exact Or.inr ⟨h, fun e h5 h6 => h9 e h5 (nm_lt h0 h5 (by omega))⟩
    · refine am_E.go (t2 := (21, [vI p, vI is, vI d5], [vI is], aq_h m s F c)) rfl rfl ?_
      refine ae_if0 rfl (fun (q_2 : is = 0) => ?_) (fun (q_2 : is ≠ 0) => ?_)
      · refine am_E.go (t2 := (43, [vI p, vI is, vI d5], [vI is], aq_h m s F c)) rfl rfl ?_
        refine ae_retb rfl (by omega) ?_
        refine ⟨rfl, _, rfl, ?_⟩
        rcases hi with h | ⟨h, h9⟩
        · exact Or.inl h
        · first | (exfalso; omega) | exact Or.inr ⟨h, fun e h5 h6 => h9 e h5 (nm_lt h0 h5 (by omega))⟩
      · refine am_E.go (t2 := (25, [vI p, vI is, vI d5], [vI p], aq_h m s F c)) rfl rfl ?_
        refine am_E.go (t2 := (26, [vI p, vI is, vI d5], [vI d5, vI p], aq_h m s F c)) rfl rfl ?_
        refine ae_bin (z := p % d5) rfl rfl (am_rem_e (by omega) (by omega)) ?_
        show am_E _ (27, [vI p, vI is, vI d5], [vI (p % d5)], aq_h m s F c) _
        refine ae_if0 rfl (fun (q_3 : (p % d5) = 0) => ?_) (fun (q_3 : (p % d5) ≠ 0) => ?_)
        · refine am_E.go (t2 := (35, [vI p, vI is, vI d5], [vI 0], aq_h m s F c)) rfl rfl ?_
          refine am_E.go (t2 := (36, [vI p, vI 0, vI d5], [], aq_h m s F c)) rfl rfl ?_
          refine ae_iinc rfl rfl (am_ri (by omega) (by omega)) ?_
          show am_E _ (39, [vI p, vI 0, vI (d5 + 1)], [], aq_h m s F c) _
          refine am_E.go (t2 := (13, [vI p, vI 0, vI (d5 + 1)], [], aq_h m s F c)) rfl rfl ?_
          exact qm_isPrime_l hp0 hp1 d 0 (d5 + 1) (by omega) (by omega) (Or.inl rfl) (by omega)
        · refine am_E.go (t2 := (31, [vI p, vI is, vI d5], [vI 1], aq_h m s F c)) rfl rfl ?_
          refine am_E.go (t2 := (35, [vI p, vI is, vI d5], [vI 1], aq_h m s F c)) rfl rfl ?_
          refine am_E.go (t2 := (36, [vI p, vI 1, vI d5], [], aq_h m s F c)) rfl rfl ?_
          refine ae_iinc rfl rfl (am_ri (by omega) (by omega)) ?_
          show am_E _ (39, [vI p, vI 1, vI (d5 + 1)], [], aq_h m s F c) _
          refine am_E.go (t2 := (13, [vI p, vI 1, vI (d5 + 1)], [], aq_h m s F c)) rfl rfl ?_
          exact qm_isPrime_l hp0 hp1 d 1 (d5 + 1) (by omega) (by omega) (by rcases hi with h | ⟨_, h⟩; exact absurd h (by omega); exact Or.inr ⟨rfl, fun e h5 h6 => by by_cases e9 : e = d5; (rw [e9]; assumption); exact h e h5 (by omega)⟩) (by omega)

theorem qm_isPrime {m s : Nat} {F : aq_F} {c : aq_C} {p : Int} (hp0 : 2 ≤ p) (hp1 : p ≤ 997) : am_E ac_X5_isPrime (0, [vI p, vU, vU], [], aq_h m s F c) (aq_P m s F c (fun r => ∃ v, r = some (vI v) ∧ (v = 0 ∨ (v = 1 ∧ nm_P p)))) := by
  refine am_E.go (t2 := (1, [vI p, vU, vU], [vI p], aq_h m s F c)) rfl rfl ?_
  refine am_E.go (t2 := (2, [vI p, vU, vU], [vI 1, vI p], aq_h m s F c)) rfl rfl ?_
  refine ae_icmp rfl (fun (q_1 : p ≤ 1) => ?_) (fun (q_1 : 1 < p) => ?_)
  · refine am_E.go (t2 := (10, [vI p, vU, vU], [vI 0], aq_h m s F c)) rfl rfl ?_
    refine am_E.go (t2 := (11, [vI p, vI 0, vU], [], aq_h m s F c)) rfl rfl ?_
    refine am_E.go (t2 := (12, [vI p, vI 0, vU], [vI 2], aq_h m s F c)) rfl rfl ?_
    refine am_E.go (t2 := (13, [vI p, vI 0, vI 2], [], aq_h m s F c)) rfl rfl ?_
    exact qm_isPrime_l hp0 hp1 32 0 2 (by omega) (by omega) (Or.inl rfl) (by omega)
  · refine am_E.go (t2 := (6, [vI p, vU, vU], [vI 1], aq_h m s F c)) rfl rfl ?_
    refine am_E.go (t2 := (10, [vI p, vU, vU], [vI 1], aq_h m s F c)) rfl rfl ?_
    refine am_E.go (t2 := (11, [vI p, vI 1, vU], [], aq_h m s F c)) rfl rfl ?_
    refine am_E.go (t2 := (12, [vI p, vI 1, vU], [vI 2], aq_h m s F c)) rfl rfl ?_
    refine am_E.go (t2 := (13, [vI p, vI 1, vI 2], [], aq_h m s F c)) rfl rfl ?_
    exact qm_isPrime_l hp0 hp1 32 1 2 (by omega) (by omega) (Or.inr ⟨rfl, fun e h5 h6 => absurd h6 (by omega)⟩) (by omega)

theorem qm_inverse_l {m s : Nat} {F : aq_F} {c : aq_C} {v p w0 : Int} (hv0 : 1 ≤ v) (hvp : v < p) (hp : p ≤ 997) (hw0 : 1 ≤ w0) (hw1 : w0 < p) (hw : (v * w0) % p = 1) : ∀ (d : Nat) (w : Int) (h0 : 1 ≤ w) (h1 : w ≤ w0) (hd : w0 - w < (d : Int)), am_E ac_X5_inverse (2, [vI v, vI p, vI w], [], aq_h m s F c) (aq_P m s F c (fun r => ∃ w, r = some (vI w) ∧ 1 ≤ w ∧ w < p))
  | 0, w, h0, h1, hd => by exfalso; omega
  | d + 1, w, h0, h1, hd => by
    have e2 := nm_mul (a := v) (b := w) (by omega) (by omega) (by omega) (by omega)
    refine am_E.go (t2 := (3, [vI v, vI p, vI w], [vI v], aq_h m s F c)) rfl rfl ?_
    refine am_E.go (t2 := (4, [vI v, vI p, vI w], [vI w, vI v], aq_h m s F c)) rfl rfl ?_
    refine ae_mul rfl (am_ri (by omega) (by omega)) ?_
    show am_E _ (5, [vI v, vI p, vI w], [vI (v * w)], aq_h m s F c) _
    refine am_E.go (t2 := (6, [vI v, vI p, vI w], [vI p, vI (v * w)], aq_h m s F c)) rfl rfl ?_
    refine ae_bin (z := (v * w) % p) rfl rfl (am_rem_e (by omega) (by omega)) ?_
    show am_E _ (7, [vI v, vI p, vI w], [vI ((v * w) % p)], aq_h m s F c) _
    refine am_E.go (t2 := (8, [vI v, vI p, vI w], [vI 1, vI ((v * w) % p)], aq_h m s F c)) rfl rfl ?_
    refine ae_icmp rfl (fun (q_1 : ((v * w) % p) = 1) => ?_) (fun (q_1 : ((v * w) % p) ≠ 1) => ?_)
    · refine am_E.go (t2 := (18, [vI v, vI p, vI w], [vI w], aq_h m s F c)) rfl rfl ?_
      refine am_E.ret rfl rfl ?_
      exact ⟨rfl, _, rfl, by omega, by omega⟩
    · refine ae_iinc rfl rfl (am_ri (by omega) (by omega)) ?_
      show am_E _ (14, [vI v, vI p, vI (w + 1)], [], aq_h m s F c) _
      refine am_E.go (t2 := (2, [vI v, vI p, vI (w + 1)], [], aq_h m s F c)) rfl rfl ?_
      exact qm_inverse_l hv0 hvp hp hw0 hw1 hw d (w + 1) (by omega) (by by_cases e : w = w0; (subst e; exfalso; omega); omega) (by omega)

theorem qm_inverse {m s : Nat} {F : aq_F} {c : aq_C} {v p : Int} (hv0 : 1 ≤ v) (hvp : v < p) (hp : p ≤ 997) (hP : nm_P p) : am_E ac_X5_inverse (0, [vI v, vI p, vU], [], aq_h m s F c) (aq_P m s F c (fun r => ∃ w, r = some (vI w) ∧ 1 ≤ w ∧ w < p)) := by
  obtain ⟨w0, hw0, hw1, hw⟩ := nm_inv hv0 hvp hP
  refine am_E.go (t2 := (1, [vI v, vI p, vU], [vI 1], aq_h m s F c)) rfl rfl ?_
  refine am_E.go (t2 := (2, [vI v, vI p, vI 1], [], aq_h m s F c)) rfl rfl ?_
  exact qm_inverse_l hv0 hvp hp hw0 hw1 hw 1000 1 (by omega) (by omega) (by omega)

def fr_ (y : Nat) (p mn : Int) (c : aq_C) : Prop := ∀ i j, 0 ≤ i → i < mn → 0 ≤ j → j < mn → 0 ≤ c (y + 20) (6 * i + j) ∧ c (y + 20) (6 * i + j) < p
theorem fr_u {y : Nat} {p mn ix x : Int} {c d : aq_C} (h : fr_ y p mn c) (he : aq_u c (y + 20) ix x = d) (h0 : 0 ≤ x) (h1 : x < p) : fr_ y p mn d := fun i j a1 a2 a3 a4 => by
  rw [← he]
  unfold aq_u
  split
  · exact ⟨h0, h1⟩
  · exact h i j a1 a2 a3 a4
theorem nz_swap {A : Nat} {q cc rk rw_ : Int} {c c1 c2 : aq_C} (h : (q ≤ cc → c A (6 * rw_ + cc) ≠ 0) ∧ (cc < q → c A (6 * rk + cc) ≠ 0)) (hd1 : aq_u c A (6 * rk + q) (c A (6 * rw_ + q)) = c1) (hd2 : aq_u c1 A (6 * rw_ + q) (c A (6 * rk + q)) = c2) (h0 : 0 ≤ q) (h1 : q < 6) (h2 : 0 ≤ cc) (h3 : cc < 6) : (q + 1 ≤ cc → c2 A (6 * rw_ + cc) ≠ 0) ∧ (cc < q + 1 → c2 A (6 * rk + cc) ≠ 0) := by
  subst hd1
  subst hd2
  refine ⟨fun k => ?_, fun k => ?_⟩
  · rw [aq_un (Or.inr (by omega)), aq_un (Or.inr (by omega))]
    exact h.1 (by omega)
  · by_cases e : cc = q
    · subst e
      have h5 := h.1 (by omega)
      by_cases e2 : rk = rw_
      · subst e2
        rw [aq_us]
        exact h5
      · rw [aq_un (Or.inr (by omega)), aq_us]
        exact h5
    · have h5 := h.2 (by omega)
      rw [aq_un (Or.inr (by omega)), aq_un (Or.inr (by omega))]
      exact h5
theorem nm_tm {v p : Int} (hp : 0 < p) : -p < v.tmod p ∧ v.tmod p < p := by
  refine ⟨?_, Int.tmod_lt_of_pos v hp⟩
  have h := Int.tmod_lt_of_pos (-v) hp
  rw [Int.neg_tmod] at h
  omega
theorem nm_em {a p : Int} (hp : 0 < p) : 0 ≤ a % p ∧ a % p < p := ⟨Int.emod_nonneg a (by omega), Int.emod_lt_of_pos a hp⟩

theorem qm_reduce_i {m s : Nat} {F : aq_F} {c0 : aq_C} {y : Nat} (hO : mo_0 m F y) {mn rk rw_ cc p : Int} (hp0 : 2 ≤ p) (hp1 : p ≤ 997) (hmn : mn ≤ 6) (hk0 : 0 ≤ rk) (hk1 : rk < mn) (hw0 : 0 ≤ rw_) (hw1 : rw_ < mn) (hc0 : 0 ≤ cc) (hc1 : cc < mn) (hP : nm_P p) : ∀ (d : Nat) (by_ : Int) (i : Int) (tm : Int) (j : Int) (c : aq_C) (hs : aq_sm (fun a => a = y + 20) c0 c) (h0 : 0 ≤ j) (h1 : j ≤ mn) (h2 : 0 ≤ i) (h3 : i < mn) (h4 : 0 ≤ tm) (h5 : tm < p) (hfr : fr_ y p mn c) (hd : mn - j < (d : Int)) (K0 : ∀ (j2 : Int) (c2 : aq_C) (hs2 : aq_sm (fun a => a = y + 20) c0 c2) (hfr2 : fr_ y p mn c2), am_E ac_X5_reduce (181, [vR y, vI mn, vI rk, vI rw_, vI cc, vI p, vI by_, vI i, vI tm, vI j2], [], aq_h m s F c2) (aq_Z m s F (fun a => a = y + 20) c0 (fun r d => r = none ∧ fr_ y p mn d))), am_E ac_X5_reduce (121, [vR y, vI mn, vI rk, vI rw_, vI cc, vI p, vI by_, vI i, vI tm, vI j], [], aq_h m s F c) (aq_Z m s F (fun a => a = y + 20) c0 (fun r d => r = none ∧ fr_ y p mn d))
  | 0, by_, i, tm, j, c, hs, h0, h1, h2, h3, h4, h5, hfr, hd, K0 => by exfalso; omega
  | d + 1, by_, i, tm, j, c, hs, h0, h1, h2, h3, h4, h5, hfr, hd, K0 => by
    obtain ⟨hm, hFo, hG5, hG6, hG7, hG8, hG9, hG10, hG11, hG12, hG13, hG14, hG15, hG16, hG17, hG18, hG19, hG20, hG21, hG22, hG23⟩ := hO
    refine am_E.go (t2 := (123, [vR y, vI mn, vI rk, vI rw_, vI cc, vI p, vI by_, vI i, vI tm, vI j], [vI j], aq_h m s F c)) rfl rfl ?_
    refine am_E.go (t2 := (124, [vR y, vI mn, vI rk, vI rw_, vI cc, vI p, vI by_, vI i, vI tm, vI j], [vI mn, vI j], aq_h m s F c)) rfl rfl ?_
    refine ae_icmp rfl (fun (q_1 : mn ≤ j) => ?_) (fun (q_1 : j < mn) => ?_)
    · exact K0 j c hs hfr
    · refine am_E.go (t2 := (128, [vR y, vI mn, vI rk, vI rw_, vI cc, vI p, vI by_, vI i, vI tm, vI j], [vR y], aq_h m s F c)) rfl rfl ?_
      refine aq_gf (v := vR (y + 20)) rfl (by omega) hFo (by decide) rfl ?_
      show am_E _ (131, [vR y, vI mn, vI rk, vI rw_, vI cc, vI p, vI by_, vI i, vI tm, vI j], [vR (y + 20)], aq_h m s F c) _
      refine am_E.go (t2 := (133, [vR y, vI mn, vI rk, vI rw_, vI cc, vI p, vI by_, vI i, vI tm, vI j], [vI 6, vR (y + 20)], aq_h m s F c)) rfl rfl ?_
      refine am_E.go (t2 := (135, [vR y, vI mn, vI rk, vI rw_, vI cc, vI p, vI by_, vI i, vI tm, vI j], [vI i, vI 6, vR (y + 20)], aq_h m s F c)) rfl rfl ?_
      refine ae_mul rfl (am_ri (by omega) (by omega)) ?_
      show am_E _ (136, [vR y, vI mn, vI rk, vI rw_, vI cc, vI p, vI by_, vI i, vI tm, vI j], [vI (6 * i), vR (y + 20)], aq_h m s F c) _
      refine am_E.go (t2 := (138, [vR y, vI mn, vI rk, vI rw_, vI cc, vI p, vI by_, vI i, vI tm, vI j], [vI j, vI (6 * i), vR (y + 20)], aq_h m s F c)) rfl rfl ?_
      refine ae_add rfl (am_ri (by omega) (by omega)) ?_
      show am_E _ (139, [vR y, vI mn, vI rk, vI rw_, vI cc, vI p, vI by_, vI i, vI tm, vI j], [vI ((6 * i) + j), vR (y + 20)], aq_h m s F c) _
      refine am_E.go (t2 := (140, [vR y, vI mn, vI rk, vI rw_, vI cc, vI p, vI by_, vI i, vI tm, vI j], [vR y, vI ((6 * i) + j), vR (y + 20)], aq_h m s F c)) rfl rfl ?_
      refine aq_gf (v := vR (y + 20)) rfl (by omega) hFo (by decide) rfl ?_
      show am_E _ (143, [vR y, vI mn, vI rk, vI rw_, vI cc, vI p, vI by_, vI i, vI tm, vI j], [vR (y + 20), vI ((6 * i) + j), vR (y + 20)], aq_h m s F c) _
      refine am_E.go (t2 := (145, [vR y, vI mn, vI rk, vI rw_, vI cc, vI p, vI by_, vI i, vI tm, vI j], [vI 6, vR (y + 20), vI ((6 * i) + j), vR (y + 20)], aq_h m s F c)) rfl rfl ?_
      refine am_E.go (t2 := (147, [vR y, vI mn, vI rk, vI rw_, vI cc, vI p, vI by_, vI i, vI tm, vI j], [vI i, vI 6, vR (y + 20), vI ((6 * i) + j), vR (y + 20)], aq_h m s F c)) rfl rfl ?_
      refine ae_mul rfl (am_ri (by omega) (by omega)) ?_
      show am_E _ (148, [vR y, vI mn, vI rk, vI rw_, vI cc, vI p, vI by_, vI i, vI tm, vI j], [vI (6 * i), vR (y + 20), vI ((6 * i) + j), vR (y + 20)], aq_h m s F c) _
      refine am_E.go (t2 := (150, [vR y, vI mn, vI rk, vI rw_, vI cc, vI p, vI by_, vI i, vI tm, vI j], [vI j, vI (6 * i), vR (y + 20), vI ((6 * i) + j), vR (y + 20)], aq_h m s F c)) rfl rfl ?_
      refine ae_add rfl (am_ri (by omega) (by omega)) ?_
      show am_E _ (151, [vR y, vI mn, vI rk, vI rw_, vI cc, vI p, vI by_, vI i, vI tm, vI j], [vI ((6 * i) + j), vR (y + 20), vI ((6 * i) + j), vR (y + 20)], aq_h m s F c) _
      refine aq_al (ok := fun k => k == 0) (v := vI (c (y + 20) ((6 * i) + j))) rfl rfl (by omega) hG20 rfl (by omega) (by omega) rfl ?_
      show am_E _ (152, [vR y, vI mn, vI rk, vI rw_, vI cc, vI p, vI by_, vI i, vI tm, vI j], [vI (c (y + 20) ((6 * i) + j)), vI ((6 * i) + j), vR (y + 20)], aq_h m s F c) _
      have f_2 := hfr i j (by omega) (by omega) (by omega) (by omega)
      refine am_E.go (t2 := (154, [vR y, vI mn, vI rk, vI rw_, vI cc, vI p, vI by_, vI i, vI tm, vI j], [vI p, vI (c (y + 20) ((6 * i) + j)), vI ((6 * i) + j), vR (y + 20)], aq_h m s F c)) rfl rfl ?_
      refine am_E.go (t2 := (156, [vR y, vI mn, vI rk, vI rw_, vI cc, vI p, vI by_, vI i, vI tm, vI j], [vI tm, vI p, vI (c (y + 20) ((6 * i) + j)), vI ((6 * i) + j), vR (y + 20)], aq_h m s F c)) rfl rfl ?_
      refine ae_sub rfl (am_ri (by omega) (by omega)) ?_
      show am_E _ (157, [vR y, vI mn, vI rk, vI rw_, vI cc, vI p, vI by_, vI i, vI tm, vI j], [vI (p - tm), vI (c (y + 20) ((6 * i) + j)), vI ((6 * i) + j), vR (y + 20)], aq_h m s F c) _
      refine am_E.go (t2 := (158, [vR y, vI mn, vI rk, vI rw_, vI cc, vI p, vI by_, vI i, vI tm, vI j], [vR y, vI (p - tm), vI (c (y + 20) ((6 * i) + j)), vI ((6 * i) + j), vR (y + 20)], aq_h m s F c)) rfl rfl ?_
      refine aq_gf (v := vR (y + 20)) rfl (by omega) hFo (by decide) rfl ?_
      show am_E _ (161, [vR y, vI mn, vI rk, vI rw_, vI cc, vI p, vI by_, vI i, vI tm, vI j], [vR (y + 20), vI (p - tm), vI (c (y + 20) ((6 * i) + j)), vI ((6 * i) + j), vR (y + 20)], aq_h m s F c) _
      refine am_E.go (t2 := (163, [vR y, vI mn, vI rk, vI rw_, vI cc, vI p, vI by_, vI i, vI tm, vI j], [vI 6, vR (y + 20), vI (p - tm), vI (c (y + 20) ((6 * i) + j)), vI ((6 * i) + j), vR (y + 20)], aq_h m s F c)) rfl rfl ?_
      refine am_E.go (t2 := (164, [vR y, vI mn, vI rk, vI rw_, vI cc, vI p, vI by_, vI i, vI tm, vI j], [vI rk, vI 6, vR (y + 20), vI (p - tm), vI (c (y + 20) ((6 * i) + j)), vI ((6 * i) + j), vR (y + 20)], aq_h m s F c)) rfl rfl ?_
      refine ae_mul rfl (am_ri (by omega) (by omega)) ?_
      show am_E _ (165, [vR y, vI mn, vI rk, vI rw_, vI cc, vI p, vI by_, vI i, vI tm, vI j], [vI (6 * rk), vR (y + 20), vI (p - tm), vI (c (y + 20) ((6 * i) + j)), vI ((6 * i) + j), vR (y + 20)], aq_h m s F c) _
      refine am_E.go (t2 := (167, [vR y, vI mn, vI rk, vI rw_, vI cc, vI p, vI by_, vI i, vI tm, vI j], [vI j, vI (6 * rk), vR (y + 20), vI (p - tm), vI (c (y + 20) ((6 * i) + j)), vI ((6 * i) + j), vR (y + 20)], aq_h m s F c)) rfl rfl ?_
      refine ae_add rfl (am_ri (by omega) (by omega)) ?_
      show am_E _ (168, [vR y, vI mn, vI rk, vI rw_, vI cc, vI p, vI by_, vI i, vI tm, vI j], [vI ((6 * rk) + j), vR (y + 20), vI (p - tm), vI (c (y + 20) ((6 * i) + j)), vI ((6 * i) + j), vR (y + 20)], aq_h m s F c) _
      refine aq_al (ok := fun k => k == 0) (v := vI (c (y + 20) ((6 * rk) + j))) rfl rfl (by omega) hG20 rfl (by omega) (by omega) rfl ?_
      show am_E _ (169, [vR y, vI mn, vI rk, vI rw_, vI cc, vI p, vI by_, vI i, vI tm, vI j], [vI (c (y + 20) ((6 * rk) + j)), vI (p - tm), vI (c (y + 20) ((6 * i) + j)), vI ((6 * i) + j), vR (y + 20)], aq_h m s F c) _
      have f_3 := hfr rk j (by omega) (by omega) (by omega) (by omega)
      have u_4 := nm_mul (a := (p - tm)) (b := (c (y + 20) ((6 * rk) + j))) (by omega) (by omega) (by omega) (by omega)
      refine ae_mul rfl (am_ri (by omega) (by omega)) ?_
      show am_E _ (170, [vR y, vI mn, vI rk, vI rw_, vI cc, vI p, vI by_, vI i, vI tm, vI j], [vI ((p - tm) * (c (y + 20) ((6 * rk) + j))), vI (c (y + 20) ((6 * i) + j)), vI ((6 * i) + j), vR (y + 20)], aq_h m s F c) _
      refine ae_add rfl (am_ri (by omega) (by omega)) ?_
      show am_E _ (171, [vR y, vI mn, vI rk, vI rw_, vI cc, vI p, vI by_, vI i, vI tm, vI j], [vI ((c (y + 20) ((6 * i) + j)) + ((p - tm) * (c (y + 20) ((6 * rk) + j)))), vI ((6 * i) + j), vR (y + 20)], aq_h m s F c) _
      refine am_E.go (t2 := (173, [vR y, vI mn, vI rk, vI rw_, vI cc, vI p, vI by_, vI i, vI tm, vI j], [vI p, vI ((c (y + 20) ((6 * i) + j)) + ((p - tm) * (c (y + 20) ((6 * rk) + j)))), vI ((6 * i) + j), vR (y + 20)], aq_h m s F c)) rfl rfl ?_
      have eu_5 := nm_em (a := ((c (y + 20) ((6 * i) + j)) + ((p - tm) * (c (y + 20) ((6 * rk) + j))))) (p := p) (by omega)
      refine ae_bin (z := ((c (y + 20) ((6 * i) + j)) + ((p - tm) * (c (y + 20) ((6 * rk) + j)))) % p) rfl rfl (am_rem_e (by omega) (by omega)) ?_
      generalize ((c (y + 20) ((6 * i) + j)) + ((p - tm) * (c (y + 20) ((6 * rk) + j)))) % p = u_5 at eu_5 ⊢
      refine aq_as (kd := 0) rfl rfl (by omega) hG20 (by omega) (by omega) rfl rfl ?_
      show am_E _ (175, [vR y, vI mn, vI rk, vI rw_, vI cc, vI p, vI by_, vI i, vI tm, vI j], [], aq_h m s F (aq_u c (y + 20) ((6 * i) + j) u_5)) _
      generalize hdc_6 : aq_u c (y + 20) ((6 * i) + j) u_5 = c_6
      have sc_6 := aq_smu hs hdc_6 rfl
      have hfrc_6 := fr_u hfr hdc_6 (by omega) (by omega)
      refine ae_iinc rfl rfl (am_ri (by omega) (by omega)) ?_
      show am_E _ (178, [vR y, vI mn, vI rk, vI rw_, vI cc, vI p, vI by_, vI i, vI tm, vI (j + 1)], [], aq_h m s F c_6) _
      refine am_E.go (t2 := (121, [vR y, vI mn, vI rk, vI rw_, vI cc, vI p, vI by_, vI i, vI tm, vI (j + 1)], [], aq_h m s F c_6)) rfl rfl ?_
      exact qm_reduce_i ⟨hm, hFo, hG5, hG6, hG7, hG8, hG9, hG10, hG11, hG12, hG13, hG14, hG15, hG16, hG17, hG18, hG19, hG20, hG21, hG22, hG23⟩ hp0 hp1 hmn hk0 hk1 hw0 hw1 hc0 hc1 hP d by_ i tm (j + 1) c_6 sc_6 (by omega) (by omega) (by omega) (by omega) (by omega) (by omega) hfrc_6 (by omega) K0

theorem qm_reduce_o {m s : Nat} {F : aq_F} {c0 : aq_C} {y : Nat} (hO : mo_0 m F y) {mn rk rw_ cc p : Int} (hp0 : 2 ≤ p) (hp1 : p ≤ 997) (hmn : mn ≤ 6) (hk0 : 0 ≤ rk) (hk1 : rk < mn) (hw0 : 0 ≤ rw_) (hw1 : rw_ < mn) (hc0 : 0 ≤ cc) (hc1 : cc < mn) (hP : nm_P p) : ∀ (d : Nat) (by_ : Int) (i : Int) (v8 : am_V) (v9 : am_V) (c : aq_C) (hs : aq_sm (fun a => a = y + 20) c0 c) (h0 : 0 ≤ i) (h1 : i ≤ mn) (h2 : 1 ≤ by_) (h3 : by_ < p) (hfr : fr_ y p mn c) (hd : mn - i < (d : Int)), am_E ac_X5_reduce (91, [vR y, vI mn, vI rk, vI rw_, vI cc, vI p, vI by_, vI i, v8, v9], [], aq_h m s F c) (aq_Z m s F (fun a => a = y + 20) c0 (fun r d => r = none ∧ fr_ y p mn d))
  | 0, by_, i, v8, v9, c, hs, h0, h1, h2, h3, hfr, hd => by exfalso; omega
  | d + 1, by_, i, v8, v9, c, hs, h0, h1, h2, h3, hfr, hd => by
    obtain ⟨hm, hFo, hG5, hG6, hG7, hG8, hG9, hG10, hG11, hG12, hG13, hG14, hG15, hG16, hG17, hG18, hG19, hG20, hG21, hG22, hG23⟩ := hO
    refine am_E.go (t2 := (93, [vR y, vI mn, vI rk, vI rw_, vI cc, vI p, vI by_, vI i, v8, v9], [vI i], aq_h m s F c)) rfl rfl ?_
    refine am_E.go (t2 := (94, [vR y, vI mn, vI rk, vI rw_, vI cc, vI p, vI by_, vI i, v8, v9], [vI mn, vI i], aq_h m s F c)) rfl rfl ?_
    refine ae_icmp rfl (fun (q_1 : mn ≤ i) => ?_) (fun (q_1 : i < mn) => ?_)
    · refine am_E.ret rfl rfl ?_
      exact ⟨_, rfl, hs, rfl, hfr⟩
    · refine am_E.go (t2 := (98, [vR y, vI mn, vI rk, vI rw_, vI cc, vI p, vI by_, vI i, v8, v9], [vR y], aq_h m s F c)) rfl rfl ?_
      refine aq_gf (v := vR (y + 20)) rfl (by omega) hFo (by decide) rfl ?_
      show am_E _ (101, [vR y, vI mn, vI rk, vI rw_, vI cc, vI p, vI by_, vI i, v8, v9], [vR (y + 20)], aq_h m s F c) _
      refine am_E.go (t2 := (103, [vR y, vI mn, vI rk, vI rw_, vI cc, vI p, vI by_, vI i, v8, v9], [vI 6, vR (y + 20)], aq_h m s F c)) rfl rfl ?_
      refine am_E.go (t2 := (105, [vR y, vI mn, vI rk, vI rw_, vI cc, vI p, vI by_, vI i, v8, v9], [vI i, vI 6, vR (y + 20)], aq_h m s F c)) rfl rfl ?_
      refine ae_mul rfl (am_ri (by omega) (by omega)) ?_
      show am_E _ (106, [vR y, vI mn, vI rk, vI rw_, vI cc, vI p, vI by_, vI i, v8, v9], [vI (6 * i), vR (y + 20)], aq_h m s F c) _
      refine am_E.go (t2 := (108, [vR y, vI mn, vI rk, vI rw_, vI cc, vI p, vI by_, vI i, v8, v9], [vI cc, vI (6 * i), vR (y + 20)], aq_h m s F c)) rfl rfl ?_
      refine ae_add rfl (am_ri (by omega) (by omega)) ?_
      show am_E _ (109, [vR y, vI mn, vI rk, vI rw_, vI cc, vI p, vI by_, vI i, v8, v9], [vI ((6 * i) + cc), vR (y + 20)], aq_h m s F c) _
      refine aq_al (ok := fun k => k == 0) (v := vI (c (y + 20) ((6 * i) + cc))) rfl rfl (by omega) hG20 rfl (by omega) (by omega) rfl ?_
      show am_E _ (110, [vR y, vI mn, vI rk, vI rw_, vI cc, vI p, vI by_, vI i, v8, v9], [vI (c (y + 20) ((6 * i) + cc))], aq_h m s F c) _
      have f_2 := hfr i cc (by omega) (by omega) (by omega) (by omega)
      refine am_E.go (t2 := (112, [vR y, vI mn, vI rk, vI rw_, vI cc, vI p, vI by_, vI i, v8, v9], [vI by_, vI (c (y + 20) ((6 * i) + cc))], aq_h m s F c)) rfl rfl ?_
      have u_3 := nm_mul (a := (c (y + 20) ((6 * i) + cc))) (b := by_) (by omega) (by omega) (by omega) (by omega)
      refine ae_mul rfl (am_ri (by omega) (by omega)) ?_
      show am_E _ (113, [vR y, vI mn, vI rk, vI rw_, vI cc, vI p, vI by_, vI i, v8, v9], [vI ((c (y + 20) ((6 * i) + cc)) * by_)], aq_h m s F c) _
      refine am_E.go (t2 := (115, [vR y, vI mn, vI rk, vI rw_, vI cc, vI p, vI by_, vI i, v8, v9], [vI p, vI ((c (y + 20) ((6 * i) + cc)) * by_)], aq_h m s F c)) rfl rfl ?_
      have eu_4 := nm_em (a := ((c (y + 20) ((6 * i) + cc)) * by_)) (p := p) (by omega)
      refine ae_bin (z := ((c (y + 20) ((6 * i) + cc)) * by_) % p) rfl rfl (am_rem_e (by omega) (by omega)) ?_
      generalize ((c (y + 20) ((6 * i) + cc)) * by_) % p = u_4 at eu_4 ⊢
      refine am_E.go (t2 := (118, [vR y, vI mn, vI rk, vI rw_, vI cc, vI p, vI by_, vI i, vI u_4, v9], [], aq_h m s F c)) rfl rfl ?_
      refine am_E.go (t2 := (119, [vR y, vI mn, vI rk, vI rw_, vI cc, vI p, vI by_, vI i, vI u_4, v9], [vI 0], aq_h m s F c)) rfl rfl ?_
      refine am_E.go (t2 := (121, [vR y, vI mn, vI rk, vI rw_, vI cc, vI p, vI by_, vI i, vI u_4, vI 0], [], aq_h m s F c)) rfl rfl ?_
      refine qm_reduce_i ⟨hm, hFo, hG5, hG6, hG7, hG8, hG9, hG10, hG11, hG12, hG13, hG14, hG15, hG16, hG17, hG18, hG19, hG20, hG21, hG22, hG23⟩ hp0 hp1 hmn hk0 hk1 hw0 hw1 hc0 hc1 hP 8 by_ i u_4 0 c hs (by omega) (by omega) (by omega) (by omega) (by omega) (by omega) hfr (by omega) ?_
      · intro j2_121 c_5 sc_5 hfr2_121
        refine ae_iinc rfl rfl (am_ri (by omega) (by omega)) ?_
        show am_E _ (184, [vR y, vI mn, vI rk, vI rw_, vI cc, vI p, vI by_, vI (i + 1), vI u_4, vI j2_121], [], aq_h m s F c_5) _
        refine am_E.go (t2 := (91, [vR y, vI mn, vI rk, vI rw_, vI cc, vI p, vI by_, vI (i + 1), vI u_4, vI j2_121], [], aq_h m s F c_5)) rfl rfl ?_
        exact qm_reduce_o ⟨hm, hFo, hG5, hG6, hG7, hG8, hG9, hG10, hG11, hG12, hG13, hG14, hG15, hG16, hG17, hG18, hG19, hG20, hG21, hG22, hG23⟩ hp0 hp1 hmn hk0 hk1 hw0 hw1 hc0 hc1 hP d by_ (i + 1) (vI u_4) (vI j2_121) c_5 sc_5 (by omega) (by omega) (by omega) (by omega) hfr2_121 (by omega)

theorem qm_reduce_s {m s : Nat} {F : aq_F} {c0 : aq_C} {y : Nat} (hO : mo_0 m F y) {mn rk rw_ cc p : Int} (hp0 : 2 ≤ p) (hp1 : p ≤ 997) (hmn : mn ≤ 6) (hk0 : 0 ≤ rk) (hk1 : rk < mn) (hw0 : 0 ≤ rw_) (hw1 : rw_ < mn) (hc0 : 0 ≤ cc) (hc1 : cc < mn) (hP : nm_P p) : ∀ (d : Nat) (q : Int) (v7 : am_V) (v8 : am_V) (v9 : am_V) (c : aq_C) (hs : aq_sm (fun a => a = y + 20) c0 c) (h0 : 0 ≤ q) (h1 : q ≤ mn) (hnz : (q ≤ cc → c (y + 20) (6 * rw_ + cc) ≠ 0) ∧ (cc < q → c (y + 20) (6 * rk + cc) ≠ 0)) (hfr : fr_ y p mn c) (hd : mn - q < (d : Int)), am_E ac_X5_reduce (3, [vR y, vI mn, vI rk, vI rw_, vI cc, vI p, vI q, v7, v8, v9], [], aq_h m s F c) (aq_Z m s F (fun a => a = y + 20) c0 (fun r d => r = none ∧ fr_ y p mn d))
  | 0, q, v7, v8, v9, c, hs, h0, h1, hnz, hfr, hd => by exfalso; omega
  | d + 1, q, v7, v8, v9, c, hs, h0, h1, hnz, hfr, hd => by
    obtain ⟨hm, hFo, hG5, hG6, hG7, hG8, hG9, hG10, hG11, hG12, hG13, hG14, hG15, hG16, hG17, hG18, hG19, hG20, hG21, hG22, hG23⟩ := hO
    refine am_E.go (t2 := (5, [vR y, vI mn, vI rk, vI rw_, vI cc, vI p, vI q, v7, v8, v9], [vI q], aq_h m s F c)) rfl rfl ?_
    refine am_E.go (t2 := (6, [vR y, vI mn, vI rk, vI rw_, vI cc, vI p, vI q, v7, v8, v9], [vI mn, vI q], aq_h m s F c)) rfl rfl ?_
    refine ae_icmp rfl (fun (q_1 : mn ≤ q) => ?_) (fun (q_1 : q < mn) => ?_)
    · refine am_E.go (t2 := (68, [vR y, vI mn, vI rk, vI rw_, vI cc, vI p, vI q, v7, v8, v9], [vR y], aq_h m s F c)) rfl rfl ?_
      refine aq_gf (v := vR (y + 20)) rfl (by omega) hFo (by decide) rfl ?_
      show am_E _ (71, [vR y, vI mn, vI rk, vI rw_, vI cc, vI p, vI q, v7, v8, v9], [vR (y + 20)], aq_h m s F c) _
      refine am_E.go (t2 := (73, [vR y, vI mn, vI rk, vI rw_, vI cc, vI p, vI q, v7, v8, v9], [vI 6, vR (y + 20)], aq_h m s F c)) rfl rfl ?_
      refine am_E.go (t2 := (74, [vR y, vI mn, vI rk, vI rw_, vI cc, vI p, vI q, v7, v8, v9], [vI rk, vI 6, vR (y + 20)], aq_h m s F c)) rfl rfl ?_
      refine ae_mul rfl (am_ri (by omega) (by omega)) ?_
      show am_E _ (75, [vR y, vI mn, vI rk, vI rw_, vI cc, vI p, vI q, v7, v8, v9], [vI (6 * rk), vR (y + 20)], aq_h m s F c) _
      refine am_E.go (t2 := (77, [vR y, vI mn, vI rk, vI rw_, vI cc, vI p, vI q, v7, v8, v9], [vI cc, vI (6 * rk), vR (y + 20)], aq_h m s F c)) rfl rfl ?_
      refine ae_add rfl (am_ri (by omega) (by omega)) ?_
      show am_E _ (78, [vR y, vI mn, vI rk, vI rw_, vI cc, vI p, vI q, v7, v8, v9], [vI ((6 * rk) + cc), vR (y + 20)], aq_h m s F c) _
      refine aq_al (ok := fun k => k == 0) (v := vI (c (y + 20) ((6 * rk) + cc))) rfl rfl (by omega) hG20 rfl (by omega) (by omega) rfl ?_
      show am_E _ (79, [vR y, vI mn, vI rk, vI rw_, vI cc, vI p, vI q, v7, v8, v9], [vI (c (y + 20) ((6 * rk) + cc))], aq_h m s F c) _
      have f_2 := hfr rk cc (by omega) (by omega) (by omega) (by omega)
      refine am_E.go (t2 := (81, [vR y, vI mn, vI rk, vI rw_, vI cc, vI p, vI q, v7, v8, v9], [vI p, vI (c (y + 20) ((6 * rk) + cc))], aq_h m s F c)) rfl rfl ?_
      refine am_E.call rfl rfl rfl (Nat.le_of_ble_eq_true rfl) (qm_inverse (by have := hnz.2 (by omega); omega) (by omega) (by omega) hP) ?_
      rintro r5 h5 ⟨rfl, by_, rfl, hby0, hby1⟩
      show am_E _ (84, [vR y, vI mn, vI rk, vI rw_, vI cc, vI p, vI q, v7, v8, v9], [vI by_], aq_h m s F c) _
      refine am_E.go (t2 := (86, [vR y, vI mn, vI rk, vI rw_, vI cc, vI p, vI by_, v7, v8, v9], [], aq_h m s F c)) rfl rfl ?_
      refine am_E.go (t2 := (87, [vR y, vI mn, vI rk, vI rw_, vI cc, vI p, vI by_, v7, v8, v9], [vI rk], aq_h m s F c)) rfl rfl ?_
      refine am_E.go (t2 := (88, [vR y, vI mn, vI rk, vI rw_, vI cc, vI p, vI by_, v7, v8, v9], [vI 1, vI rk], aq_h m s F c)) rfl rfl ?_
      refine ae_add rfl (am_ri (by omega) (by omega)) ?_
      show am_E _ (89, [vR y, vI mn, vI rk, vI rw_, vI cc, vI p, vI by_, v7, v8, v9], [vI (rk + 1)], aq_h m s F c) _
      refine am_E.go (t2 := (91, [vR y, vI mn, vI rk, vI rw_, vI cc, vI p, vI by_, vI (rk + 1), v8, v9], [], aq_h m s F c)) rfl rfl ?_
      exact qm_reduce_o ⟨hm, hFo, hG5, hG6, hG7, hG8, hG9, hG10, hG11, hG12, hG13, hG14, hG15, hG16, hG17, hG18, hG19, hG20, hG21, hG22, hG23⟩ hp0 hp1 hmn hk0 hk1 hw0 hw1 hc0 hc1 hP 8 by_ (rk + 1) (v8) (v9) c hs (by omega) (by omega) (by omega) (by omega) hfr (by omega)
    · refine am_E.go (t2 := (10, [vR y, vI mn, vI rk, vI rw_, vI cc, vI p, vI q, v7, v8, v9], [vR y], aq_h m s F c)) rfl rfl ?_
      refine aq_gf (v := vR (y + 20)) rfl (by omega) hFo (by decide) rfl ?_
      show am_E _ (13, [vR y, vI mn, vI rk, vI rw_, vI cc, vI p, vI q, v7, v8, v9], [vR (y + 20)], aq_h m s F c) _
      refine am_E.go (t2 := (15, [vR y, vI mn, vI rk, vI rw_, vI cc, vI p, vI q, v7, v8, v9], [vI 6, vR (y + 20)], aq_h m s F c)) rfl rfl ?_
      refine am_E.go (t2 := (16, [vR y, vI mn, vI rk, vI rw_, vI cc, vI p, vI q, v7, v8, v9], [vI rk, vI 6, vR (y + 20)], aq_h m s F c)) rfl rfl ?_
      refine ae_mul rfl (am_ri (by omega) (by omega)) ?_
      show am_E _ (17, [vR y, vI mn, vI rk, vI rw_, vI cc, vI p, vI q, v7, v8, v9], [vI (6 * rk), vR (y + 20)], aq_h m s F c) _
      refine am_E.go (t2 := (19, [vR y, vI mn, vI rk, vI rw_, vI cc, vI p, vI q, v7, v8, v9], [vI q, vI (6 * rk), vR (y + 20)], aq_h m s F c)) rfl rfl ?_
      refine ae_add rfl (am_ri (by omega) (by omega)) ?_
      show am_E _ (20, [vR y, vI mn, vI rk, vI rw_, vI cc, vI p, vI q, v7, v8, v9], [vI ((6 * rk) + q), vR (y + 20)], aq_h m s F c) _
      refine aq_al (ok := fun k => k == 0) (v := vI (c (y + 20) ((6 * rk) + q))) rfl rfl (by omega) hG20 rfl (by omega) (by omega) rfl ?_
      show am_E _ (21, [vR y, vI mn, vI rk, vI rw_, vI cc, vI p, vI q, v7, v8, v9], [vI (c (y + 20) ((6 * rk) + q))], aq_h m s F c) _
      have f_3 := hfr rk q (by omega) (by omega) (by omega) (by omega)
      refine am_E.go (t2 := (23, [vR y, vI mn, vI rk, vI rw_, vI cc, vI p, vI q, vI (c (y + 20) ((6 * rk) + q)), v8, v9], [], aq_h m s F c)) rfl rfl ?_
      refine am_E.go (t2 := (24, [vR y, vI mn, vI rk, vI rw_, vI cc, vI p, vI q, vI (c (y + 20) ((6 * rk) + q)), v8, v9], [vR y], aq_h m s F c)) rfl rfl ?_
      refine aq_gf (v := vR (y + 20)) rfl (by omega) hFo (by decide) rfl ?_
      show am_E _ (27, [vR y, vI mn, vI rk, vI rw_, vI cc, vI p, vI q, vI (c (y + 20) ((6 * rk) + q)), v8, v9], [vR (y + 20)], aq_h m s F c) _
      refine am_E.go (t2 := (29, [vR y, vI mn, vI rk, vI rw_, vI cc, vI p, vI q, vI (c (y + 20) ((6 * rk) + q)), v8, v9], [vI 6, vR (y + 20)], aq_h m s F c)) rfl rfl ?_
      refine am_E.go (t2 := (30, [vR y, vI mn, vI rk, vI rw_, vI cc, vI p, vI q, vI (c (y + 20) ((6 * rk) + q)), v8, v9], [vI rk, vI 6, vR (y + 20)], aq_h m s F c)) rfl rfl ?_
      refine ae_mul rfl (am_ri (by omega) (by omega)) ?_
      show am_E _ (31, [vR y, vI mn, vI rk, vI rw_, vI cc, vI p, vI q, vI (c (y + 20) ((6 * rk) + q)), v8, v9], [vI (6 * rk), vR (y + 20)], aq_h m s F c) _
      refine am_E.go (t2 := (33, [vR y, vI mn, vI rk, vI rw_, vI cc, vI p, vI q, vI (c (y + 20) ((6 * rk) + q)), v8, v9], [vI q, vI (6 * rk), vR (y + 20)], aq_h m s F c)) rfl rfl ?_
      refine ae_add rfl (am_ri (by omega) (by omega)) ?_
      show am_E _ (34, [vR y, vI mn, vI rk, vI rw_, vI cc, vI p, vI q, vI (c (y + 20) ((6 * rk) + q)), v8, v9], [vI ((6 * rk) + q), vR (y + 20)], aq_h m s F c) _
      refine am_E.go (t2 := (35, [vR y, vI mn, vI rk, vI rw_, vI cc, vI p, vI q, vI (c (y + 20) ((6 * rk) + q)), v8, v9], [vR y, vI ((6 * rk) + q), vR (y + 20)], aq_h m s F c)) rfl rfl ?_
      refine aq_gf (v := vR (y + 20)) rfl (by omega) hFo (by decide) rfl ?_
      show am_E _ (38, [vR y, vI mn, vI rk, vI rw_, vI cc, vI p, vI q, vI (c (y + 20) ((6 * rk) + q)), v8, v9], [vR (y + 20), vI ((6 * rk) + q), vR (y + 20)], aq_h m s F c) _
      refine am_E.go (t2 := (40, [vR y, vI mn, vI rk, vI rw_, vI cc, vI p, vI q, vI (c (y + 20) ((6 * rk) + q)), v8, v9], [vI 6, vR (y + 20), vI ((6 * rk) + q), vR (y + 20)], aq_h m s F c)) rfl rfl ?_
      refine am_E.go (t2 := (41, [vR y, vI mn, vI rk, vI rw_, vI cc, vI p, vI q, vI (c (y + 20) ((6 * rk) + q)), v8, v9], [vI rw_, vI 6, vR (y + 20), vI ((6 * rk) + q), vR (y + 20)], aq_h m s F c)) rfl rfl ?_
      refine ae_mul rfl (am_ri (by omega) (by omega)) ?_
      show am_E _ (42, [vR y, vI mn, vI rk, vI rw_, vI cc, vI p, vI q, vI (c (y + 20) ((6 * rk) + q)), v8, v9], [vI (6 * rw_), vR (y + 20), vI ((6 * rk) + q), vR (y + 20)], aq_h m s F c) _
      refine am_E.go (t2 := (44, [vR y, vI mn, vI rk, vI rw_, vI cc, vI p, vI q, vI (c (y + 20) ((6 * rk) + q)), v8, v9], [vI q, vI (6 * rw_), vR (y + 20), vI ((6 * rk) + q), vR (y + 20)], aq_h m s F c)) rfl rfl ?_
      refine ae_add rfl (am_ri (by omega) (by omega)) ?_
      show am_E _ (45, [vR y, vI mn, vI rk, vI rw_, vI cc, vI p, vI q, vI (c (y + 20) ((6 * rk) + q)), v8, v9], [vI ((6 * rw_) + q), vR (y + 20), vI ((6 * rk) + q), vR (y + 20)], aq_h m s F c) _
      refine aq_al (ok := fun k => k == 0) (v := vI (c (y + 20) ((6 * rw_) + q))) rfl rfl (by omega) hG20 rfl (by omega) (by omega) rfl ?_
      show am_E _ (46, [vR y, vI mn, vI rk, vI rw_, vI cc, vI p, vI q, vI (c (y + 20) ((6 * rk) + q)), v8, v9], [vI (c (y + 20) ((6 * rw_) + q)), vI ((6 * rk) + q), vR (y + 20)], aq_h m s F c) _
      have f_4 := hfr rw_ q (by omega) (by omega) (by omega) (by omega)
      refine aq_as (kd := 0) rfl rfl (by omega) hG20 (by omega) (by omega) rfl rfl ?_
      show am_E _ (47, [vR y, vI mn, vI rk, vI rw_, vI cc, vI p, vI q, vI (c (y + 20) ((6 * rk) + q)), v8, v9], [], aq_h m s F (aq_u c (y + 20) ((6 * rk) + q) (c (y + 20) ((6 * rw_) + q)))) _
      generalize hdc_5 : aq_u c (y + 20) ((6 * rk) + q) (c (y + 20) ((6 * rw_) + q)) = c_5
      have sc_5 := aq_smu hs hdc_5 rfl
      have hfrc_5 := fr_u hfr hdc_5 (by omega) (by omega)
      refine am_E.go (t2 := (48, [vR y, vI mn, vI rk, vI rw_, vI cc, vI p, vI q, vI (c (y + 20) ((6 * rk) + q)), v8, v9], [vR y], aq_h m s F c_5)) rfl rfl ?_
      refine aq_gf (v := vR (y + 20)) rfl (by omega) hFo (by decide) rfl ?_
      show am_E _ (51, [vR y, vI mn, vI rk, vI rw_, vI cc, vI p, vI q, vI (c (y + 20) ((6 * rk) + q)), v8, v9], [vR (y + 20)], aq_h m s F c_5) _
      refine am_E.go (t2 := (53, [vR y, vI mn, vI rk, vI rw_, vI cc, vI p, vI q, vI (c (y + 20) ((6 * rk) + q)), v8, v9], [vI 6, vR (y + 20)], aq_h m s F c_5)) rfl rfl ?_
      refine am_E.go (t2 := (54, [vR y, vI mn, vI rk, vI rw_, vI cc, vI p, vI q, vI (c (y + 20) ((6 * rk) + q)), v8, v9], [vI rw_, vI 6, vR (y + 20)], aq_h m s F c_5)) rfl rfl ?_
      refine ae_mul rfl (am_ri (by omega) (by omega)) ?_
      show am_E _ (55, [vR y, vI mn, vI rk, vI rw_, vI cc, vI p, vI q, vI (c (y + 20) ((6 * rk) + q)), v8, v9], [vI (6 * rw_), vR (y + 20)], aq_h m s F c_5) _
      refine am_E.go (t2 := (57, [vR y, vI mn, vI rk, vI rw_, vI cc, vI p, vI q, vI (c (y + 20) ((6 * rk) + q)), v8, v9], [vI q, vI (6 * rw_), vR (y + 20)], aq_h m s F c_5)) rfl rfl ?_
      refine ae_add rfl (am_ri (by omega) (by omega)) ?_
      show am_E _ (58, [vR y, vI mn, vI rk, vI rw_, vI cc, vI p, vI q, vI (c (y + 20) ((6 * rk) + q)), v8, v9], [vI ((6 * rw_) + q), vR (y + 20)], aq_h m s F c_5) _
      refine am_E.go (t2 := (60, [vR y, vI mn, vI rk, vI rw_, vI cc, vI p, vI q, vI (c (y + 20) ((6 * rk) + q)), v8, v9], [vI (c (y + 20) ((6 * rk) + q)), vI ((6 * rw_) + q), vR (y + 20)], aq_h m s F c_5)) rfl rfl ?_
      refine aq_as (kd := 0) rfl rfl (by omega) hG20 (by omega) (by omega) rfl rfl ?_
      show am_E _ (61, [vR y, vI mn, vI rk, vI rw_, vI cc, vI p, vI q, vI (c (y + 20) ((6 * rk) + q)), v8, v9], [], aq_h m s F (aq_u c_5 (y + 20) ((6 * rw_) + q) (c (y + 20) ((6 * rk) + q)))) _
      generalize hdc_6 : aq_u c_5 (y + 20) ((6 * rw_) + q) (c (y + 20) ((6 * rk) + q)) = c_6
      have sc_6 := aq_smu sc_5 hdc_6 rfl
      have hfrc_6 := fr_u hfrc_5 hdc_6 (by omega) (by omega)
      refine ae_iinc rfl rfl (am_ri (by omega) (by omega)) ?_
      show am_E _ (64, [vR y, vI mn, vI rk, vI rw_, vI cc, vI p, vI (q + 1), vI (c (y + 20) ((6 * rk) + q)), v8, v9], [], aq_h m s F c_6) _
      refine am_E.go (t2 := (3, [vR y, vI mn, vI rk, vI rw_, vI cc, vI p, vI (q + 1), vI (c (y + 20) ((6 * rk) + q)), v8, v9], [], aq_h m s F c_6)) rfl rfl ?_
      exact qm_reduce_s ⟨hm, hFo, hG5, hG6, hG7, hG8, hG9, hG10, hG11, hG12, hG13, hG14, hG15, hG16, hG17, hG18, hG19, hG20, hG21, hG22, hG23⟩ hp0 hp1 hmn hk0 hk1 hw0 hw1 hc0 hc1 hP d (q + 1) (vI (c (y + 20) ((6 * rk) + q))) (v8) (v9) c_6 sc_6 (by omega) (by omega) (nz_swap hnz hdc_5 hdc_6 (by omega) (by omega) (by omega) (by omega)) hfrc_6 (by omega)

theorem qm_reduce {m s : Nat} {F : aq_F} {c : aq_C} {y : Nat} (hO : mo_0 m F y) {mn rk rw_ cc p : Int} (hp0 : 2 ≤ p) (hp1 : p ≤ 997) (hmn : mn ≤ 6) (hk0 : 0 ≤ rk) (hk1 : rk < mn) (hw0 : 0 ≤ rw_) (hw1 : rw_ < mn) (hc0 : 0 ≤ cc) (hc1 : cc < mn) (hP : nm_P p) (hfr : fr_ y p mn c) (hnz0 : c (y + 20) (6 * rw_ + cc) ≠ 0) : am_E ac_X5_reduce (0, [vR y, vI mn, vI rk, vI rw_, vI cc, vI p, vU, vU, vU, vU], [], aq_h m s F c) (aq_Z m s F (fun a => a = y + 20) c (fun r d => r = none ∧ fr_ y p mn d)) := by
  obtain ⟨hm, hFo, hG5, hG6, hG7, hG8, hG9, hG10, hG11, hG12, hG13, hG14, hG15, hG16, hG17, hG18, hG19, hG20, hG21, hG22, hG23⟩ := hO
  refine am_E.go (t2 := (1, [vR y, vI mn, vI rk, vI rw_, vI cc, vI p, vU, vU, vU, vU], [vI 0], aq_h m s F c)) rfl rfl ?_
  refine am_E.go (t2 := (3, [vR y, vI mn, vI rk, vI rw_, vI cc, vI p, vI 0, vU, vU, vU], [], aq_h m s F c)) rfl rfl ?_
  exact qm_reduce_s ⟨hm, hFo, hG5, hG6, hG7, hG8, hG9, hG10, hG11, hG12, hG13, hG14, hG15, hG16, hG17, hG18, hG19, hG20, hG21, hG22, hG23⟩ hp0 hp1 hmn hk0 hk1 hw0 hw1 hc0 hc1 hP 8 0 (vU) (vU) (vU) c (aq_sm0 (c := c) (S := (fun a => a = y + 20))) (by omega) (by omega) ⟨fun _ => hnz0, fun h => absurd h (by omega)⟩ hfr (by omega)

def ff_ (y : Nat) (p mn i j : Int) (c : aq_C) : Prop := ∀ a b, 0 ≤ a → 0 ≤ b → b < mn → (a < i ∨ (a = i ∧ b < j)) → 0 ≤ c (y + 20) (6 * a + b) ∧ c (y + 20) (6 * a + b) < p
theorem ff_u {y : Nat} {p mn i j x : Int} {c d : aq_C} (h : ff_ y p mn i j c) (he : aq_u c (y + 20) (6 * i + j) x = d) (h0 : 0 ≤ x) (h1 : x < p) (hm : mn ≤ 6) (hj : j < mn) (hj0 : 0 ≤ j) : ff_ y p mn i (j + 1) d := fun a b a1 a2 a3 a4 => by
  rw [← he]
  unfold aq_u
  by_cases e : a = i ∧ b = j
  · rw [if_pos ⟨rfl, by omega⟩]
    exact ⟨h0, h1⟩
  · rw [if_neg (by omega)]
    exact h a b a1 a2 a3 (by omega)
theorem ff_c {y : Nat} {p mn i j : Int} {c d : aq_C} (h : ff_ y p mn i j c) (hs : ∀ k, d (y + 20) k = c (y + 20) k) : ff_ y p mn i j d := fun a b a1 a2 a3 a4 => by
  rw [hs]
  exact h a b a1 a2 a3 a4

theorem qm_free_w {m s : Nat} {F : aq_F} {c0 : aq_C} {y : Nat} (hO : mo_0 m F y) (hI : mo_I y c0) {n t v p mn lt : Int} (hn1 : 1 ≤ n) (hn4 : n ≤ 4) (ht0 : 0 ≤ t) (ht1 : t ≤ n) (hp0 : 2 ≤ p) (hp1 : p ≤ 997) (hP : nm_P p) (hmn0 : 0 ≤ mn) (hmn : mn ≤ 6) (hl0 : 0 ≤ lt) (hl1 : lt < p) : ∀ (d : Nat) (rk : Int) (cc : Int) (w : Int) (v10 : am_V) (v11 : am_V) (c : aq_C) (hs : aq_sm (mo_S y) c0 c) (h0 : 0 ≤ cc) (h1 : cc < mn) (h2 : 0 ≤ rk) (h3 : rk ≤ w) (h4 : w ≤ mn) (hob : mo_k y c0 c) (hfr : fr_ y p mn c) (hd : mn - w < (d : Int)) (K0 : ∀ (w2 : Int) (c2 : aq_C) (hs2 : aq_sm (mo_S y) c0 c2) (f1 : rk ≤ w2) (f2 : w2 ≤ mn) (f3 : w2 = mn ∨ c2 (y + 20) (6 * w2 + cc) ≠ 0) (hob2 : mo_k y c0 c2) (hfr2 : fr_ y p mn c2), am_E ac_X5_free (220, [vR y, vI n, vI t, vI v, vI p, vI mn, vI lt, vI rk, vI cc, vI w2, v10, v11], [], aq_h m s F c2) (aq_Z m s F (fun a => y ≤ a ∧ a < y + 24) c0 (fun r d => aq_vi r ∧ mo_I y d))), am_E ac_X5_free (191, [vR y, vI n, vI t, vI v, vI p, vI mn, vI lt, vI rk, vI cc, vI w, v10, v11], [], aq_h m s F c) (aq_Z m s F (fun a => y ≤ a ∧ a < y + 24) c0 (fun r d => aq_vi r ∧ mo_I y d))
  | 0, rk, cc, w, v10, v11, c, hs, h0, h1, h2, h3, h4, hob, hfr, hd, K0 => by exfalso; omega
  | d + 1, rk, cc, w, v10, v11, c, hs, h0, h1, h2, h3, h4, hob, hfr, hd, K0 => by
    obtain ⟨hm, hFo, hG5, hG6, hG7, hG8, hG9, hG10, hG11, hG12, hG13, hG14, hG15, hG16, hG17, hG18, hG19, hG20, hG21, hG22, hG23⟩ := hO
    refine am_E.go (t2 := (193, [vR y, vI n, vI t, vI v, vI p, vI mn, vI lt, vI rk, vI cc, vI w, v10, v11], [vI w], aq_h m s F c)) rfl rfl ?_
    refine am_E.go (t2 := (195, [vR y, vI n, vI t, vI v, vI p, vI mn, vI lt, vI rk, vI cc, vI w, v10, v11], [vI mn, vI w], aq_h m s F c)) rfl rfl ?_
    refine ae_icmp rfl (fun (q_1 : mn ≤ w) => ?_) (fun (q_1 : w < mn) => ?_)
    · exact K0 w c hs (by omega) (by omega) (by first | (exact Or.inl (by omega)) | (exact Or.inr (by assumption))) hob hfr
    · refine am_E.go (t2 := (199, [vR y, vI n, vI t, vI v, vI p, vI mn, vI lt, vI rk, vI cc, vI w, v10, v11], [vR y], aq_h m s F c)) rfl rfl ?_
      refine aq_gf (v := vR (y + 20)) rfl (by omega) hFo (by decide) rfl ?_
      show am_E _ (202, [vR y, vI n, vI t, vI v, vI p, vI mn, vI lt, vI rk, vI cc, vI w, v10, v11], [vR (y + 20)], aq_h m s F c) _
      refine am_E.go (t2 := (204, [vR y, vI n, vI t, vI v, vI p, vI mn, vI lt, vI rk, vI cc, vI w, v10, v11], [vI 6, vR (y + 20)], aq_h m s F c)) rfl rfl ?_
      refine am_E.go (t2 := (206, [vR y, vI n, vI t, vI v, vI p, vI mn, vI lt, vI rk, vI cc, vI w, v10, v11], [vI w, vI 6, vR (y + 20)], aq_h m s F c)) rfl rfl ?_
      refine ae_mul rfl (am_ri (by omega) (by omega)) ?_
      show am_E _ (207, [vR y, vI n, vI t, vI v, vI p, vI mn, vI lt, vI rk, vI cc, vI w, v10, v11], [vI (6 * w), vR (y + 20)], aq_h m s F c) _
      refine am_E.go (t2 := (209, [vR y, vI n, vI t, vI v, vI p, vI mn, vI lt, vI rk, vI cc, vI w, v10, v11], [vI cc, vI (6 * w), vR (y + 20)], aq_h m s F c)) rfl rfl ?_
      refine ae_add rfl (am_ri (by omega) (by omega)) ?_
      show am_E _ (210, [vR y, vI n, vI t, vI v, vI p, vI mn, vI lt, vI rk, vI cc, vI w, v10, v11], [vI ((6 * w) + cc), vR (y + 20)], aq_h m s F c) _
      refine aq_al (ok := fun k => k == 0) (v := vI (c (y + 20) ((6 * w) + cc))) rfl rfl (by omega) hG20 rfl (by omega) (by omega) rfl ?_
      show am_E _ (211, [vR y, vI n, vI t, vI v, vI p, vI mn, vI lt, vI rk, vI cc, vI w, v10, v11], [vI (c (y + 20) ((6 * w) + cc))], aq_h m s F c) _
      refine ae_if0 rfl (fun (q_2 : (c (y + 20) ((6 * w) + cc)) ≠ 0) => ?_) (fun (q_2 : (c (y + 20) ((6 * w) + cc)) = 0) => ?_)
      · exact K0 w c hs (by omega) (by omega) (by first | (exact Or.inl (by omega)) | (exact Or.inr (by assumption))) hob hfr
      · refine ae_iinc rfl rfl (am_ri (by omega) (by omega)) ?_
        show am_E _ (217, [vR y, vI n, vI t, vI v, vI p, vI mn, vI lt, vI rk, vI cc, vI (w + 1), v10, v11], [], aq_h m s F c) _
        refine am_E.go (t2 := (191, [vR y, vI n, vI t, vI v, vI p, vI mn, vI lt, vI rk, vI cc, vI (w + 1), v10, v11], [], aq_h m s F c)) rfl rfl ?_
        exact qm_free_w ⟨hm, hFo, hG5, hG6, hG7, hG8, hG9, hG10, hG11, hG12, hG13, hG14, hG15, hG16, hG17, hG18, hG19, hG20, hG21, hG22, hG23⟩ hI hn1 hn4 ht0 ht1 hp0 hp1 hP hmn0 hmn hl0 hl1 d rk cc (w + 1) (v10) (v11) c hs (by omega) (by omega) (by omega) (by omega) (by omega) hob hfr (by omega) K0

theorem qm_free_r {m s : Nat} {F : aq_F} {c0 : aq_C} {y : Nat} (hO : mo_0 m F y) (hI : mo_I y c0) {n t v p mn lt : Int} (hn1 : 1 ≤ n) (hn4 : n ≤ 4) (ht0 : 0 ≤ t) (ht1 : t ≤ n) (hp0 : 2 ≤ p) (hp1 : p ≤ 997) (hP : nm_P p) (hmn0 : 0 ≤ mn) (hmn : mn ≤ 6) (hl0 : 0 ≤ lt) (hl1 : lt < p) : ∀ (d : Nat) (rk : Int) (cc : Int) (v9 : am_V) (v10 : am_V) (v11 : am_V) (c : aq_C) (hs : aq_sm (mo_S y) c0 c) (h0 : 0 ≤ cc) (h1 : cc ≤ mn) (h2 : 0 ≤ rk) (h3 : rk ≤ cc) (hob : mo_k y c0 c) (hfr : fr_ y p mn c) (hd : mn - cc < (d : Int)), am_E ac_X5_free (180, [vR y, vI n, vI t, vI v, vI p, vI mn, vI lt, vI rk, vI cc, v9, v10, v11], [], aq_h m s F c) (aq_Z m s F (fun a => y ≤ a ∧ a < y + 24) c0 (fun r d => aq_vi r ∧ mo_I y d))
  | 0, rk, cc, v9, v10, v11, c, hs, h0, h1, h2, h3, hob, hfr, hd => by exfalso; omega
  | d + 1, rk, cc, v9, v10, v11, c, hs, h0, h1, h2, h3, hob, hfr, hd => by
    obtain ⟨hm, hFo, hG5, hG6, hG7, hG8, hG9, hG10, hG11, hG12, hG13, hG14, hG15, hG16, hG17, hG18, hG19, hG20, hG21, hG22, hG23⟩ := hO
    refine am_E.go (t2 := (182, [vR y, vI n, vI t, vI v, vI p, vI mn, vI lt, vI rk, vI cc, v9, v10, v11], [vI cc], aq_h m s F c)) rfl rfl ?_
    refine am_E.go (t2 := (184, [vR y, vI n, vI t, vI v, vI p, vI mn, vI lt, vI rk, vI cc, v9, v10, v11], [vI mn, vI cc], aq_h m s F c)) rfl rfl ?_
    refine ae_icmp rfl (fun (q_1 : mn ≤ cc) => ?_) (fun (q_1 : cc < mn) => ?_)
    · refine am_E.go (t2 := (252, [vR y, vI n, vI t, vI v, vI p, vI mn, vI lt, vI rk, vI cc, v9, v10, v11], [vI rk], aq_h m s F c)) rfl rfl ?_
      refine am_E.ret rfl rfl ?_
      exact ⟨_, rfl, aq_smi hs (fun a h => mo_Sa h), ⟨_, rfl⟩, mo_Ik hI hs hob⟩
    · refine am_E.go (t2 := (189, [vR y, vI n, vI t, vI v, vI p, vI mn, vI lt, vI rk, vI cc, v9, v10, v11], [vI rk], aq_h m s F c)) rfl rfl ?_
      refine am_E.go (t2 := (191, [vR y, vI n, vI t, vI v, vI p, vI mn, vI lt, vI rk, vI cc, vI rk, v10, v11], [], aq_h m s F c)) rfl rfl ?_
      refine qm_free_w ⟨hm, hFo, hG5, hG6, hG7, hG8, hG9, hG10, hG11, hG12, hG13, hG14, hG15, hG16, hG17, hG18, hG19, hG20, hG21, hG22, hG23⟩ hI hn1 hn4 ht0 ht1 hp0 hp1 hP hmn0 hmn hl0 hl1 8 rk cc rk (v10) (v11) c hs (by omega) (by omega) (by omega) (by omega) (by omega) hob hfr (by omega) ?_
      · intro w2_191 c_2 sc_2 f1_191 f2_191 f3_191 hob2_191 hfr2_191
        refine am_E.go (t2 := (222, [vR y, vI n, vI t, vI v, vI p, vI mn, vI lt, vI rk, vI cc, vI w2_191, (v10), (v11)], [vI w2_191], aq_h m s F c_2)) rfl rfl ?_
        refine am_E.go (t2 := (224, [vR y, vI n, vI t, vI v, vI p, vI mn, vI lt, vI rk, vI cc, vI w2_191, (v10), (v11)], [vI mn, vI w2_191], aq_h m s F c_2)) rfl rfl ?_
        refine ae_icmp rfl (fun (q_3 : mn ≤ w2_191) => ?_) (fun (q_3 : w2_191 < mn) => ?_)
        · refine ae_iinc rfl rfl (am_ri (by omega) (by omega)) ?_
          show am_E _ (247, [vR y, vI n, vI t, vI v, vI p, vI mn, vI lt, vI rk, vI (cc + 1), vI w2_191, (v10), (v11)], [], aq_h m s F c_2) _
          refine am_E.go (t2 := (180, [vR y, vI n, vI t, vI v, vI p, vI mn, vI lt, vI rk, vI (cc + 1), vI w2_191, (v10), (v11)], [], aq_h m s F c_2)) rfl rfl ?_
          exact qm_free_r ⟨hm, hFo, hG5, hG6, hG7, hG8, hG9, hG10, hG11, hG12, hG13, hG14, hG15, hG16, hG17, hG18, hG19, hG20, hG21, hG22, hG23⟩ hI hn1 hn4 ht0 ht1 hp0 hp1 hP hmn0 hmn hl0 hl1 d rk (cc + 1) (vI w2_191) ((v10)) ((v11)) c_2 sc_2 (by omega) (by omega) (by omega) (by omega) hob2_191 hfr2_191 (by omega)
        · refine am_E.go (t2 := (228, [vR y, vI n, vI t, vI v, vI p, vI mn, vI lt, vI rk, vI cc, vI w2_191, (v10), (v11)], [vR y], aq_h m s F c_2)) rfl rfl ?_
          refine am_E.go (t2 := (230, [vR y, vI n, vI t, vI v, vI p, vI mn, vI lt, vI rk, vI cc, vI w2_191, (v10), (v11)], [vI mn, vR y], aq_h m s F c_2)) rfl rfl ?_
          refine am_E.go (t2 := (232, [vR y, vI n, vI t, vI v, vI p, vI mn, vI lt, vI rk, vI cc, vI w2_191, (v10), (v11)], [vI rk, vI mn, vR y], aq_h m s F c_2)) rfl rfl ?_
          refine am_E.go (t2 := (234, [vR y, vI n, vI t, vI v, vI p, vI mn, vI lt, vI rk, vI cc, vI w2_191, (v10), (v11)], [vI w2_191, vI rk, vI mn, vR y], aq_h m s F c_2)) rfl rfl ?_
          refine am_E.go (t2 := (236, [vR y, vI n, vI t, vI v, vI p, vI mn, vI lt, vI rk, vI cc, vI w2_191, (v10), (v11)], [vI cc, vI w2_191, vI rk, vI mn, vR y], aq_h m s F c_2)) rfl rfl ?_
          refine am_E.go (t2 := (238, [vR y, vI n, vI t, vI v, vI p, vI mn, vI lt, vI rk, vI cc, vI w2_191, (v10), (v11)], [vI p, vI cc, vI w2_191, vI rk, vI mn, vR y], aq_h m s F c_2)) rfl rfl ?_
          refine aq_callv (y := 6) (as2 := [vI mn, vI rk, vI w2_191, vI cc, vI p]) (rest := []) rfl rfl (by decide) (Nat.le_of_ble_eq_true rfl) rfl rfl (Nat.le_of_ble_eq_true rfl) (by omega) hFo rfl (Nat.le_of_ble_eq_true rfl) (qm_reduce ⟨hm, hFo, hG5, hG6, hG7, hG8, hG9, hG10, hG11, hG12, hG13, hG14, hG15, hG16, hG17, hG18, hG19, hG20, hG21, hG22, hG23⟩ (mn := mn) (rk := rk) (rw_ := w2_191) (cc := cc) (p := p) hp0 hp1 hmn (by omega) (by omega) (by omega) (by omega) (by omega) (by omega) hP hfr2_191 (by rcases f3_191 with h | h; exact absurd h (by omega); exact h)) ?_
          rintro r5 h5 ⟨c_r, rfl, s_r, rfl, fr_r⟩
          show am_E _ (241, [vR y, vI n, vI t, vI v, vI p, vI mn, vI lt, vI rk, vI cc, vI w2_191, (v10), (v11)], [], aq_h m s F c_r) _
          refine ae_iinc rfl rfl (am_ri (by omega) (by omega)) ?_
          show am_E _ (244, [vR y, vI n, vI t, vI v, vI p, vI mn, vI lt, vI (rk + 1), vI cc, vI w2_191, (v10), (v11)], [], aq_h m s F c_r) _
          refine ae_iinc rfl rfl (am_ri (by omega) (by omega)) ?_
          show am_E _ (247, [vR y, vI n, vI t, vI v, vI p, vI mn, vI lt, vI (rk + 1), vI (cc + 1), vI w2_191, (v10), (v11)], [], aq_h m s F c_r) _
          refine am_E.go (t2 := (180, [vR y, vI n, vI t, vI v, vI p, vI mn, vI lt, vI (rk + 1), vI (cc + 1), vI w2_191, (v10), (v11)], [], aq_h m s F c_r)) rfl rfl ?_
          exact qm_free_r ⟨hm, hFo, hG5, hG6, hG7, hG8, hG9, hG10, hG11, hG12, hG13, hG14, hG15, hG16, hG17, hG18, hG19, hG20, hG21, hG22, hG23⟩ hI hn1 hn4 ht0 ht1 hp0 hp1 hP hmn0 hmn hl0 hl1 d (rk + 1) (cc + 1) (vI w2_191) ((v10)) ((v11)) c_r (aq_smt sc_2 (aq_smi s_r (fun a h => by unfold mo_S; omega))) (by omega) (by omega) (by omega) (by omega) (mo_ks hob2_191 s_r (by omega)) fr_r (by omega)

theorem qm_free_e {m s : Nat} {F : aq_F} {c0 : aq_C} {y : Nat} (hO : mo_0 m F y) (hI : mo_I y c0) {n t v p mn lt : Int} (hn1 : 1 ≤ n) (hn4 : n ≤ 4) (ht0 : 0 ≤ t) (ht1 : t ≤ n) (hp0 : 2 ≤ p) (hp1 : p ≤ 997) (hP : nm_P p) (hmn0 : 0 ≤ mn) (hmn : mn ≤ 6) (hl0 : 0 ≤ lt) (hl1 : lt < p) : ∀ (d : Nat) (i : Int) (j : Int) (pw : Int) (e : Int) (k : Int) (c : aq_C) (hs : aq_sm (mo_S y) c0 c) (h0 : 0 ≤ e) (h1 : e < p) (h2 : 0 ≤ k) (h3 : k ≤ 4) (h4 : pw ≤ 4) (hob : mo_k y c0 c) (hff : ff_ y p mn i j c) (hd : max 0 (pw - k) < (d : Int)) (K0 : ∀ (e2 : Int) (k2 : Int) (c2 : aq_C) (hs2 : aq_sm (mo_S y) c0 c2) (f1 : 0 ≤ e2) (f2 : e2 < p) (hob2 : mo_k y c0 c2) (hff2 : ff_ y p mn i j c2), am_E ac_X5_free (147, [vR y, vI n, vI t, vI v, vI p, vI mn, vI lt, vI i, vI j, vI pw, vI e2, vI k2], [], aq_h m s F c2) (aq_Z m s F (fun a => y ≤ a ∧ a < y + 24) c0 (fun r d => aq_vi r ∧ mo_I y d))), am_E ac_X5_free (124, [vR y, vI n, vI t, vI v, vI p, vI mn, vI lt, vI i, vI j, vI pw, vI e, vI k], [], aq_h m s F c) (aq_Z m s F (fun a => y ≤ a ∧ a < y + 24) c0 (fun r d => aq_vi r ∧ mo_I y d))
  | 0, i, j, pw, e, k, c, hs, h0, h1, h2, h3, h4, hob, hff, hd, K0 => by exfalso; omega
  | d + 1, i, j, pw, e, k, c, hs, h0, h1, h2, h3, h4, hob, hff, hd, K0 => by
    obtain ⟨hm, hFo, hG5, hG6, hG7, hG8, hG9, hG10, hG11, hG12, hG13, hG14, hG15, hG16, hG17, hG18, hG19, hG20, hG21, hG22, hG23⟩ := hO
    refine am_E.go (t2 := (126, [vR y, vI n, vI t, vI v, vI p, vI mn, vI lt, vI i, vI j, vI pw, vI e, vI k], [vI k], aq_h m s F c)) rfl rfl ?_
    refine am_E.go (t2 := (128, [vR y, vI n, vI t, vI v, vI p, vI mn, vI lt, vI i, vI j, vI pw, vI e, vI k], [vI pw, vI k], aq_h m s F c)) rfl rfl ?_
    refine ae_icmp rfl (fun (q_1 : pw ≤ k) => ?_) (fun (q_1 : k < pw) => ?_)
    · exact K0 e k c hs (by omega) (by omega) hob hff
    · refine am_E.go (t2 := (133, [vR y, vI n, vI t, vI v, vI p, vI mn, vI lt, vI i, vI j, vI pw, vI e, vI k], [vI e], aq_h m s F c)) rfl rfl ?_
      refine am_E.go (t2 := (135, [vR y, vI n, vI t, vI v, vI p, vI mn, vI lt, vI i, vI j, vI pw, vI e, vI k], [vI lt, vI e], aq_h m s F c)) rfl rfl ?_
      have u_2 := nm_mul (a := e) (b := lt) (by omega) (by omega) (by omega) (by omega)
      refine ae_mul rfl (am_ri (by omega) (by omega)) ?_
      show am_E _ (136, [vR y, vI n, vI t, vI v, vI p, vI mn, vI lt, vI i, vI j, vI pw, vI e, vI k], [vI (e * lt)], aq_h m s F c) _
      refine am_E.go (t2 := (138, [vR y, vI n, vI t, vI v, vI p, vI mn, vI lt, vI i, vI j, vI pw, vI e, vI k], [vI p, vI (e * lt)], aq_h m s F c)) rfl rfl ?_
      have eu_3 := nm_em (a := (e * lt)) (p := p) (by omega)
      refine ae_bin (z := (e * lt) % p) rfl rfl (am_rem_e (by omega) (by omega)) ?_
      generalize (e * lt) % p = u_3 at eu_3 ⊢
      refine am_E.go (t2 := (141, [vR y, vI n, vI t, vI v, vI p, vI mn, vI lt, vI i, vI j, vI pw, vI u_3, vI k], [], aq_h m s F c)) rfl rfl ?_
      refine ae_iinc rfl rfl (am_ri (by omega) (by omega)) ?_
      show am_E _ (144, [vR y, vI n, vI t, vI v, vI p, vI mn, vI lt, vI i, vI j, vI pw, vI u_3, vI (k + 1)], [], aq_h m s F c) _
      refine am_E.go (t2 := (124, [vR y, vI n, vI t, vI v, vI p, vI mn, vI lt, vI i, vI j, vI pw, vI u_3, vI (k + 1)], [], aq_h m s F c)) rfl rfl ?_
      exact qm_free_e ⟨hm, hFo, hG5, hG6, hG7, hG8, hG9, hG10, hG11, hG12, hG13, hG14, hG15, hG16, hG17, hG18, hG19, hG20, hG21, hG22, hG23⟩ hI hn1 hn4 ht0 ht1 hp0 hp1 hP hmn0 hmn hl0 hl1 d i j pw u_3 (k + 1) c hs (by omega) (by omega) (by omega) (by omega) (by omega) hob hff (by omega) K0

theorem qm_free_j {m s : Nat} {F : aq_F} {c0 : aq_C} {y : Nat} (hO : mo_0 m F y) (hI : mo_I y c0) {n t v p mn lt : Int} (hn1 : 1 ≤ n) (hn4 : n ≤ 4) (ht0 : 0 ≤ t) (ht1 : t ≤ n) (hp0 : 2 ≤ p) (hp1 : p ≤ 997) (hP : nm_P p) (hmn0 : 0 ≤ mn) (hmn : mn ≤ 6) (hl0 : 0 ≤ lt) (hl1 : lt < p) : ∀ (d : Nat) (i : Int) (j : Int) (v9 : am_V) (v10 : am_V) (v11 : am_V) (c : aq_C) (hs : aq_sm (mo_S y) c0 c) (h0 : 0 ≤ j) (h1 : j ≤ mn) (h2 : 0 ≤ i) (h3 : i < mn) (hob : mo_k y c0 c) (hff : ff_ y p mn i j c) (hd : mn - j < (d : Int)) (K0 : ∀ (j2 : Int) (v92 : am_V) (v102 : am_V) (v112 : am_V) (c2 : aq_C) (hs2 : aq_sm (mo_S y) c0 c2) (hob2 : mo_k y c0 c2) (hff2 : ff_ y p mn (i + 1) 0 c2), am_E ac_X5_free (168, [vR y, vI n, vI t, vI v, vI p, vI mn, vI lt, vI i, vI j2, v92, v102, v112], [], aq_h m s F c2) (aq_Z m s F (fun a => y ≤ a ∧ a < y + 24) c0 (fun r d => aq_vi r ∧ mo_I y d))), am_E ac_X5_free (85, [vR y, vI n, vI t, vI v, vI p, vI mn, vI lt, vI i, vI j, v9, v10, v11], [], aq_h m s F c) (aq_Z m s F (fun a => y ≤ a ∧ a < y + 24) c0 (fun r d => aq_vi r ∧ mo_I y d))
  | 0, i, j, v9, v10, v11, c, hs, h0, h1, h2, h3, hob, hff, hd, K0 => by exfalso; omega
  | d + 1, i, j, v9, v10, v11, c, hs, h0, h1, h2, h3, hob, hff, hd, K0 => by
    obtain ⟨hm, hFo, hG5, hG6, hG7, hG8, hG9, hG10, hG11, hG12, hG13, hG14, hG15, hG16, hG17, hG18, hG19, hG20, hG21, hG22, hG23⟩ := hO
    refine am_E.go (t2 := (87, [vR y, vI n, vI t, vI v, vI p, vI mn, vI lt, vI i, vI j, v9, v10, v11], [vI j], aq_h m s F c)) rfl rfl ?_
    refine am_E.go (t2 := (89, [vR y, vI n, vI t, vI v, vI p, vI mn, vI lt, vI i, vI j, v9, v10, v11], [vI mn, vI j], aq_h m s F c)) rfl rfl ?_
    refine ae_icmp rfl (fun (q_1 : mn ≤ j) => ?_) (fun (q_1 : j < mn) => ?_)
    · exact K0 j (v9) (v10) (v11) c hs hob (fun a b a1 a2 a3 a4 => hff a b a1 a2 a3 (by omega))
    · refine am_E.go (t2 := (93, [vR y, vI n, vI t, vI v, vI p, vI mn, vI lt, vI i, vI j, v9, v10, v11], [vR y], aq_h m s F c)) rfl rfl ?_
      refine am_E.go (t2 := (94, [vR y, vI n, vI t, vI v, vI p, vI mn, vI lt, vI i, vI j, v9, v10, v11], [vI n, vR y], aq_h m s F c)) rfl rfl ?_
      refine am_E.go (t2 := (95, [vR y, vI n, vI t, vI v, vI p, vI mn, vI lt, vI i, vI j, v9, v10, v11], [vI t, vI n, vR y], aq_h m s F c)) rfl rfl ?_
      refine am_E.go (t2 := (97, [vR y, vI n, vI t, vI v, vI p, vI mn, vI lt, vI i, vI j, v9, v10, v11], [vI i, vI t, vI n, vR y], aq_h m s F c)) rfl rfl ?_
      refine am_E.go (t2 := (99, [vR y, vI n, vI t, vI v, vI p, vI mn, vI lt, vI i, vI j, v9, v10, v11], [vI j, vI i, vI t, vI n, vR y], aq_h m s F c)) rfl rfl ?_
      refine aq_callv (y := 5) (as2 := [vI n, vI t, vI i, vI j]) (rest := []) rfl rfl (by decide) (Nat.le_of_ble_eq_true rfl) rfl rfl (Nat.le_of_ble_eq_true rfl) (by omega) hFo rfl (Nat.le_of_ble_eq_true rfl) (qm_form ⟨hm, hFo, hG5, hG6, hG7, hG8, hG9, hG10, hG11, hG12, hG13, hG14, hG15, hG16, hG17, hG18, hG19, hG20, hG21, hG22, hG23⟩) ?_
      rintro r5 h5 ⟨c_q, rfl, s_q, k_q, e_q, v_q, rfl, hv1, hv2⟩
      show am_E _ (102, [vR y, vI n, vI t, vI v, vI p, vI mn, vI lt, vI i, vI j, v9, v10, v11], [vI v_q], aq_h m s F c_q) _
      refine am_E.go (t2 := (104, [vR y, vI n, vI t, vI v, vI p, vI mn, vI lt, vI i, vI j, vI v_q, v10, v11], [], aq_h m s F c_q)) rfl rfl ?_
      refine am_E.go (t2 := (106, [vR y, vI n, vI t, vI v, vI p, vI mn, vI lt, vI i, vI j, vI v_q, v10, v11], [vI v_q], aq_h m s F c_q)) rfl rfl ?_
      refine am_E.go (t2 := (108, [vR y, vI n, vI t, vI v, vI p, vI mn, vI lt, vI i, vI j, vI v_q, v10, v11], [vI (-4), vI v_q], aq_h m s F c_q)) rfl rfl ?_
      refine ae_icmp rfl (fun (q_2 : v_q ≠ (-4)) => ?_) (fun (q_2 : v_q = (-4)) => ?_)
      · refine am_E.go (t2 := (116, [vR y, vI n, vI t, vI v, vI p, vI mn, vI lt, vI i, vI j, vI v_q, v10, v11], [vI 1], aq_h m s F c_q)) rfl rfl ?_
        refine am_E.go (t2 := (118, [vR y, vI n, vI t, vI v, vI p, vI mn, vI lt, vI i, vI j, vI v_q, v10, v11], [vI p, vI 1], aq_h m s F c_q)) rfl rfl ?_
        have eu_3 := nm_em (a := (1 : Int)) (p := p) (by omega)
        refine ae_bin (z := (1 : Int) % p) rfl rfl (am_rem_e (by omega) (by omega)) ?_
        generalize (1 : Int) % p = u_3 at eu_3 ⊢
        refine am_E.go (t2 := (121, [vR y, vI n, vI t, vI v, vI p, vI mn, vI lt, vI i, vI j, vI v_q, vI u_3, v11], [], aq_h m s F c_q)) rfl rfl ?_
        refine am_E.go (t2 := (122, [vR y, vI n, vI t, vI v, vI p, vI mn, vI lt, vI i, vI j, vI v_q, vI u_3, v11], [vI 0], aq_h m s F c_q)) rfl rfl ?_
        refine am_E.go (t2 := (124, [vR y, vI n, vI t, vI v, vI p, vI mn, vI lt, vI i, vI j, vI v_q, vI u_3, vI 0], [], aq_h m s F c_q)) rfl rfl ?_
        refine qm_free_e ⟨hm, hFo, hG5, hG6, hG7, hG8, hG9, hG10, hG11, hG12, hG13, hG14, hG15, hG16, hG17, hG18, hG19, hG20, hG21, hG22, hG23⟩ hI hn1 hn4 ht0 ht1 hp0 hp1 hP hmn0 hmn hl0 hl1 6 i j v_q u_3 0 c_q (aq_smt hs s_q) (by omega) (by omega) (by omega) (by omega) (by omega) (mo_kt hob k_q) (ff_c hff e_q) (by omega) ?_
        · intro e2_124 k2_124 c_4 sc_4 f1_124 f2_124 hob2_124 hff2_124
          refine am_E.go (t2 := (148, [vR y, vI n, vI t, vI v, vI p, vI mn, vI lt, vI i, vI j, vI v_q, vI e2_124, vI k2_124], [vR y], aq_h m s F c_4)) rfl rfl ?_
          refine aq_gf (v := vR (y + 20)) rfl (by omega) hFo (by decide) rfl ?_
          show am_E _ (151, [vR y, vI n, vI t, vI v, vI p, vI mn, vI lt, vI i, vI j, vI v_q, vI e2_124, vI k2_124], [vR (y + 20)], aq_h m s F c_4) _
          refine am_E.go (t2 := (153, [vR y, vI n, vI t, vI v, vI p, vI mn, vI lt, vI i, vI j, vI v_q, vI e2_124, vI k2_124], [vI 6, vR (y + 20)], aq_h m s F c_4)) rfl rfl ?_
          refine am_E.go (t2 := (155, [vR y, vI n, vI t, vI v, vI p, vI mn, vI lt, vI i, vI j, vI v_q, vI e2_124, vI k2_124], [vI i, vI 6, vR (y + 20)], aq_h m s F c_4)) rfl rfl ?_
          refine ae_mul rfl (am_ri (by omega) (by omega)) ?_
          show am_E _ (156, [vR y, vI n, vI t, vI v, vI p, vI mn, vI lt, vI i, vI j, vI v_q, vI e2_124, vI k2_124], [vI (6 * i), vR (y + 20)], aq_h m s F c_4) _
          refine am_E.go (t2 := (158, [vR y, vI n, vI t, vI v, vI p, vI mn, vI lt, vI i, vI j, vI v_q, vI e2_124, vI k2_124], [vI j, vI (6 * i), vR (y + 20)], aq_h m s F c_4)) rfl rfl ?_
          refine ae_add rfl (am_ri (by omega) (by omega)) ?_
          show am_E _ (159, [vR y, vI n, vI t, vI v, vI p, vI mn, vI lt, vI i, vI j, vI v_q, vI e2_124, vI k2_124], [vI ((6 * i) + j), vR (y + 20)], aq_h m s F c_4) _
          refine am_E.go (t2 := (161, [vR y, vI n, vI t, vI v, vI p, vI mn, vI lt, vI i, vI j, vI v_q, vI e2_124, vI k2_124], [vI e2_124, vI ((6 * i) + j), vR (y + 20)], aq_h m s F c_4)) rfl rfl ?_
          refine aq_as (kd := 0) rfl rfl (by omega) hG20 (by omega) (by omega) rfl rfl ?_
          show am_E _ (162, [vR y, vI n, vI t, vI v, vI p, vI mn, vI lt, vI i, vI j, vI v_q, vI e2_124, vI k2_124], [], aq_h m s F (aq_u c_4 (y + 20) ((6 * i) + j) e2_124)) _
          generalize hdc_5 : aq_u c_4 (y + 20) ((6 * i) + j) e2_124 = c_5
          have sc_5 := aq_smu sc_4 hdc_5 (mo_Sk (by decide) (by decide))
          have hobc_5 := mo_ku hob2_124 hdc_5 (Or.inl (by omega))
          have hffc_5 := ff_u hff2_124 hdc_5 (by omega) (by omega) hmn (by omega) (by omega)
          refine ae_iinc rfl rfl (am_ri (by omega) (by omega)) ?_
          show am_E _ (165, [vR y, vI n, vI t, vI v, vI p, vI mn, vI lt, vI i, vI (j + 1), vI v_q, vI e2_124, vI k2_124], [], aq_h m s F c_5) _
          refine am_E.go (t2 := (85, [vR y, vI n, vI t, vI v, vI p, vI mn, vI lt, vI i, vI (j + 1), vI v_q, vI e2_124, vI k2_124], [], aq_h m s F c_5)) rfl rfl ?_
          exact qm_free_j ⟨hm, hFo, hG5, hG6, hG7, hG8, hG9, hG10, hG11, hG12, hG13, hG14, hG15, hG16, hG17, hG18, hG19, hG20, hG21, hG22, hG23⟩ hI hn1 hn4 ht0 ht1 hp0 hp1 hP hmn0 hmn hl0 hl1 d i (j + 1) (vI v_q) (vI e2_124) (vI k2_124) c_5 sc_5 (by omega) (by omega) (by omega) (by omega) hobc_5 hffc_5 (by omega) K0
      · refine am_E.go (t2 := (112, [vR y, vI n, vI t, vI v, vI p, vI mn, vI lt, vI i, vI j, vI v_q, v10, v11], [vI 0], aq_h m s F c_q)) rfl rfl ?_
        refine am_E.go (t2 := (119, [vR y, vI n, vI t, vI v, vI p, vI mn, vI lt, vI i, vI j, vI v_q, v10, v11], [vI 0], aq_h m s F c_q)) rfl rfl ?_
        refine am_E.go (t2 := (121, [vR y, vI n, vI t, vI v, vI p, vI mn, vI lt, vI i, vI j, vI v_q, vI 0, v11], [], aq_h m s F c_q)) rfl rfl ?_
        refine am_E.go (t2 := (122, [vR y, vI n, vI t, vI v, vI p, vI mn, vI lt, vI i, vI j, vI v_q, vI 0, v11], [vI 0], aq_h m s F c_q)) rfl rfl ?_
        refine am_E.go (t2 := (124, [vR y, vI n, vI t, vI v, vI p, vI mn, vI lt, vI i, vI j, vI v_q, vI 0, vI 0], [], aq_h m s F c_q)) rfl rfl ?_
        refine qm_free_e ⟨hm, hFo, hG5, hG6, hG7, hG8, hG9, hG10, hG11, hG12, hG13, hG14, hG15, hG16, hG17, hG18, hG19, hG20, hG21, hG22, hG23⟩ hI hn1 hn4 ht0 ht1 hp0 hp1 hP hmn0 hmn hl0 hl1 6 i j v_q 0 0 c_q (aq_smt hs s_q) (by omega) (by omega) (by omega) (by omega) (by omega) (mo_kt hob k_q) (ff_c hff e_q) (by omega) ?_
        · intro e2_124 k2_124 c_6 sc_6 f1_124 f2_124 hob2_124 hff2_124
          refine am_E.go (t2 := (148, [vR y, vI n, vI t, vI v, vI p, vI mn, vI lt, vI i, vI j, vI v_q, vI e2_124, vI k2_124], [vR y], aq_h m s F c_6)) rfl rfl ?_
          refine aq_gf (v := vR (y + 20)) rfl (by omega) hFo (by decide) rfl ?_
          show am_E _ (151, [vR y, vI n, vI t, vI v, vI p, vI mn, vI lt, vI i, vI j, vI v_q, vI e2_124, vI k2_124], [vR (y + 20)], aq_h m s F c_6) _
          refine am_E.go (t2 := (153, [vR y, vI n, vI t, vI v, vI p, vI mn, vI lt, vI i, vI j, vI v_q, vI e2_124, vI k2_124], [vI 6, vR (y + 20)], aq_h m s F c_6)) rfl rfl ?_
          refine am_E.go (t2 := (155, [vR y, vI n, vI t, vI v, vI p, vI mn, vI lt, vI i, vI j, vI v_q, vI e2_124, vI k2_124], [vI i, vI 6, vR (y + 20)], aq_h m s F c_6)) rfl rfl ?_
          refine ae_mul rfl (am_ri (by omega) (by omega)) ?_
          show am_E _ (156, [vR y, vI n, vI t, vI v, vI p, vI mn, vI lt, vI i, vI j, vI v_q, vI e2_124, vI k2_124], [vI (6 * i), vR (y + 20)], aq_h m s F c_6) _
          refine am_E.go (t2 := (158, [vR y, vI n, vI t, vI v, vI p, vI mn, vI lt, vI i, vI j, vI v_q, vI e2_124, vI k2_124], [vI j, vI (6 * i), vR (y + 20)], aq_h m s F c_6)) rfl rfl ?_
          refine ae_add rfl (am_ri (by omega) (by omega)) ?_
          show am_E _ (159, [vR y, vI n, vI t, vI v, vI p, vI mn, vI lt, vI i, vI j, vI v_q, vI e2_124, vI k2_124], [vI ((6 * i) + j), vR (y + 20)], aq_h m s F c_6) _
          refine am_E.go (t2 := (161, [vR y, vI n, vI t, vI v, vI p, vI mn, vI lt, vI i, vI j, vI v_q, vI e2_124, vI k2_124], [vI e2_124, vI ((6 * i) + j), vR (y + 20)], aq_h m s F c_6)) rfl rfl ?_
          refine aq_as (kd := 0) rfl rfl (by omega) hG20 (by omega) (by omega) rfl rfl ?_
          show am_E _ (162, [vR y, vI n, vI t, vI v, vI p, vI mn, vI lt, vI i, vI j, vI v_q, vI e2_124, vI k2_124], [], aq_h m s F (aq_u c_6 (y + 20) ((6 * i) + j) e2_124)) _
          generalize hdc_7 : aq_u c_6 (y + 20) ((6 * i) + j) e2_124 = c_7
          have sc_7 := aq_smu sc_6 hdc_7 (mo_Sk (by decide) (by decide))
          have hobc_7 := mo_ku hob2_124 hdc_7 (Or.inl (by omega))
          have hffc_7 := ff_u hff2_124 hdc_7 (by omega) (by omega) hmn (by omega) (by omega)
          refine ae_iinc rfl rfl (am_ri (by omega) (by omega)) ?_
          show am_E _ (165, [vR y, vI n, vI t, vI v, vI p, vI mn, vI lt, vI i, vI (j + 1), vI v_q, vI e2_124, vI k2_124], [], aq_h m s F c_7) _
          refine am_E.go (t2 := (85, [vR y, vI n, vI t, vI v, vI p, vI mn, vI lt, vI i, vI (j + 1), vI v_q, vI e2_124, vI k2_124], [], aq_h m s F c_7)) rfl rfl ?_
          exact qm_free_j ⟨hm, hFo, hG5, hG6, hG7, hG8, hG9, hG10, hG11, hG12, hG13, hG14, hG15, hG16, hG17, hG18, hG19, hG20, hG21, hG22, hG23⟩ hI hn1 hn4 ht0 ht1 hp0 hp1 hP hmn0 hmn hl0 hl1 d i (j + 1) (vI v_q) (vI e2_124) (vI k2_124) c_7 sc_7 (by omega) (by omega) (by omega) (by omega) hobc_7 hffc_7 (by omega) K0

theorem qm_free_i {m s : Nat} {F : aq_F} {c0 : aq_C} {y : Nat} (hO : mo_0 m F y) (hI : mo_I y c0) {n t v p mn lt : Int} (hn1 : 1 ≤ n) (hn4 : n ≤ 4) (ht0 : 0 ≤ t) (ht1 : t ≤ n) (hp0 : 2 ≤ p) (hp1 : p ≤ 997) (hP : nm_P p) (hmn0 : 0 ≤ mn) (hmn : mn ≤ 6) (hl0 : 0 ≤ lt) (hl1 : lt < p) : ∀ (d : Nat) (i : Int) (v8 : am_V) (v9 : am_V) (v10 : am_V) (v11 : am_V) (c : aq_C) (hs : aq_sm (mo_S y) c0 c) (h0 : 0 ≤ i) (h1 : i ≤ mn) (hob : mo_k y c0 c) (hff : ff_ y p mn i 0 c) (hd : mn - i < (d : Int)), am_E ac_X5_free (75, [vR y, vI n, vI t, vI v, vI p, vI mn, vI lt, vI i, v8, v9, v10, v11], [], aq_h m s F c) (aq_Z m s F (fun a => y ≤ a ∧ a < y + 24) c0 (fun r d => aq_vi r ∧ mo_I y d))
  | 0, i, v8, v9, v10, v11, c, hs, h0, h1, hob, hff, hd => by exfalso; omega
  | d + 1, i, v8, v9, v10, v11, c, hs, h0, h1, hob, hff, hd => by
    obtain ⟨hm, hFo, hG5, hG6, hG7, hG8, hG9, hG10, hG11, hG12, hG13, hG14, hG15, hG16, hG17, hG18, hG19, hG20, hG21, hG22, hG23⟩ := hO
    refine am_E.go (t2 := (77, [vR y, vI n, vI t, vI v, vI p, vI mn, vI lt, vI i, v8, v9, v10, v11], [vI i], aq_h m s F c)) rfl rfl ?_
    refine am_E.go (t2 := (79, [vR y, vI n, vI t, vI v, vI p, vI mn, vI lt, vI i, v8, v9, v10, v11], [vI mn, vI i], aq_h m s F c)) rfl rfl ?_
    refine ae_icmp rfl (fun (q_1 : mn ≤ i) => ?_) (fun (q_1 : i < mn) => ?_)
    · refine am_E.go (t2 := (175, [vR y, vI n, vI t, vI v, vI p, vI mn, vI lt, vI i, v8, v9, v10, v11], [vI 0], aq_h m s F c)) rfl rfl ?_
      refine am_E.go (t2 := (177, [vR y, vI n, vI t, vI v, vI p, vI mn, vI lt, vI 0, v8, v9, v10, v11], [], aq_h m s F c)) rfl rfl ?_
      refine am_E.go (t2 := (178, [vR y, vI n, vI t, vI v, vI p, vI mn, vI lt, vI 0, v8, v9, v10, v11], [vI 0], aq_h m s F c)) rfl rfl ?_
      refine am_E.go (t2 := (180, [vR y, vI n, vI t, vI v, vI p, vI mn, vI lt, vI 0, vI 0, v9, v10, v11], [], aq_h m s F c)) rfl rfl ?_
      exact qm_free_r ⟨hm, hFo, hG5, hG6, hG7, hG8, hG9, hG10, hG11, hG12, hG13, hG14, hG15, hG16, hG17, hG18, hG19, hG20, hG21, hG22, hG23⟩ hI hn1 hn4 ht0 ht1 hp0 hp1 hP hmn0 hmn hl0 hl1 8 0 0 (v9) (v10) (v11) c hs (by omega) (by omega) (by omega) (by omega) hob (fun a b a1 a2 a3 a4 => hff a b a1 a3 a4 (by omega)) (by omega)
    · refine am_E.go (t2 := (83, [vR y, vI n, vI t, vI v, vI p, vI mn, vI lt, vI i, v8, v9, v10, v11], [vI 0], aq_h m s F c)) rfl rfl ?_
      refine am_E.go (t2 := (85, [vR y, vI n, vI t, vI v, vI p, vI mn, vI lt, vI i, vI 0, v9, v10, v11], [], aq_h m s F c)) rfl rfl ?_
      refine qm_free_j ⟨hm, hFo, hG5, hG6, hG7, hG8, hG9, hG10, hG11, hG12, hG13, hG14, hG15, hG16, hG17, hG18, hG19, hG20, hG21, hG22, hG23⟩ hI hn1 hn4 ht0 ht1 hp0 hp1 hP hmn0 hmn hl0 hl1 8 i 0 (v9) (v10) (v11) c hs (by omega) (by omega) (by omega) (by omega) hob hff (by omega) ?_
      · intro j2_85 v92_85 v102_85 v112_85 c_2 sc_2 hob2_85 hff2_85
        refine ae_iinc rfl rfl (am_ri (by omega) (by omega)) ?_
        show am_E _ (171, [vR y, vI n, vI t, vI v, vI p, vI mn, vI lt, vI (i + 1), vI j2_85, v92_85, v102_85, v112_85], [], aq_h m s F c_2) _
        refine am_E.go (t2 := (75, [vR y, vI n, vI t, vI v, vI p, vI mn, vI lt, vI (i + 1), vI j2_85, v92_85, v102_85, v112_85], [], aq_h m s F c_2)) rfl rfl ?_
        exact qm_free_i ⟨hm, hFo, hG5, hG6, hG7, hG8, hG9, hG10, hG11, hG12, hG13, hG14, hG15, hG16, hG17, hG18, hG19, hG20, hG21, hG22, hG23⟩ hI hn1 hn4 ht0 ht1 hp0 hp1 hP hmn0 hmn hl0 hl1 d (i + 1) (vI j2_85) (v92_85) (v102_85) (v112_85) c_2 sc_2 (by omega) (by omega) hob2_85 hff2_85 (by omega)

theorem qm_X5_free {m s : Nat} {F : aq_F} {c : aq_C} {y : Nat} (hC : mo_C m F y) (hI : mo_I y c) {n t v p : Int} : am_E ac_X5_free (0, [vR y, vI n, vI t, vI v, vI p, vU, vU, vU, vU, vU, vU, vU], [], aq_h m s F c) (aq_Z m s F (fun a => y ≤ a ∧ a < y + 24) c (fun r d => aq_vi r ∧ mo_I y d)) := by
  obtain ⟨⟨hm, hFo, hG5, hG6, hG7, hG8, hG9, hG10, hG11, hG12, hG13, hG14, hG15, hG16, hG17, hG18, hG19, hG20, hG21, hG22, hG23⟩, ⟨tbl, hT1, hTt⟩, ⟨tA, tB, tD, hL1, hL2, hL3, hLt⟩⟩ := hC
  refine am_E.go (t2 := (1, [vR y, vI n, vI t, vI v, vI p, vU, vU, vU, vU, vU, vU, vU], [vI n], aq_h m s F c)) rfl rfl ?_
  refine am_E.go (t2 := (2, [vR y, vI n, vI t, vI v, vI p, vU, vU, vU, vU, vU, vU, vU], [vI t, vI n], aq_h m s F c)) rfl rfl ?_
  refine am_E.call rfl rfl rfl (Nat.le_of_ble_eq_true rfl) (qm_areHalves) ?_
  rintro r5 h5 ⟨rfl, v_1, rfl, hv_1⟩
  show am_E _ (5, [vR y, vI n, vI t, vI v, vI p, vU, vU, vU, vU, vU, vU, vU], [vI v_1], aq_h m s F c) _
  refine ae_if0 rfl (fun (q_2 : v_1 = 0) => ?_) (fun (q_2 : v_1 ≠ 0) => ?_)
  · refine am_E.go (t2 := (46, [vR y, vI n, vI t, vI v, vI p, vU, vU, vU, vU, vU, vU, vU], [vI (-1)], aq_h m s F c)) rfl rfl ?_
    refine am_E.ret rfl rfl ?_
    exact ⟨_, rfl, aq_smi (aq_sm0 (c := c) (S := mo_S y)) (fun a h => mo_Sa h), ⟨_, rfl⟩, mo_Ik hI (aq_sm0 (c := c) (S := mo_S y)) (mo_k0 (y := y) (c := c))⟩
  · refine am_E.go (t2 := (9, [vR y, vI n, vI t, vI v, vI p, vU, vU, vU, vU, vU, vU, vU], [vI v], aq_h m s F c)) rfl rfl ?_
    refine am_E.go (t2 := (10, [vR y, vI n, vI t, vI v, vI p, vU, vU, vU, vU, vU, vU, vU], [vL v], aq_h m s F c)) rfl rfl ?_
    refine am_E.go (t2 := (13, [vR y, vI n, vI t, vI v, vI p, vU, vU, vU, vU, vU, vU, vU], [vL (-1000), vL v], aq_h m s F c)) rfl rfl ?_
    refine am_E.go (t2 := (16, [vR y, vI n, vI t, vI v, vI p, vU, vU, vU, vU, vU, vU, vU], [vL 1000, vL (-1000), vL v], aq_h m s F c)) rfl rfl ?_
    refine am_E.call rfl rfl rfl (Nat.le_of_ble_eq_true rfl) (qm_in) ?_
    rintro r5 h5 ⟨rfl, v_3, rfl, hv_3⟩
    show am_E _ (19, [vR y, vI n, vI t, vI v, vI p, vU, vU, vU, vU, vU, vU, vU], [vI v_3], aq_h m s F c) _
    refine ae_if0 rfl (fun (q_4 : v_3 = 0) => ?_) (fun (q_4 : v_3 ≠ 0) => ?_)
    · refine am_E.go (t2 := (46, [vR y, vI n, vI t, vI v, vI p, vU, vU, vU, vU, vU, vU, vU], [vI (-1)], aq_h m s F c)) rfl rfl ?_
      refine am_E.ret rfl rfl ?_
      exact ⟨_, rfl, aq_smi (aq_sm0 (c := c) (S := mo_S y)) (fun a h => mo_Sa h), ⟨_, rfl⟩, mo_Ik hI (aq_sm0 (c := c) (S := mo_S y)) (mo_k0 (y := y) (c := c))⟩
    · refine am_E.go (t2 := (24, [vR y, vI n, vI t, vI v, vI p, vU, vU, vU, vU, vU, vU, vU], [vI p], aq_h m s F c)) rfl rfl ?_
      refine am_E.go (t2 := (25, [vR y, vI n, vI t, vI v, vI p, vU, vU, vU, vU, vU, vU, vU], [vL p], aq_h m s F c)) rfl rfl ?_
      refine am_E.go (t2 := (28, [vR y, vI n, vI t, vI v, vI p, vU, vU, vU, vU, vU, vU, vU], [vL 2, vL p], aq_h m s F c)) rfl rfl ?_
      refine am_E.go (t2 := (31, [vR y, vI n, vI t, vI v, vI p, vU, vU, vU, vU, vU, vU, vU], [vL 997, vL 2, vL p], aq_h m s F c)) rfl rfl ?_
      refine am_E.call rfl rfl rfl (Nat.le_of_ble_eq_true rfl) (qm_in) ?_
      rintro r5 h5 ⟨rfl, v_5, rfl, hv_5⟩
      show am_E _ (34, [vR y, vI n, vI t, vI v, vI p, vU, vU, vU, vU, vU, vU, vU], [vI v_5], aq_h m s F c) _
      refine ae_if0 rfl (fun (q_6 : v_5 = 0) => ?_) (fun (q_6 : v_5 ≠ 0) => ?_)
      · refine am_E.go (t2 := (46, [vR y, vI n, vI t, vI v, vI p, vU, vU, vU, vU, vU, vU, vU], [vI (-1)], aq_h m s F c)) rfl rfl ?_
        refine am_E.ret rfl rfl ?_
        exact ⟨_, rfl, aq_smi (aq_sm0 (c := c) (S := mo_S y)) (fun a h => mo_Sa h), ⟨_, rfl⟩, mo_Ik hI (aq_sm0 (c := c) (S := mo_S y)) (mo_k0 (y := y) (c := c))⟩
      · refine am_E.go (t2 := (39, [vR y, vI n, vI t, vI v, vI p, vU, vU, vU, vU, vU, vU, vU], [vI p], aq_h m s F c)) rfl rfl ?_
        refine am_E.call rfl rfl rfl (Nat.le_of_ble_eq_true rfl) (qm_isPrime (by omega) (by omega)) ?_
        rintro r5 h5 ⟨rfl, v_p, rfl, hv_p⟩
        show am_E _ (42, [vR y, vI n, vI t, vI v, vI p, vU, vU, vU, vU, vU, vU, vU], [vI v_p], aq_h m s F c) _
        refine ae_if0 rfl (fun (q_7 : v_p ≠ 0) => ?_) (fun (q_7 : v_p = 0) => ?_)
        · refine am_E.go (t2 := (48, [vR y, vI n, vI t, vI v, vI p, vU, vU, vU, vU, vU, vU, vU], [vR y], aq_h m s F c)) rfl rfl ?_
          refine am_E.go (t2 := (49, [vR y, vI n, vI t, vI v, vI p, vU, vU, vU, vU, vU, vU, vU], [vI n, vR y], aq_h m s F c)) rfl rfl ?_
          refine am_E.go (t2 := (50, [vR y, vI n, vI t, vI v, vI p, vU, vU, vU, vU, vU, vU, vU], [vI t, vI n, vR y], aq_h m s F c)) rfl rfl ?_
          refine am_E.go (t2 := (51, [vR y, vI n, vI t, vI v, vI p, vU, vU, vU, vU, vU, vU, vU], [vI (-1), vI t, vI n, vR y], aq_h m s F c)) rfl rfl ?_
          refine am_E.go (t2 := (52, [vR y, vI n, vI t, vI v, vI p, vU, vU, vU, vU, vU, vU, vU], [vR y, vI (-1), vI t, vI n, vR y], aq_h m s F c)) rfl rfl ?_
          refine aq_gf (v := vR (y + 18)) rfl (by omega) hFo (by decide) rfl ?_
          show am_E _ (55, [vR y, vI n, vI t, vI v, vI p, vU, vU, vU, vU, vU, vU, vU], [vR (y + 18), vI (-1), vI t, vI n, vR y], aq_h m s F c) _
          refine aq_callv (y := 5) (as2 := [vI n, vI t, vI (-1), vR (y + 18)]) (rest := []) rfl rfl (by decide) (Nat.le_of_ble_eq_true rfl) rfl rfl (Nat.le_of_ble_eq_true rfl) (by omega) hFo rfl (Nat.le_of_ble_eq_true rfl) (qm_lay (y := y) (a := y + 18) (by omega) hFo (by omega) hG18 (n := n) (t := t) (by omega) (by omega) (by omega) (by omega) (Or.inl rfl)) ?_
          rintro r5 h5 ⟨c_8, rfl, sc_8, vc_8, rfl, hmc_8, hdc_8⟩
          show am_E _ (58, [vR y, vI n, vI t, vI v, vI p, vU, vU, vU, vU, vU, vU, vU], [vI vc_8], aq_h m s F c_8) _
          have hm5 := hmc_8 rfl
          have hNb := hv_Nb n t
          have hPp : nm_P p := by rcases hv_p with h | h; exact absurd h (by omega); exact h.2
          refine am_E.go (t2 := (60, [vR y, vI n, vI t, vI v, vI p, vI vc_8, vU, vU, vU, vU, vU, vU], [], aq_h m s F c_8)) rfl rfl ?_
          refine am_E.go (t2 := (61, [vR y, vI n, vI t, vI v, vI p, vI vc_8, vU, vU, vU, vU, vU, vU], [vI v], aq_h m s F c_8)) rfl rfl ?_
          refine am_E.go (t2 := (63, [vR y, vI n, vI t, vI v, vI p, vI vc_8, vU, vU, vU, vU, vU, vU], [vI p, vI v], aq_h m s F c_8)) rfl rfl ?_
          have e_tm := nm_tm (v := v) (p := p) (by omega)
          refine ae_bin (z := v.tmod p) rfl rfl (am_rem_s (by omega)) ?_
          generalize v.tmod p = vt at e_tm ⊢
          refine am_E.go (t2 := (66, [vR y, vI n, vI t, vI v, vI p, vI vc_8, vU, vU, vU, vU, vU, vU], [vI p, vI vt], aq_h m s F c_8)) rfl rfl ?_
          refine ae_add rfl (am_ri (by omega) (by omega)) ?_
          show am_E _ (67, [vR y, vI n, vI t, vI v, vI p, vI vc_8, vU, vU, vU, vU, vU, vU], [vI (vt + p)], aq_h m s F c_8) _
          refine am_E.go (t2 := (69, [vR y, vI n, vI t, vI v, vI p, vI vc_8, vU, vU, vU, vU, vU, vU], [vI p, vI (vt + p)], aq_h m s F c_8)) rfl rfl ?_
          have eu_9 := nm_em (a := (vt + p)) (p := p) (by omega)
          refine ae_bin (z := (vt + p) % p) rfl rfl (am_rem_e (by omega) (by omega)) ?_
          generalize (vt + p) % p = u_9 at eu_9 ⊢
          refine am_E.go (t2 := (72, [vR y, vI n, vI t, vI v, vI p, vI vc_8, vI u_9, vU, vU, vU, vU, vU], [], aq_h m s F c_8)) rfl rfl ?_
          refine am_E.go (t2 := (73, [vR y, vI n, vI t, vI v, vI p, vI vc_8, vI u_9, vU, vU, vU, vU, vU], [vI 0], aq_h m s F c_8)) rfl rfl ?_
          refine am_E.go (t2 := (75, [vR y, vI n, vI t, vI v, vI p, vI vc_8, vI u_9, vI 0, vU, vU, vU, vU], [], aq_h m s F c_8)) rfl rfl ?_
          exact qm_free_i ⟨hm, hFo, hG5, hG6, hG7, hG8, hG9, hG10, hG11, hG12, hG13, hG14, hG15, hG16, hG17, hG18, hG19, hG20, hG21, hG22, hG23⟩ hI (by omega) (by omega) (by omega) (by omega) (by omega) (by omega) hPp (by omega) (by omega) (by omega) (by omega) 8 0 (vU) (vU) (vU) (vU) c_8 (aq_smt (aq_sm0 (c := c) (S := mo_S y)) (aq_smi sc_8 (fun a h => by unfold mo_S; omega))) (by omega) (by omega) (mo_ks (mo_k0 (y := y) (c := c)) sc_8 (by omega)) (fun a b a1 a2 a3 a4 => absurd a4 (by omega)) (by omega)
        · refine am_E.go (t2 := (46, [vR y, vI n, vI t, vI v, vI p, vU, vU, vU, vU, vU, vU, vU], [vI (-1)], aq_h m s F c)) rfl rfl ?_
          refine am_E.ret rfl rfl ?_
          exact ⟨_, rfl, aq_smi (aq_sm0 (c := c) (S := mo_S y)) (fun a h => mo_Sa h), ⟨_, rfl⟩, mo_Ik hI (aq_sm0 (c := c) (S := mo_S y)) (mo_k0 (y := y) (c := c))⟩
/-- the first free point from p on -/
def dc_p (w : Int → Int) : Nat → Int → Int
  | 0, p => p
  | d + 1, p => if w p = 0 then p else dc_p w d (p + 1)
/-- the partner: as many free points are passed over as ch tells -/
def dc_q (w : Int → Int) : Nat → Int → Int → Int
  | 0, _, q => q
  | d + 1, ch, q => if w q = 0 ∧ ch ≤ 0 then q else dc_q w d (ch - if w q = 0 then 1 else 0) (q + 1)
def dc_u (w : Int → Int) (p : Int) : Int → Int := fun i => if i = p then 1 else w i
/-- does a search end, inside the eight points? -/
def dc_pb (w : Int → Int) : Nat → Int → Bool
  | 0, _ => false
  | d + 1, p => decide (p < 8) && (decide (w p = 0) || dc_pb w d (p + 1))
def dc_qb (w : Int → Int) : Nat → Int → Int → Bool
  | 0, _, _ => false
  | d + 1, ch, q => decide (q < 8) && (decide (w q = 0 ∧ ch ≤ 0) || dc_qb w d (ch - if w q = 0 then 1 else 0) (q + 1))
/-- decode goes well, and finds the pairs of prt -/
def dc_b (n b : Int) : Nat → Int → Int → Int → (Int → Int) → Bool
  | 0, _, _, _, _ => false
  | d + 1, many, left, ways, w => if many ≤ 0 then (List.range (2 * n).toNat).all (fun i => decide (w (i : Int) = 1)) else
    decide (1 ≤ ways / (many - 1)) && dc_pb w 9 0 && dc_qb (dc_u w (dc_p w 9 0)) 9 (left / (ways / (many - 1))) (dc_p w 9 0 + 1) &&
    decide (dc_p w 9 0 < 2 * n) && decide (dc_q (dc_u w (dc_p w 9 0)) 9 (left / (ways / (many - 1))) (dc_p w 9 0 + 1) < 2 * n) &&
    decide (prt n b (dc_p w 9 0) = dc_q (dc_u w (dc_p w 9 0)) 9 (left / (ways / (many - 1))) (dc_p w 9 0 + 1)) &&
    decide (prt n b (dc_q (dc_u w (dc_p w 9 0)) 9 (left / (ways / (many - 1))) (dc_p w 9 0 + 1)) = dc_p w 9 0) &&
    dc_b n b d (many - 2) (left % (ways / (many - 1))) (ways / (many - 1)) (dc_u (dc_u w (dc_p w 9 0)) (dc_q (dc_u w (dc_p w 9 0)) 9 (left / (ways / (many - 1))) (dc_p w 9 0 + 1)))
theorem dc_1 : ∀ b : Nat, b < 1 → dc_b 1 b 5 2 b 1 (fun _ => 0) = true := by decide +kernel
theorem dc_2 : ∀ b : Nat, b < 3 → dc_b 2 b 5 4 b 3 (fun _ => 0) = true := by decide +kernel
theorem dc_3 : ∀ b : Nat, b < 15 → dc_b 3 b 5 6 b 15 (fun _ => 0) = true := by decide +kernel
theorem dc_4 : ∀ b : Nat, b < 105 → dc_b 4 b 5 8 b 105 (fun _ => 0) = true := by decide +kernel
theorem dc_n {n b : Int} (h1 : 1 ≤ n) (h4 : n ≤ 4) (h0 : 0 ≤ b) (hb : b < bx_K n) : dc_b n b 5 (2 * n) b (bx_K n) (fun _ => 0) = true := by
  have h : n = 1 ∨ n = 2 ∨ n = 3 ∨ n = 4 := by omega
  have eb : ((b.toNat : Nat) : Int) = b := Int.toNat_of_nonneg h0
  rcases h with h | h | h | h <;> subst h
  · have hk : bx_K 1 = 1 := rfl
    have := dc_1 b.toNat (by omega)
    rw [eb] at this
    exact this
  · have hk : bx_K 2 = 3 := rfl
    have := dc_2 b.toNat (by omega)
    rw [eb] at this
    exact this
  · have hk : bx_K 3 = 15 := rfl
    have := dc_3 b.toNat (by omega)
    rw [eb] at this
    exact this
  · have hk : bx_K 4 = 105 := rfl
    have := dc_4 b.toNat (by omega)
    rw [eb] at this
    exact this
theorem dc_pr {w : Int → Int} : ∀ (d : Nat) (p : Int), dc_pb w d p = true → p ≤ dc_p w d p ∧ dc_p w d p < 8 ∧ w (dc_p w d p) = 0
  | 0, p, h => by cases h
  | d + 1, p, h => by
    rw [dc_pb, Bool.and_eq_true, Bool.or_eq_true] at h
    obtain ⟨h1, h2⟩ := h
    have h1 := of_decide_eq_true h1
    rw [dc_p]
    by_cases e : w p = 0
    · rw [if_pos e]
      exact ⟨Int.le_refl p, h1, e⟩
    · rw [if_neg e]
      rcases h2 with h2 | h2
      · exact absurd (of_decide_eq_true h2) e
      · have := dc_pr d (p + 1) h2
        exact ⟨by omega, this.2.1, this.2.2⟩
theorem dc_qr {w : Int → Int} : ∀ (d : Nat) (ch q : Int), dc_qb w d ch q = true → q ≤ dc_q w d ch q ∧ dc_q w d ch q < 8
  | 0, ch, q, h => by cases h
  | d + 1, ch, q, h => by
    rw [dc_qb, Bool.and_eq_true, Bool.or_eq_true] at h
    obtain ⟨h1, h2⟩ := h
    have h1 := of_decide_eq_true h1
    rw [dc_q]
    by_cases e : w q = 0 ∧ ch ≤ 0
    · rw [if_pos e]
      exact ⟨Int.le_refl q, h1⟩
    · rw [if_neg e]
      rcases h2 with h2 | h2
      · exact absurd (of_decide_eq_true h2) e
      · have := dc_qr d _ (q + 1) h2
        exact ⟨by omega, this.2⟩
