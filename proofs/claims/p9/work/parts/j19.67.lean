
theorem ly_10_m : (ly 1 0 (-1) 2 3 0 0).1 = 0 := by decide +kernel
theorem ly_11_m : (ly 1 1 (-1) 2 3 0 0).1 = 1 := by decide +kernel
theorem ly_11_0 : ly 1 1 0 2 3 0 0 = (0, 1) := by decide +kernel
theorem ly_20_m : (ly 2 0 (-1) 9 10 0 0).1 = 1 := by decide +kernel
theorem ly_20_0 : ly 2 0 0 9 10 0 0 = (0, 3) := by decide +kernel
theorem ly_21_m : (ly 2 1 (-1) 9 10 0 0).1 = 0 := by decide +kernel
theorem ly_22_m : (ly 2 2 (-1) 9 10 0 0).1 = 1 := by decide +kernel
theorem ly_22_0 : ly 2 2 0 9 10 0 0 = (0, 8) := by decide +kernel
theorem ly_30_m : (ly 3 0 (-1) 64 65 0 0).1 = 0 := by decide +kernel
theorem ly_31_m : (ly 3 1 (-1) 64 65 0 0).1 = 2 := by decide +kernel
theorem ly_31_0 : ly 3 1 0 64 65 0 0 = (0, 19) := by decide +kernel
theorem ly_31_1 : ly 3 1 1 64 65 0 0 = (1, 57) := by decide +kernel
theorem ly_32_m : (ly 3 2 (-1) 64 65 0 0).1 = 0 := by decide +kernel
theorem ly_33_m : (ly 3 3 (-1) 64 65 0 0).1 = 1 := by decide +kernel
theorem ly_33_0 : ly 3 3 0 64 65 0 0 = (0, 63) := by decide +kernel
theorem ly_40_m : (ly 4 0 (-1) 625 626 0 0).1 = 2 := by decide +kernel
theorem ly_40_0 : ly 4 0 0 625 626 0 0 = (0, 142) := by decide +kernel
theorem ly_40_1 : ly 4 0 1 625 626 0 0 = (1, 430) := by decide +kernel
theorem ly_41_m : (ly 4 1 (-1) 625 626 0 0).1 = 0 := by decide +kernel
theorem ly_42_m : (ly 4 2 (-1) 625 626 0 0).1 = 3 := by decide +kernel
theorem ly_42_0 : ly 4 2 0 625 626 0 0 = (0, 149) := by decide +kernel
theorem ly_42_1 : ly 4 2 1 625 626 0 0 = (1, 559) := by decide +kernel
theorem ly_42_2 : ly 4 2 2 625 626 0 0 = (2, 617) := by decide +kernel
theorem ly_43_m : (ly 4 3 (-1) 625 626 0 0).1 = 0 := by decide +kernel
theorem ly_44_m : (ly 4 4 (-1) 625 626 0 0).1 = 1 := by decide +kernel
theorem ly_44_0 : ly 4 4 0 625 626 0 0 = (0, 624) := by decide +kernel
theorem qm_lay {m s : Nat} {F : aq_F} {c : aq_C} {y a : Nat} (hyy : y < m) (hFy : F y = (15, 27, mo_t y)) (ha : a < m) (hFa : F a = (0, 4, fun _ => .inl 0)) {n t num : Int} (hn1 : 1 ≤ n) (hn4 : n ≤ 4) (ht0 : 0 ≤ t) (ht1 : t ≤ n) (hnum : num = -1 ∨ (0 ≤ num ∧ num < hv_N n t)) : am_E ac_X5_lay (0, [vR y, vI n, vI t, vI num, vR a, vU, vU, vU, vU, vU], [], aq_h m s F c) (aq_Z m s F (fun b => b = a) c (fun r d => ∃ v, r = some (vI v) ∧ (num = -1 → v = hv_N n t) ∧ (0 ≤ num → ∀ i, 0 ≤ i → i < n → d a i = hv_d n t num i))) := by
  have h : n = 1 ∨ n = 2 ∨ n = 3 ∨ n = 4 := by omega
  rcases h with h | h | h | h <;> subst h
  · have h : t = 0 ∨ t = 1 := by omega
    rcases h with h | h <;> subst h
    · have hN : hv_N 1 0 = 0 := rfl
      have h : num = -1 := by omega
      subst h
      refine (qm_lay1 hyy hFy ha hFa).imp ?_
      rintro r h2 ⟨d, rfl, hs, rfl, hz⟩
      exact ⟨d, rfl, hs, _, rfl, fun _ => ly_10_m, fun h => absurd h (by decide)⟩
    · have hN : hv_N 1 1 = 1 := rfl
      have h : num = -1 ∨ num = 0 := by omega
      rcases h with h | h <;> subst h
      · refine (qm_lay1 hyy hFy ha hFa).imp ?_
        rintro r h2 ⟨d, rfl, hs, rfl, hz⟩
        exact ⟨d, rfl, hs, _, rfl, fun _ => ly_11_m, fun h => absurd h (by decide)⟩
      · refine (qm_lay1 hyy hFy ha hFa).imp ?_
        rintro r h2 ⟨d, rfl, hs, rfl, hz⟩
        rw [ly_11_0] at hz ⊢
        refine ⟨d, rfl, hs, _, rfl, fun h => absurd h (by decide), fun _ i h5 h6 => ?_⟩
        rw [hz (by decide) i h5 h6]
        have h7 : i = 0 := by omega
        subst h7
        rfl
  · have h : t = 0 ∨ t = 1 ∨ t = 2 := by omega
    rcases h with h | h | h <;> subst h
    · have hN : hv_N 2 0 = 1 := rfl
      have h : num = -1 ∨ num = 0 := by omega
      rcases h with h | h <;> subst h
      · refine (qm_lay2 hyy hFy ha hFa).imp ?_
        rintro r h2 ⟨d, rfl, hs, rfl, hz⟩
        exact ⟨d, rfl, hs, _, rfl, fun _ => ly_20_m, fun h => absurd h (by decide)⟩
      · refine (qm_lay2 hyy hFy ha hFa).imp ?_
        rintro r h2 ⟨d, rfl, hs, rfl, hz⟩
        rw [ly_20_0] at hz ⊢
        refine ⟨d, rfl, hs, _, rfl, fun h => absurd h (by decide), fun _ i h5 h6 => ?_⟩
        rw [hz (by decide) i h5 h6]
        have h7 : i = 0 ∨ i = 1 := by omega
        rcases h7 with h7 | h7 <;> subst h7 <;> rfl
    · have hN : hv_N 2 1 = 0 := rfl
      have h : num = -1 := by omega
      subst h
      refine (qm_lay2 hyy hFy ha hFa).imp ?_
      rintro r h2 ⟨d, rfl, hs, rfl, hz⟩
      exact ⟨d, rfl, hs, _, rfl, fun _ => ly_21_m, fun h => absurd h (by decide)⟩
    · have hN : hv_N 2 2 = 1 := rfl
      have h : num = -1 ∨ num = 0 := by omega
      rcases h with h | h <;> subst h
      · refine (qm_lay2 hyy hFy ha hFa).imp ?_
        rintro r h2 ⟨d, rfl, hs, rfl, hz⟩
        exact ⟨d, rfl, hs, _, rfl, fun _ => ly_22_m, fun h => absurd h (by decide)⟩
      · refine (qm_lay2 hyy hFy ha hFa).imp ?_
        rintro r h2 ⟨d, rfl, hs, rfl, hz⟩
        rw [ly_22_0] at hz ⊢
        refine ⟨d, rfl, hs, _, rfl, fun h => absurd h (by decide), fun _ i h5 h6 => ?_⟩
        rw [hz (by decide) i h5 h6]
        have h7 : i = 0 ∨ i = 1 := by omega
        rcases h7 with h7 | h7 <;> subst h7 <;> rfl
  · have h : t = 0 ∨ t = 1 ∨ t = 2 ∨ t = 3 := by omega
    rcases h with h | h | h | h <;> subst h
    · have hN : hv_N 3 0 = 0 := rfl
      have h : num = -1 := by omega
      subst h
      refine (qm_lay3 hyy hFy ha hFa).imp ?_
      rintro r h2 ⟨d, rfl, hs, rfl, hz⟩
      exact ⟨d, rfl, hs, _, rfl, fun _ => ly_30_m, fun h => absurd h (by decide)⟩
    · have hN : hv_N 3 1 = 2 := rfl
      have h : num = -1 ∨ num = 0 ∨ num = 1 := by omega
      rcases h with h | h | h <;> subst h
      · refine (qm_lay3 hyy hFy ha hFa).imp ?_
        rintro r h2 ⟨d, rfl, hs, rfl, hz⟩
        exact ⟨d, rfl, hs, _, rfl, fun _ => ly_31_m, fun h => absurd h (by decide)⟩
      · refine (qm_lay3 hyy hFy ha hFa).imp ?_
        rintro r h2 ⟨d, rfl, hs, rfl, hz⟩
        rw [ly_31_0] at hz ⊢
        refine ⟨d, rfl, hs, _, rfl, fun h => absurd h (by decide), fun _ i h5 h6 => ?_⟩
        rw [hz (by decide) i h5 h6]
        have h7 : i = 0 ∨ i = 1 ∨ i = 2 := by omega
        rcases h7 with h7 | h7 | h7 <;> subst h7 <;> rfl
      · refine (qm_lay3 hyy hFy ha hFa).imp ?_
        rintro r h2 ⟨d, rfl, hs, rfl, hz⟩
        rw [ly_31_1] at hz ⊢
        refine ⟨d, rfl, hs, _, rfl, fun h => absurd h (by decide), fun _ i h5 h6 => ?_⟩
        rw [hz (by decide) i h5 h6]
        have h7 : i = 0 ∨ i = 1 ∨ i = 2 := by omega
        rcases h7 with h7 | h7 | h7 <;> subst h7 <;> rfl
    · have hN : hv_N 3 2 = 0 := rfl
      have h : num = -1 := by omega
      subst h
      refine (qm_lay3 hyy hFy ha hFa).imp ?_
      rintro r h2 ⟨d, rfl, hs, rfl, hz⟩
      exact ⟨d, rfl, hs, _, rfl, fun _ => ly_32_m, fun h => absurd h (by decide)⟩
    · have hN : hv_N 3 3 = 1 := rfl
      have h : num = -1 ∨ num = 0 := by omega
      rcases h with h | h <;> subst h
      · refine (qm_lay3 hyy hFy ha hFa).imp ?_
        rintro r h2 ⟨d, rfl, hs, rfl, hz⟩
        exact ⟨d, rfl, hs, _, rfl, fun _ => ly_33_m, fun h => absurd h (by decide)⟩
      · refine (qm_lay3 hyy hFy ha hFa).imp ?_
        rintro r h2 ⟨d, rfl, hs, rfl, hz⟩
        rw [ly_33_0] at hz ⊢
        refine ⟨d, rfl, hs, _, rfl, fun h => absurd h (by decide), fun _ i h5 h6 => ?_⟩
        rw [hz (by decide) i h5 h6]
        have h7 : i = 0 ∨ i = 1 ∨ i = 2 := by omega
        rcases h7 with h7 | h7 | h7 <;> subst h7 <;> rfl
  · have h : t = 0 ∨ t = 1 ∨ t = 2 ∨ t = 3 ∨ t = 4 := by omega
    rcases h with h | h | h | h | h <;> subst h
    · have hN : hv_N 4 0 = 2 := rfl
      have h : num = -1 ∨ num = 0 ∨ num = 1 := by omega
      rcases h with h | h | h <;> subst h
      · refine (qm_lay4 hyy hFy ha hFa).imp ?_
        rintro r h2 ⟨d, rfl, hs, rfl, hz⟩
        exact ⟨d, rfl, hs, _, rfl, fun _ => ly_40_m, fun h => absurd h (by decide)⟩
      · refine (qm_lay4 hyy hFy ha hFa).imp ?_
        rintro r h2 ⟨d, rfl, hs, rfl, hz⟩
        rw [ly_40_0] at hz ⊢
        refine ⟨d, rfl, hs, _, rfl, fun h => absurd h (by decide), fun _ i h5 h6 => ?_⟩
        rw [hz (by decide) i h5 h6]
        have h7 : i = 0 ∨ i = 1 ∨ i = 2 ∨ i = 3 := by omega
        rcases h7 with h7 | h7 | h7 | h7 <;> subst h7 <;> rfl
      · refine (qm_lay4 hyy hFy ha hFa).imp ?_
        rintro r h2 ⟨d, rfl, hs, rfl, hz⟩
        rw [ly_40_1] at hz ⊢
        refine ⟨d, rfl, hs, _, rfl, fun h => absurd h (by decide), fun _ i h5 h6 => ?_⟩
        rw [hz (by decide) i h5 h6]
        have h7 : i = 0 ∨ i = 1 ∨ i = 2 ∨ i = 3 := by omega
        rcases h7 with h7 | h7 | h7 | h7 <;> subst h7 <;> rfl
    · have hN : hv_N 4 1 = 0 := rfl
      have h : num = -1 := by omega
      subst h
      refine (qm_lay4 hyy hFy ha hFa).imp ?_
      rintro r h2 ⟨d, rfl, hs, rfl, hz⟩
      exact ⟨d, rfl, hs, _, rfl, fun _ => ly_41_m, fun h => absurd h (by decide)⟩
    · have hN : hv_N 4 2 = 3 := rfl
      have h : num = -1 ∨ num = 0 ∨ num = 1 ∨ num = 2 := by omega
      rcases h with h | h | h | h <;> subst h
      · refine (qm_lay4 hyy hFy ha hFa).imp ?_
        rintro r h2 ⟨d, rfl, hs, rfl, hz⟩
        exact ⟨d, rfl, hs, _, rfl, fun _ => ly_42_m, fun h => absurd h (by decide)⟩
      · refine (qm_lay4 hyy hFy ha hFa).imp ?_
        rintro r h2 ⟨d, rfl, hs, rfl, hz⟩
        rw [ly_42_0] at hz ⊢
        refine ⟨d, rfl, hs, _, rfl, fun h => absurd h (by decide), fun _ i h5 h6 => ?_⟩
        rw [hz (by decide) i h5 h6]
        have h7 : i = 0 ∨ i = 1 ∨ i = 2 ∨ i = 3 := by omega
        rcases h7 with h7 | h7 | h7 | h7 <;> subst h7 <;> rfl
      · refine (qm_lay4 hyy hFy ha hFa).imp ?_
        rintro r h2 ⟨d, rfl, hs, rfl, hz⟩
        rw [ly_42_1] at hz ⊢
        refine ⟨d, rfl, hs, _, rfl, fun h => absurd h (by decide), fun _ i h5 h6 => ?_⟩
        rw [hz (by decide) i h5 h6]
        have h7 : i = 0 ∨ i = 1 ∨ i = 2 ∨ i = 3 := by omega
        rcases h7 with h7 | h7 | h7 | h7 <;> subst h7 <;> rfl
      · refine (qm_lay4 hyy hFy ha hFa).imp ?_
        rintro r h2 ⟨d, rfl, hs, rfl, hz⟩
        rw [ly_42_2] at hz ⊢
        refine ⟨d, rfl, hs, _, rfl, fun h => absurd h (by decide), fun _ i h5 h6 => ?_⟩
        rw [hz (by decide) i h5 h6]
        have h7 : i = 0 ∨ i = 1 ∨ i = 2 ∨ i = 3 := by omega
        rcases h7 with h7 | h7 | h7 | h7 <;> subst h7 <;> rfl
    · have hN : hv_N 4 3 = 0 := rfl
      have h : num = -1 := by omega
      subst h
      refine (qm_lay4 hyy hFy ha hFa).imp ?_
      rintro r h2 ⟨d, rfl, hs, rfl, hz⟩
      exact ⟨d, rfl, hs, _, rfl, fun _ => ly_43_m, fun h => absurd h (by decide)⟩
    · have hN : hv_N 4 4 = 1 := rfl
      have h : num = -1 ∨ num = 0 := by omega
      rcases h with h | h <;> subst h
      · refine (qm_lay4 hyy hFy ha hFa).imp ?_
        rintro r h2 ⟨d, rfl, hs, rfl, hz⟩
        exact ⟨d, rfl, hs, _, rfl, fun _ => ly_44_m, fun h => absurd h (by decide)⟩
      · refine (qm_lay4 hyy hFy ha hFa).imp ?_
        rintro r h2 ⟨d, rfl, hs, rfl, hz⟩
        rw [ly_44_0] at hz ⊢
        refine ⟨d, rfl, hs, _, rfl, fun h => absurd h (by decide), fun _ i h5 h6 => ?_⟩
        rw [hz (by decide) i h5 h6]
        have h7 : i = 0 ∨ i = 1 ∨ i = 2 ∨ i = 3 := by omega
        rcases h7 with h7 | h7 | h7 | h7 <;> subst h7 <;> rfl
