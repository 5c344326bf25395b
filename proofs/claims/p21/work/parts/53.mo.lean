/-! The reference: small methods, lead. Printed by wip/p20/sx/gMO.py. -/

theorem qm_in {m s : Nat} {F : aq_F} {c : aq_C} {v0 lo hi : Int} : am_E ac_X5_in (0, [vL v0, vU, vL lo, vU, vL hi, vU], [], aq_h m s F c) (aq_P m s F c (fun r => ∃ v, r = some (vI v) ∧ ((v = 1 ∧ (lo ≤ v0 ∧ v0 ≤ hi)) ∨ (v = 0 ∧ ¬ (lo ≤ v0 ∧ v0 ≤ hi))))) := by
  refine am_E.go (t2 := (1, [vL v0, vU, vL lo, vU, vL hi, vU], [vL v0], aq_h m s F c)) rfl rfl ?_
  refine am_E.go (t2 := (2, [vL v0, vU, vL lo, vU, vL hi, vU], [vL lo, vL v0], aq_h m s F c)) rfl rfl ?_
  have ez_1 := am_lcf v0 lo
  refine am_E.go (t2 := (3, [vL v0, vU, vL lo, vU, vL hi, vU], [vI (if v0 < lo then -1 else if v0 = lo then 0 else 1)], aq_h m s F c)) rfl rfl ?_
  generalize (if v0 < lo then -1 else if v0 = lo then 0 else 1) = z_1 at ez_1 ⊢
  refine ae_if0 rfl (fun (q_2 : z_1 < 0) => ?_) (fun (q_2 : 0 ≤ z_1) => ?_)
  · refine am_E.go (t2 := (18, [vL v0, vU, vL lo, vU, vL hi, vU], [vI 0], aq_h m s F c)) rfl rfl ?_
    refine am_E.ret rfl rfl ?_
    exact ⟨rfl, _, rfl, by omega⟩
  · refine am_E.go (t2 := (7, [vL v0, vU, vL lo, vU, vL hi, vU], [vL v0], aq_h m s F c)) rfl rfl ?_
    refine am_E.go (t2 := (9, [vL v0, vU, vL lo, vU, vL hi, vU], [vL hi, vL v0], aq_h m s F c)) rfl rfl ?_
    have ez_3 := am_lcf v0 hi
    refine am_E.go (t2 := (10, [vL v0, vU, vL lo, vU, vL hi, vU], [vI (if v0 < hi then -1 else if v0 = hi then 0 else 1)], aq_h m s F c)) rfl rfl ?_
    generalize (if v0 < hi then -1 else if v0 = hi then 0 else 1) = z_3 at ez_3 ⊢
    refine ae_if0 rfl (fun (q_4 : 0 < z_3) => ?_) (fun (q_4 : z_3 ≤ 0) => ?_)
    · refine am_E.go (t2 := (18, [vL v0, vU, vL lo, vU, vL hi, vU], [vI 0], aq_h m s F c)) rfl rfl ?_
      refine am_E.ret rfl rfl ?_
      exact ⟨rfl, _, rfl, by omega⟩
    · refine am_E.go (t2 := (14, [vL v0, vU, vL lo, vU, vL hi, vU], [vI 1], aq_h m s F c)) rfl rfl ?_
      refine am_E.go (t2 := (18, [vL v0, vU, vL lo, vU, vL hi, vU], [vI 1], aq_h m s F c)) rfl rfl ?_
      refine am_E.ret rfl rfl ?_
      exact ⟨rfl, _, rfl, by omega⟩

theorem qm_isWide {m s : Nat} {F : aq_F} {c : aq_C} {n : Int} : am_E ac_X5_isWide (0, [vI n], [], aq_h m s F c) (aq_P m s F c (fun r => ∃ v, r = some (vI v) ∧ ((v = 1 ∧ (1 ≤ n ∧ n ≤ 4)) ∨ (v = 0 ∧ ¬ (1 ≤ n ∧ n ≤ 4))))) := by
  refine am_E.go (t2 := (1, [vI n], [vI n], aq_h m s F c)) rfl rfl ?_
  refine am_E.go (t2 := (2, [vI n], [vL n], aq_h m s F c)) rfl rfl ?_
  refine am_E.go (t2 := (3, [vI n], [vL 1, vL n], aq_h m s F c)) rfl rfl ?_
  refine am_E.go (t2 := (6, [vI n], [vL 4, vL 1, vL n], aq_h m s F c)) rfl rfl ?_
  refine am_E.call rfl rfl rfl (Nat.le_of_ble_eq_true rfl) (qm_in) ?_
  rintro r5 h5 ⟨rfl, v_1, rfl, hv_1⟩
  show am_E _ (9, [vI n], [vI v_1], aq_h m s F c) _
  refine ae_retb rfl (by omega) ?_
  exact ⟨rfl, _, rfl, by omega⟩

theorem qm_boxes {m s : Nat} {F : aq_F} {c : aq_C} {n : Int} : am_E ac_X5_boxes (0, [vI n], [], aq_h m s F c) (aq_P m s F c (fun r => ∃ v, r = some (vI v) ∧ v = bx_K n)) := by
  refine am_E.go (t2 := (1, [vI n], [vI n], aq_h m s F c)) rfl rfl ?_
  refine am_E.go (t2 := (2, [vI n], [vI 1, vI n], aq_h m s F c)) rfl rfl ?_
  refine ae_icmp rfl (fun (q_1 : n ≠ 1) => ?_) (fun (q_1 : n = 1) => ?_)
  · refine am_E.go (t2 := (10, [vI n], [vI n], aq_h m s F c)) rfl rfl ?_
    refine am_E.go (t2 := (11, [vI n], [vI 2, vI n], aq_h m s F c)) rfl rfl ?_
    refine ae_icmp rfl (fun (q_2 : n ≠ 2) => ?_) (fun (q_2 : n = 2) => ?_)
    · refine am_E.go (t2 := (19, [vI n], [vI n], aq_h m s F c)) rfl rfl ?_
      refine am_E.go (t2 := (20, [vI n], [vI 3, vI n], aq_h m s F c)) rfl rfl ?_
      refine ae_icmp rfl (fun (q_3 : n ≠ 3) => ?_) (fun (q_3 : n = 3) => ?_)
      · refine am_E.go (t2 := (30, [vI n], [vI 105], aq_h m s F c)) rfl rfl ?_
        refine am_E.ret rfl rfl ?_
        refine ⟨rfl, _, rfl, ?_⟩
        unfold bx_K
        (repeat' split) <;> omega
      · refine am_E.go (t2 := (25, [vI n], [vI 15], aq_h m s F c)) rfl rfl ?_
        refine am_E.go (t2 := (30, [vI n], [vI 15], aq_h m s F c)) rfl rfl ?_
        refine am_E.ret rfl rfl ?_
        refine ⟨rfl, _, rfl, ?_⟩
        unfold bx_K
        (repeat' split) <;> omega
    · refine am_E.go (t2 := (15, [vI n], [vI 3], aq_h m s F c)) rfl rfl ?_
      refine am_E.go (t2 := (30, [vI n], [vI 3], aq_h m s F c)) rfl rfl ?_
      refine am_E.ret rfl rfl ?_
      refine ⟨rfl, _, rfl, ?_⟩
      unfold bx_K
      (repeat' split) <;> omega
  · refine am_E.go (t2 := (6, [vI n], [vI 1], aq_h m s F c)) rfl rfl ?_
    refine am_E.go (t2 := (30, [vI n], [vI 1], aq_h m s F c)) rfl rfl ?_
    refine am_E.ret rfl rfl ?_
    refine ⟨rfl, _, rfl, ?_⟩
    unfold bx_K
    (repeat' split) <;> omega

theorem qm_first {m s : Nat} {F : aq_F} {c : aq_C} {n : Int} : am_E ac_X5_first (0, [vI n], [], aq_h m s F c) (aq_P m s F c (fun r => ∃ v, r = some (vI v) ∧ v = mo_f n)) := by
  refine am_E.go (t2 := (1, [vI n], [vI n], aq_h m s F c)) rfl rfl ?_
  refine am_E.go (t2 := (2, [vI n], [vI 1, vI n], aq_h m s F c)) rfl rfl ?_
  refine ae_icmp rfl (fun (q_1 : n ≠ 1) => ?_) (fun (q_1 : n = 1) => ?_)
  · refine am_E.go (t2 := (10, [vI n], [vI n], aq_h m s F c)) rfl rfl ?_
    refine am_E.go (t2 := (11, [vI n], [vI 2, vI n], aq_h m s F c)) rfl rfl ?_
    refine ae_icmp rfl (fun (q_2 : n ≠ 2) => ?_) (fun (q_2 : n = 2) => ?_)
    · refine am_E.go (t2 := (19, [vI n], [vI n], aq_h m s F c)) rfl rfl ?_
      refine am_E.go (t2 := (20, [vI n], [vI 3, vI n], aq_h m s F c)) rfl rfl ?_
      refine ae_icmp rfl (fun (q_3 : n ≠ 3) => ?_) (fun (q_3 : n = 3) => ?_)
      · refine am_E.go (t2 := (29, [vI n], [vI 19], aq_h m s F c)) rfl rfl ?_
        refine am_E.ret rfl rfl ?_
        refine ⟨rfl, _, rfl, ?_⟩
        unfold mo_f
        (repeat' split) <;> omega
      · refine am_E.go (t2 := (24, [vI n], [vI 4], aq_h m s F c)) rfl rfl ?_
        refine am_E.go (t2 := (29, [vI n], [vI 4], aq_h m s F c)) rfl rfl ?_
        refine am_E.ret rfl rfl ?_
        refine ⟨rfl, _, rfl, ?_⟩
        unfold mo_f
        (repeat' split) <;> omega
    · refine am_E.go (t2 := (15, [vI n], [vI 1], aq_h m s F c)) rfl rfl ?_
      refine am_E.go (t2 := (29, [vI n], [vI 1], aq_h m s F c)) rfl rfl ?_
      refine am_E.ret rfl rfl ?_
      refine ⟨rfl, _, rfl, ?_⟩
      unfold mo_f
      (repeat' split) <;> omega
  · refine am_E.go (t2 := (6, [vI n], [vI 0], aq_h m s F c)) rfl rfl ?_
    refine am_E.go (t2 := (29, [vI n], [vI 0], aq_h m s F c)) rfl rfl ?_
    refine am_E.ret rfl rfl ?_
    refine ⟨rfl, _, rfl, ?_⟩
    unfold mo_f
    (repeat' split) <;> omega

theorem qm_isBox {m s : Nat} {F : aq_F} {c : aq_C} {n b : Int} : am_E ac_X5_isBox (0, [vI n, vI b], [], aq_h m s F c) (aq_P m s F c (fun r => ∃ v, r = some (vI v) ∧ ((v = 1 ∧ (1 ≤ n ∧ n ≤ 4 ∧ 0 ≤ b ∧ b < bx_K n)) ∨ (v = 0 ∧ ¬ (1 ≤ n ∧ n ≤ 4 ∧ 0 ≤ b ∧ b < bx_K n))))) := by
  have hfs := mo_fs n
  refine am_E.go (t2 := (1, [vI n, vI b], [vI n], aq_h m s F c)) rfl rfl ?_
  refine am_E.call rfl rfl rfl (Nat.le_of_ble_eq_true rfl) (qm_isWide) ?_
  rintro r5 h5 ⟨rfl, v_1, rfl, hv_1⟩
  show am_E _ (4, [vI n, vI b], [vI v_1], aq_h m s F c) _
  refine ae_if0 rfl (fun (q_2 : v_1 = 0) => ?_) (fun (q_2 : v_1 ≠ 0) => ?_)
  · refine am_E.go (t2 := (28, [vI n, vI b], [vI 0], aq_h m s F c)) rfl rfl ?_
    refine am_E.ret rfl rfl ?_
    exact ⟨rfl, _, rfl, by omega⟩
  · refine am_E.go (t2 := (8, [vI n, vI b], [vI b], aq_h m s F c)) rfl rfl ?_
    refine am_E.go (t2 := (9, [vI n, vI b], [vL b], aq_h m s F c)) rfl rfl ?_
    refine am_E.go (t2 := (10, [vI n, vI b], [vL 0, vL b], aq_h m s F c)) rfl rfl ?_
    refine am_E.go (t2 := (11, [vI n, vI b], [vI n, vL 0, vL b], aq_h m s F c)) rfl rfl ?_
    refine am_E.call rfl rfl rfl (Nat.le_of_ble_eq_true rfl) (qm_boxes) ?_
    rintro r5 h5 ⟨rfl, v_3, rfl, hv_3⟩
    show am_E _ (14, [vI n, vI b], [vI v_3, vL 0, vL b], aq_h m s F c) _
    refine am_E.go (t2 := (15, [vI n, vI b], [vI 1, vI v_3, vL 0, vL b], aq_h m s F c)) rfl rfl ?_
    refine ae_sub rfl (am_ri (by omega) (by omega)) ?_
    show am_E _ (16, [vI n, vI b], [vI (v_3 - 1), vL 0, vL b], aq_h m s F c) _
    refine am_E.go (t2 := (17, [vI n, vI b], [vL (v_3 - 1), vL 0, vL b], aq_h m s F c)) rfl rfl ?_
    refine am_E.call rfl rfl rfl (Nat.le_of_ble_eq_true rfl) (qm_in) ?_
    rintro r5 h5 ⟨rfl, v_4, rfl, hv_4⟩
    show am_E _ (20, [vI n, vI b], [vI v_4], aq_h m s F c) _
    refine ae_if0 rfl (fun (q_5 : v_4 = 0) => ?_) (fun (q_5 : v_4 ≠ 0) => ?_)
    · refine am_E.go (t2 := (28, [vI n, vI b], [vI 0], aq_h m s F c)) rfl rfl ?_
      refine am_E.ret rfl rfl ?_
      exact ⟨rfl, _, rfl, by omega⟩
    · refine am_E.go (t2 := (24, [vI n, vI b], [vI 1], aq_h m s F c)) rfl rfl ?_
      refine am_E.go (t2 := (28, [vI n, vI b], [vI 1], aq_h m s F c)) rfl rfl ?_
      refine am_E.ret rfl rfl ?_
      exact ⟨rfl, _, rfl, by omega⟩

theorem qm_at {m s : Nat} {F : aq_F} {c : aq_C} {n b : Int} (h0 : 0 ≤ b) (h1 : b < bx_K n) : am_E ac_X5_at (0, [vI n, vI b], [], aq_h m s F c) (aq_P m s F c (fun r => ∃ v, r = some (vI v) ∧ v = 8 * (mo_f n + b))) := by
  have hfs := mo_fs n
  refine am_E.go (t2 := (2, [vI n, vI b], [vI 8], aq_h m s F c)) rfl rfl ?_
  refine am_E.go (t2 := (3, [vI n, vI b], [vI n, vI 8], aq_h m s F c)) rfl rfl ?_
  refine am_E.call rfl rfl rfl (Nat.le_of_ble_eq_true rfl) (qm_first) ?_
  rintro r5 h5 ⟨rfl, v_1, rfl, hv_1⟩
  show am_E _ (6, [vI n, vI b], [vI v_1, vI 8], aq_h m s F c) _
  refine am_E.go (t2 := (7, [vI n, vI b], [vI b, vI v_1, vI 8], aq_h m s F c)) rfl rfl ?_
  refine ae_add rfl (am_ri (by omega) (by omega)) ?_
  show am_E _ (8, [vI n, vI b], [vI (v_1 + b), vI 8], aq_h m s F c) _
  refine ae_mul rfl (am_ri (by omega) (by omega)) ?_
  show am_E _ (9, [vI n, vI b], [vI (8 * (v_1 + b))], aq_h m s F c) _
  refine am_E.ret rfl rfl ?_
  exact ⟨rfl, _, rfl, by omega⟩

theorem qm_isLetter {m s : Nat} {F : aq_F} {c : aq_C} {n l : Int} (h0 : -100 ≤ n) (h1 : n ≤ 100) : am_E ac_X5_isLetter (0, [vI n, vI l], [], aq_h m s F c) (aq_P m s F c (fun r => ∃ v, r = some (vI v) ∧ ((v = 1 ∧ ((1 ≤ l ∧ l < n) ∨ (11 ≤ l ∧ l < 10 + n))) ∨ (v = 0 ∧ ¬ ((1 ≤ l ∧ l < n) ∨ (11 ≤ l ∧ l < 10 + n)))))) := by
  refine am_E.go (t2 := (1, [vI n, vI l], [vI l], aq_h m s F c)) rfl rfl ?_
  refine am_E.go (t2 := (2, [vI n, vI l], [vL l], aq_h m s F c)) rfl rfl ?_
  refine am_E.go (t2 := (3, [vI n, vI l], [vL 1, vL l], aq_h m s F c)) rfl rfl ?_
  refine am_E.go (t2 := (4, [vI n, vI l], [vI n, vL 1, vL l], aq_h m s F c)) rfl rfl ?_
  refine am_E.go (t2 := (5, [vI n, vI l], [vI 1, vI n, vL 1, vL l], aq_h m s F c)) rfl rfl ?_
  refine ae_sub rfl (am_ri (by omega) (by omega)) ?_
  show am_E _ (6, [vI n, vI l], [vI (n - 1), vL 1, vL l], aq_h m s F c) _
  refine am_E.go (t2 := (7, [vI n, vI l], [vL (n - 1), vL 1, vL l], aq_h m s F c)) rfl rfl ?_
  refine am_E.call rfl rfl rfl (Nat.le_of_ble_eq_true rfl) (qm_in) ?_
  rintro r5 h5 ⟨rfl, v_1, rfl, hv_1⟩
  show am_E _ (10, [vI n, vI l], [vI v_1], aq_h m s F c) _
  refine ae_if0 rfl (fun (q_2 : v_1 ≠ 0) => ?_) (fun (q_2 : v_1 = 0) => ?_)
  · refine am_E.go (t2 := (30, [vI n, vI l], [vI 1], aq_h m s F c)) rfl rfl ?_
    refine am_E.go (t2 := (34, [vI n, vI l], [vI 1], aq_h m s F c)) rfl rfl ?_
    refine am_E.ret rfl rfl ?_
    exact ⟨rfl, _, rfl, by omega⟩
  · refine am_E.go (t2 := (14, [vI n, vI l], [vI l], aq_h m s F c)) rfl rfl ?_
    refine am_E.go (t2 := (15, [vI n, vI l], [vL l], aq_h m s F c)) rfl rfl ?_
    refine am_E.go (t2 := (18, [vI n, vI l], [vL 11, vL l], aq_h m s F c)) rfl rfl ?_
    refine am_E.go (t2 := (20, [vI n, vI l], [vI 9, vL 11, vL l], aq_h m s F c)) rfl rfl ?_
    refine am_E.go (t2 := (21, [vI n, vI l], [vI n, vI 9, vL 11, vL l], aq_h m s F c)) rfl rfl ?_
    refine ae_add rfl (am_ri (by omega) (by omega)) ?_
    show am_E _ (22, [vI n, vI l], [vI (9 + n), vL 11, vL l], aq_h m s F c) _
    refine am_E.go (t2 := (23, [vI n, vI l], [vL (9 + n), vL 11, vL l], aq_h m s F c)) rfl rfl ?_
    refine am_E.call rfl rfl rfl (Nat.le_of_ble_eq_true rfl) (qm_in) ?_
    rintro r5 h5 ⟨rfl, v_3, rfl, hv_3⟩
    show am_E _ (26, [vI n, vI l], [vI v_3], aq_h m s F c) _
    refine ae_if0 rfl (fun (q_4 : v_3 = 0) => ?_) (fun (q_4 : v_3 ≠ 0) => ?_)
    · refine am_E.go (t2 := (34, [vI n, vI l], [vI 0], aq_h m s F c)) rfl rfl ?_
      refine am_E.ret rfl rfl ?_
      exact ⟨rfl, _, rfl, by omega⟩
    · refine am_E.go (t2 := (30, [vI n, vI l], [vI 1], aq_h m s F c)) rfl rfl ?_
      refine am_E.go (t2 := (34, [vI n, vI l], [vI 1], aq_h m s F c)) rfl rfl ?_
      refine am_E.ret rfl rfl ?_
      exact ⟨rfl, _, rfl, by omega⟩

theorem qm_isSum {m s : Nat} {F : aq_F} {c : aq_C} {n : Int} : am_E ac_X5_isSum (0, [vI n], [], aq_h m s F c) (aq_P m s F c (fun r => ∃ v, r = some (vI v) ∧ ((v = 1 ∧ (0 ≤ n ∧ n < 8)) ∨ (v = 0 ∧ ¬ (0 ≤ n ∧ n < 8))))) := by
  refine am_E.go (t2 := (1, [vI n], [vI n], aq_h m s F c)) rfl rfl ?_
  refine am_E.go (t2 := (2, [vI n], [vL n], aq_h m s F c)) rfl rfl ?_
  refine am_E.go (t2 := (3, [vI n], [vL 0, vL n], aq_h m s F c)) rfl rfl ?_
  refine am_E.go (t2 := (6, [vI n], [vL 7, vL 0, vL n], aq_h m s F c)) rfl rfl ?_
  refine am_E.call rfl rfl rfl (Nat.le_of_ble_eq_true rfl) (qm_in) ?_
  rintro r5 h5 ⟨rfl, v_1, rfl, hv_1⟩
  show am_E _ (9, [vI n], [vI v_1], aq_h m s F c) _
  refine ae_retb rfl (by omega) ?_
  exact ⟨rfl, _, rfl, by omega⟩

theorem qm_areHalves {m s : Nat} {F : aq_F} {c : aq_C} {n t : Int} : am_E ac_X5_areHalves (0, [vI n, vI t], [], aq_h m s F c) (aq_P m s F c (fun r => ∃ v, r = some (vI v) ∧ ((v = 1 ∧ (1 ≤ n ∧ n ≤ 4 ∧ 0 ≤ t ∧ t ≤ n)) ∨ (v = 0 ∧ ¬ (1 ≤ n ∧ n ≤ 4 ∧ 0 ≤ t ∧ t ≤ n))))) := by
  refine am_E.go (t2 := (1, [vI n, vI t], [vI n], aq_h m s F c)) rfl rfl ?_
  refine am_E.call rfl rfl rfl (Nat.le_of_ble_eq_true rfl) (qm_isWide) ?_
  rintro r5 h5 ⟨rfl, v_1, rfl, hv_1⟩
  show am_E _ (4, [vI n, vI t], [vI v_1], aq_h m s F c) _
  refine ae_if0 rfl (fun (q_2 : v_1 = 0) => ?_) (fun (q_2 : v_1 ≠ 0) => ?_)
  · refine am_E.go (t2 := (23, [vI n, vI t], [vI 0], aq_h m s F c)) rfl rfl ?_
    refine am_E.ret rfl rfl ?_
    exact ⟨rfl, _, rfl, by omega⟩
  · refine am_E.go (t2 := (8, [vI n, vI t], [vI t], aq_h m s F c)) rfl rfl ?_
    refine am_E.go (t2 := (9, [vI n, vI t], [vL t], aq_h m s F c)) rfl rfl ?_
    refine am_E.go (t2 := (10, [vI n, vI t], [vL 0, vL t], aq_h m s F c)) rfl rfl ?_
    refine am_E.go (t2 := (11, [vI n, vI t], [vI n, vL 0, vL t], aq_h m s F c)) rfl rfl ?_
    refine am_E.go (t2 := (12, [vI n, vI t], [vL n, vL 0, vL t], aq_h m s F c)) rfl rfl ?_
    refine am_E.call rfl rfl rfl (Nat.le_of_ble_eq_true rfl) (qm_in) ?_
    rintro r5 h5 ⟨rfl, v_3, rfl, hv_3⟩
    show am_E _ (15, [vI n, vI t], [vI v_3], aq_h m s F c) _
    refine ae_if0 rfl (fun (q_4 : v_3 = 0) => ?_) (fun (q_4 : v_3 ≠ 0) => ?_)
    · refine am_E.go (t2 := (23, [vI n, vI t], [vI 0], aq_h m s F c)) rfl rfl ?_
      refine am_E.ret rfl rfl ?_
      exact ⟨rfl, _, rfl, by omega⟩
    · refine am_E.go (t2 := (19, [vI n, vI t], [vI 1], aq_h m s F c)) rfl rfl ?_
      refine am_E.go (t2 := (23, [vI n, vI t], [vI 1], aq_h m s F c)) rfl rfl ?_
      refine am_E.ret rfl rfl ?_
      exact ⟨rfl, _, rfl, by omega⟩

theorem qm_round {m s : Nat} {F : aq_F} {c : aq_C} {n p : Int} : am_E ac_X5_round (0, [vI n, vI p], [], aq_h m s F c) (aq_P m s F c aq_vi) := by
  refine am_E.go (t2 := (1, [vI n, vI p], [vI p], aq_h m s F c)) rfl rfl ?_
  refine am_E.go (t2 := (2, [vI n, vI p], [vI n, vI p], aq_h m s F c)) rfl rfl ?_
  refine ae_icmp rfl (fun (q_1 : n ≤ p) => ?_) (fun (q_1 : p < n) => ?_)
  · refine am_E.go (t2 := (10, [vI n, vI p], [vI 3], aq_h m s F c)) rfl rfl ?_
    refine am_E.go (t2 := (11, [vI n, vI p], [vI n, vI 3], aq_h m s F c)) rfl rfl ?_
    refine am_E.go (t2 := (12, [vI n, vI p], [vI (am_w (3 * n))], aq_h m s F c)) rfl rfl ?_
    refine am_E.go (t2 := (13, [vI n, vI p], [vI 1, vI (am_w (3 * n))], aq_h m s F c)) rfl rfl ?_
    refine am_E.go (t2 := (14, [vI n, vI p], [vI (am_w ((am_w (3 * n)) - 1))], aq_h m s F c)) rfl rfl ?_
    refine am_E.go (t2 := (15, [vI n, vI p], [vI p, vI (am_w ((am_w (3 * n)) - 1))], aq_h m s F c)) rfl rfl ?_
    refine am_E.go (t2 := (16, [vI n, vI p], [vI (am_w ((am_w ((am_w (3 * n)) - 1)) - p))], aq_h m s F c)) rfl rfl ?_
    refine am_E.ret rfl rfl ?_
    exact ⟨rfl, _, rfl⟩
  · refine am_E.go (t2 := (6, [vI n, vI p], [vI p], aq_h m s F c)) rfl rfl ?_
    refine am_E.go (t2 := (16, [vI n, vI p], [vI p], aq_h m s F c)) rfl rfl ?_
    refine am_E.ret rfl rfl ?_
    exact ⟨rfl, _, rfl⟩

theorem qm_lead_l {m s : Nat} {F : aq_F} {c0 : aq_C} {S : Nat → Prop} {y : Nat} (hO : mo_0 m F y) (hS13 : S (y + 13)) {tbl : Int → Int} (hT1 : F (y + 1) = (0, 992, fun j => .inr (vI (tbl (j : Int))))) {n a b from_ T : Int} {Q : (Int → Int) → Prop} (hn1 : 1 ≤ n) (hn4 : n ≤ 4) (ha0 : 0 ≤ a) (ha1 : a + 8 ≤ 992) (hb0 : 0 ≤ b) (hb1 : b + 8 ≤ 992) {f g : Int → Int} (hf : ∀ p, 0 ≤ p → p < 2 * n → tbl (a + p) = f p) (hg : ∀ p, 0 ≤ p → p < 2 * n → tbl (b + p) = g p) (hfi : fi n f) (hgi : fi n g) : ∀ (d : Nat) (u : Bool) (p : Int) (v7 v8 : am_V) (c : aq_C) (hs : aq_sm S c0 c) (h0 : 0 ≤ p) (h1 : p < 2 * n) (he : exd n f g d u p) (hT : ldr n f g d u p = T) (hQ : ∀ w : Int → Int, (∀ i, c (y + 13) i = 1 → w i = 1) → mkd n f g w d u p → Q w), am_E ac_X5_lead (17, [vR y, vI n, vI a, vI b, vI from_, vI (if u then 1 else 0), vI p, v7, v8], [], aq_h m s F c) (aq_Z m s F S c0 (fun r d => r = some (vI T) ∧ Q (d (y + 13))))
  | 0, u, p, v7, v8, c, hs, h0, h1, he, hT, hQ => he.elim
  | d + 1, true, p, v7, v8, c, hs, h0, h1, he, hT, hQ => by
    obtain ⟨hm, hFo, hG5, hG6, hG7, hG8, hG9, hG10, hG11, hG12, hG13, hG14, hG15, hG16, hG17, hG18, hG19, hG20, hG21, hG22, hG23⟩ := hO
    show am_E _ (17, [vR y, vI n, vI a, vI b, vI from_, vI 1, vI p, v7, v8], [], aq_h m s F c) _
    refine am_E.go (t2 := (18, [vR y, vI n, vI a, vI b, vI from_, vI 1, vI p, v7, v8], [vR y], aq_h m s F c)) rfl rfl ?_
    refine aq_gf (v := vR (y + 1)) rfl (by omega) hFo (by decide) rfl ?_
    show am_E _ (21, [vR y, vI n, vI a, vI b, vI from_, vI 1, vI p, v7, v8], [vR (y + 1)], aq_h m s F c) _
    refine am_E.go (t2 := (23, [vR y, vI n, vI a, vI b, vI from_, vI 1, vI p, v7, v8], [vI 1, vR (y + 1)], aq_h m s F c)) rfl rfl ?_
    refine am_E.go (t2 := (26, [vR y, vI n, vI a, vI b, vI from_, vI 1, vI p, v7, v8], [vR (y + 1)], aq_h m s F c)) rfl rfl ?_
    refine am_E.go (t2 := (27, [vR y, vI n, vI a, vI b, vI from_, vI 1, vI p, v7, v8], [vI a, vR (y + 1)], aq_h m s F c)) rfl rfl ?_
    refine am_E.go (t2 := (31, [vR y, vI n, vI a, vI b, vI from_, vI 1, vI p, v7, v8], [vI a, vR (y + 1)], aq_h m s F c)) rfl rfl ?_
    refine am_E.go (t2 := (33, [vR y, vI n, vI a, vI b, vI from_, vI 1, vI p, v7, v8], [vI p, vI a, vR (y + 1)], aq_h m s F c)) rfl rfl ?_
    refine ae_add rfl (am_ri (by omega) (by omega)) ?_
    show am_E _ (34, [vR y, vI n, vI a, vI b, vI from_, vI 1, vI p, v7, v8], [vI (a + p), vR (y + 1)], aq_h m s F c) _
    have e_t := hf p (by omega) (by omega)
    have e_f := hfi p (by omega) (by omega)
    refine aq_alt (ok := fun k => k == 0) rfl rfl (by omega) hT1 rfl (by omega) (by omega) ?_
    rw [e_t]
    show am_E _ (35, [vR y, vI n, vI a, vI b, vI from_, vI 1, vI p, v7, v8], [vI (f p)], aq_h m s F c) _
    refine am_E.go (t2 := (37, [vR y, vI n, vI a, vI b, vI from_, vI 1, vI (f p), v7, v8], [], aq_h m s F c)) rfl rfl ?_
    refine am_E.go (t2 := (39, [vR y, vI n, vI a, vI b, vI from_, vI 1, vI (f p), v7, v8], [vI 1], aq_h m s F c)) rfl rfl ?_
    refine am_E.go (t2 := (42, [vR y, vI n, vI a, vI b, vI from_, vI 1, vI (f p), v7, v8], [], aq_h m s F c)) rfl rfl ?_
    refine am_E.go (t2 := (44, [vR y, vI n, vI a, vI b, vI from_, vI 1, vI (f p), v7, v8], [vI (f p)], aq_h m s F c)) rfl rfl ?_
    refine am_E.go (t2 := (45, [vR y, vI n, vI a, vI b, vI from_, vI 1, vI (f p), v7, v8], [vI n, vI (f p)], aq_h m s F c)) rfl rfl ?_
    refine ae_icmp rfl (fun (q_1 : n ≤ (f p)) => ?_) (fun (q_1 : (f p) < n) => ?_)
    · refine am_E.go (t2 := (53, [vR y, vI n, vI a, vI b, vI from_, vI 1, vI (f p), v7, v8], [vI 0], aq_h m s F c)) rfl rfl ?_
      refine am_E.go (t2 := (67, [vR y, vI n, vI a, vI b, vI from_, vI 1, vI (f p), v7, v8], [vI 0], aq_h m s F c)) rfl rfl ?_
      refine am_E.go (t2 := (69, [vR y, vI n, vI a, vI b, vI from_, vI 1, vI (f p), vI 0, v8], [], aq_h m s F c)) rfl rfl ?_
      refine am_E.go (t2 := (71, [vR y, vI n, vI a, vI b, vI from_, vI 1, vI (f p), vI 0, v8], [vI 0], aq_h m s F c)) rfl rfl ?_
      refine am_E.go (t2 := (77, [vR y, vI n, vI a, vI b, vI from_, vI 1, vI (f p), vI 0, v8], [], aq_h m s F c)) rfl rfl ?_
      refine am_E.go (t2 := (79, [vR y, vI n, vI a, vI b, vI from_, vI 1, vI (f p), vI 0, v8], [vI 1], aq_h m s F c)) rfl rfl ?_
      refine am_E.go (t2 := (82, [vR y, vI n, vI a, vI b, vI from_, vI 1, vI (f p), vI 0, v8], [], aq_h m s F c)) rfl rfl ?_
      refine am_E.go (t2 := (84, [vR y, vI n, vI a, vI b, vI from_, vI 1, vI (f p), vI 0, v8], [vI (f p)], aq_h m s F c)) rfl rfl ?_
      refine am_E.go (t2 := (85, [vR y, vI n, vI a, vI b, vI from_, vI 1, vI (f p), vI 0, v8], [vI n, vI (f p)], aq_h m s F c)) rfl rfl ?_
      refine ae_sub rfl (am_ri (by omega) (by omega)) ?_
      show am_E _ (86, [vR y, vI n, vI a, vI b, vI from_, vI 1, vI (f p), vI 0, v8], [vI ((f p) - n)], aq_h m s F c) _
      refine am_E.go (t2 := (91, [vR y, vI n, vI a, vI b, vI from_, vI 1, vI (f p), vI 0, v8], [vI ((f p) - n)], aq_h m s F c)) rfl rfl ?_
      refine am_E.go (t2 := (93, [vR y, vI n, vI a, vI b, vI from_, vI 1, vI (f p), vI 0, vI ((f p) - n)], [], aq_h m s F c)) rfl rfl ?_
      refine am_E.go (t2 := (94, [vR y, vI n, vI a, vI b, vI from_, vI 1, vI (f p), vI 0, vI ((f p) - n)], [vR y], aq_h m s F c)) rfl rfl ?_
      refine aq_gf (v := vR (y + 13)) rfl (by omega) hFo (by decide) rfl ?_
      show am_E _ (97, [vR y, vI n, vI a, vI b, vI from_, vI 1, vI (f p), vI 0, vI ((f p) - n)], [vR (y + 13)], aq_h m s F c) _
      refine am_E.go (t2 := (99, [vR y, vI n, vI a, vI b, vI from_, vI 1, vI (f p), vI 0, vI ((f p) - n)], [vI ((f p) - n), vR (y + 13)], aq_h m s F c)) rfl rfl ?_
      refine am_E.go (t2 := (100, [vR y, vI n, vI a, vI b, vI from_, vI 1, vI (f p), vI 0, vI ((f p) - n)], [vI 1, vI ((f p) - n), vR (y + 13)], aq_h m s F c)) rfl rfl ?_
      refine aq_as (kd := 1) rfl rfl (by omega) hG13 (by omega) (by omega) rfl rfl ?_
      show am_E _ (101, [vR y, vI n, vI a, vI b, vI from_, vI 1, vI (f p), vI 0, vI ((f p) - n)], [], aq_h m s F (aq_u c (y + 13) ((f p) - n) 1)) _
      generalize hdc_2 : aq_u c (y + 13) ((f p) - n) 1 = c_2
      have sc_2 := aq_smu hs hdc_2 (hS13)
      refine am_E.go (t2 := (103, [vR y, vI n, vI a, vI b, vI from_, vI 1, vI (f p), vI 0, vI ((f p) - n)], [vI 1], aq_h m s F c_2)) rfl rfl ?_
      refine am_E.go (t2 := (106, [vR y, vI n, vI a, vI b, vI from_, vI 1, vI (f p), vI 0, vI ((f p) - n)], [], aq_h m s F c_2)) rfl rfl ?_
      refine am_E.go (t2 := (108, [vR y, vI n, vI a, vI b, vI from_, vI 1, vI (f p), vI 0, vI ((f p) - n)], [vI ((f p) - n)], aq_h m s F c_2)) rfl rfl ?_
      refine am_E.go (t2 := (115, [vR y, vI n, vI a, vI b, vI from_, vI 1, vI (f p), vI 0, vI ((f p) - n)], [vI ((f p) - n)], aq_h m s F c_2)) rfl rfl ?_
      refine am_E.go (t2 := (117, [vR y, vI n, vI a, vI b, vI from_, vI 1, vI ((f p) - n), vI 0, vI ((f p) - n)], [], aq_h m s F c_2)) rfl rfl ?_
      refine am_E.go (t2 := (119, [vR y, vI n, vI a, vI b, vI from_, vI 1, vI ((f p) - n), vI 0, vI ((f p) - n)], [vI 1], aq_h m s F c_2)) rfl rfl ?_
      refine am_E.go (t2 := (126, [vR y, vI n, vI a, vI b, vI from_, vI 1, vI ((f p) - n), vI 0, vI ((f p) - n)], [], aq_h m s F c_2)) rfl rfl ?_
      refine am_E.go (t2 := (127, [vR y, vI n, vI a, vI b, vI from_, vI 1, vI ((f p) - n), vI 0, vI ((f p) - n)], [vI 0], aq_h m s F c_2)) rfl rfl ?_
      refine am_E.go (t2 := (129, [vR y, vI n, vI a, vI b, vI from_, vI 0, vI ((f p) - n), vI 0, vI ((f p) - n)], [], aq_h m s F c_2)) rfl rfl ?_
      refine am_E.go (t2 := (17, [vR y, vI n, vI a, vI b, vI from_, vI 0, vI ((f p) - n), vI 0, vI ((f p) - n)], [], aq_h m s F c_2)) rfl rfl ?_
      refine qm_lead_l ⟨hm, hFo, hG5, hG6, hG7, hG8, hG9, hG10, hG11, hG12, hG13, hG14, hG15, hG16, hG17, hG18, hG19, hG20, hG21, hG22, hG23⟩ hS13 hT1 hn1 hn4 ha0 ha1 hb0 hb1 hf hg hfi hgi d false ((f p) - n) _ _ c_2 sc_2 (by omega) (by omega) (he (by omega)) (by rw [← hT, ldr, if_pos (by omega)]) (fun w w1 w2 => hQ w (fun i hi => w1 i ?_) (fun _ => ⟨w1 _ ?_, w2⟩))
      · rw [← hdc_2]
        unfold aq_u
        split
        · rfl
        · exact hi
      · rw [← hdc_2, aq_us]
    · refine am_E.go (t2 := (49, [vR y, vI n, vI a, vI b, vI from_, vI 1, vI (f p), v7, v8], [vI 1], aq_h m s F c)) rfl rfl ?_
      refine am_E.go (t2 := (67, [vR y, vI n, vI a, vI b, vI from_, vI 1, vI (f p), v7, v8], [vI 1], aq_h m s F c)) rfl rfl ?_
      refine am_E.go (t2 := (69, [vR y, vI n, vI a, vI b, vI from_, vI 1, vI (f p), vI 1, v8], [], aq_h m s F c)) rfl rfl ?_
      refine am_E.go (t2 := (71, [vR y, vI n, vI a, vI b, vI from_, vI 1, vI (f p), vI 1, v8], [vI 1], aq_h m s F c)) rfl rfl ?_
      refine am_E.go (t2 := (74, [vR y, vI n, vI a, vI b, vI from_, vI 1, vI (f p), vI 1, v8], [], aq_h m s F c)) rfl rfl ?_
      refine am_E.go (t2 := (76, [vR y, vI n, vI a, vI b, vI from_, vI 1, vI (f p), vI 1, v8], [vI (f p)], aq_h m s F c)) rfl rfl ?_
      refine am_E.ret rfl rfl ?_
      exact ⟨_, rfl, hs, by rw [← hT, ldr, if_neg (by omega)], hQ _ (fun i h => h) (fun h => absurd h (by omega))⟩
  | d + 1, false, p, v7, v8, c, hs, h0, h1, he, hT, hQ => by
    obtain ⟨hm, hFo, hG5, hG6, hG7, hG8, hG9, hG10, hG11, hG12, hG13, hG14, hG15, hG16, hG17, hG18, hG19, hG20, hG21, hG22, hG23⟩ := hO
    show am_E _ (17, [vR y, vI n, vI a, vI b, vI from_, vI 0, vI p, v7, v8], [], aq_h m s F c) _
    refine am_E.go (t2 := (18, [vR y, vI n, vI a, vI b, vI from_, vI 0, vI p, v7, v8], [vR y], aq_h m s F c)) rfl rfl ?_
    refine aq_gf (v := vR (y + 1)) rfl (by omega) hFo (by decide) rfl ?_
    show am_E _ (21, [vR y, vI n, vI a, vI b, vI from_, vI 0, vI p, v7, v8], [vR (y + 1)], aq_h m s F c) _
    refine am_E.go (t2 := (23, [vR y, vI n, vI a, vI b, vI from_, vI 0, vI p, v7, v8], [vI 0, vR (y + 1)], aq_h m s F c)) rfl rfl ?_
    refine am_E.go (t2 := (30, [vR y, vI n, vI a, vI b, vI from_, vI 0, vI p, v7, v8], [vR (y + 1)], aq_h m s F c)) rfl rfl ?_
    refine am_E.go (t2 := (31, [vR y, vI n, vI a, vI b, vI from_, vI 0, vI p, v7, v8], [vI b, vR (y + 1)], aq_h m s F c)) rfl rfl ?_
    refine am_E.go (t2 := (33, [vR y, vI n, vI a, vI b, vI from_, vI 0, vI p, v7, v8], [vI p, vI b, vR (y + 1)], aq_h m s F c)) rfl rfl ?_
    refine ae_add rfl (am_ri (by omega) (by omega)) ?_
    show am_E _ (34, [vR y, vI n, vI a, vI b, vI from_, vI 0, vI p, v7, v8], [vI (b + p), vR (y + 1)], aq_h m s F c) _
    have e_t := hg p (by omega) (by omega)
    have e_f := hgi p (by omega) (by omega)
    refine aq_alt (ok := fun k => k == 0) rfl rfl (by omega) hT1 rfl (by omega) (by omega) ?_
    rw [e_t]
    show am_E _ (35, [vR y, vI n, vI a, vI b, vI from_, vI 0, vI p, v7, v8], [vI (g p)], aq_h m s F c) _
    refine am_E.go (t2 := (37, [vR y, vI n, vI a, vI b, vI from_, vI 0, vI (g p), v7, v8], [], aq_h m s F c)) rfl rfl ?_
    refine am_E.go (t2 := (39, [vR y, vI n, vI a, vI b, vI from_, vI 0, vI (g p), v7, v8], [vI 0], aq_h m s F c)) rfl rfl ?_
    refine am_E.go (t2 := (56, [vR y, vI n, vI a, vI b, vI from_, vI 0, vI (g p), v7, v8], [], aq_h m s F c)) rfl rfl ?_
    refine am_E.go (t2 := (58, [vR y, vI n, vI a, vI b, vI from_, vI 0, vI (g p), v7, v8], [vI (g p)], aq_h m s F c)) rfl rfl ?_
    refine am_E.go (t2 := (59, [vR y, vI n, vI a, vI b, vI from_, vI 0, vI (g p), v7, v8], [vI n, vI (g p)], aq_h m s F c)) rfl rfl ?_
    refine ae_icmp rfl (fun (q_1 : (g p) < n) => ?_) (fun (q_1 : n ≤ (g p)) => ?_)
    · refine am_E.go (t2 := (67, [vR y, vI n, vI a, vI b, vI from_, vI 0, vI (g p), v7, v8], [vI 0], aq_h m s F c)) rfl rfl ?_
      refine am_E.go (t2 := (69, [vR y, vI n, vI a, vI b, vI from_, vI 0, vI (g p), vI 0, v8], [], aq_h m s F c)) rfl rfl ?_
      refine am_E.go (t2 := (71, [vR y, vI n, vI a, vI b, vI from_, vI 0, vI (g p), vI 0, v8], [vI 0], aq_h m s F c)) rfl rfl ?_
      refine am_E.go (t2 := (77, [vR y, vI n, vI a, vI b, vI from_, vI 0, vI (g p), vI 0, v8], [], aq_h m s F c)) rfl rfl ?_
      refine am_E.go (t2 := (79, [vR y, vI n, vI a, vI b, vI from_, vI 0, vI (g p), vI 0, v8], [vI 0], aq_h m s F c)) rfl rfl ?_
      refine am_E.go (t2 := (89, [vR y, vI n, vI a, vI b, vI from_, vI 0, vI (g p), vI 0, v8], [], aq_h m s F c)) rfl rfl ?_
      refine am_E.go (t2 := (91, [vR y, vI n, vI a, vI b, vI from_, vI 0, vI (g p), vI 0, v8], [vI (g p)], aq_h m s F c)) rfl rfl ?_
      refine am_E.go (t2 := (93, [vR y, vI n, vI a, vI b, vI from_, vI 0, vI (g p), vI 0, vI (g p)], [], aq_h m s F c)) rfl rfl ?_
      refine am_E.go (t2 := (94, [vR y, vI n, vI a, vI b, vI from_, vI 0, vI (g p), vI 0, vI (g p)], [vR y], aq_h m s F c)) rfl rfl ?_
      refine aq_gf (v := vR (y + 13)) rfl (by omega) hFo (by decide) rfl ?_
      show am_E _ (97, [vR y, vI n, vI a, vI b, vI from_, vI 0, vI (g p), vI 0, vI (g p)], [vR (y + 13)], aq_h m s F c) _
      refine am_E.go (t2 := (99, [vR y, vI n, vI a, vI b, vI from_, vI 0, vI (g p), vI 0, vI (g p)], [vI (g p), vR (y + 13)], aq_h m s F c)) rfl rfl ?_
      refine am_E.go (t2 := (100, [vR y, vI n, vI a, vI b, vI from_, vI 0, vI (g p), vI 0, vI (g p)], [vI 1, vI (g p), vR (y + 13)], aq_h m s F c)) rfl rfl ?_
      refine aq_as (kd := 1) rfl rfl (by omega) hG13 (by omega) (by omega) rfl rfl ?_
      show am_E _ (101, [vR y, vI n, vI a, vI b, vI from_, vI 0, vI (g p), vI 0, vI (g p)], [], aq_h m s F (aq_u c (y + 13) (g p) 1)) _
      generalize hdc_2 : aq_u c (y + 13) (g p) 1 = c_2
      have sc_2 := aq_smu hs hdc_2 (hS13)
      refine am_E.go (t2 := (103, [vR y, vI n, vI a, vI b, vI from_, vI 0, vI (g p), vI 0, vI (g p)], [vI 0], aq_h m s F c_2)) rfl rfl ?_
      refine am_E.go (t2 := (111, [vR y, vI n, vI a, vI b, vI from_, vI 0, vI (g p), vI 0, vI (g p)], [], aq_h m s F c_2)) rfl rfl ?_
      refine am_E.go (t2 := (112, [vR y, vI n, vI a, vI b, vI from_, vI 0, vI (g p), vI 0, vI (g p)], [vI n], aq_h m s F c_2)) rfl rfl ?_
      refine am_E.go (t2 := (114, [vR y, vI n, vI a, vI b, vI from_, vI 0, vI (g p), vI 0, vI (g p)], [vI (g p), vI n], aq_h m s F c_2)) rfl rfl ?_
      refine ae_add rfl (am_ri (by omega) (by omega)) ?_
      show am_E _ (115, [vR y, vI n, vI a, vI b, vI from_, vI 0, vI (g p), vI 0, vI (g p)], [vI (n + (g p))], aq_h m s F c_2) _
      refine am_E.go (t2 := (117, [vR y, vI n, vI a, vI b, vI from_, vI 0, vI (n + (g p)), vI 0, vI (g p)], [], aq_h m s F c_2)) rfl rfl ?_
      refine am_E.go (t2 := (119, [vR y, vI n, vI a, vI b, vI from_, vI 0, vI (n + (g p)), vI 0, vI (g p)], [vI 0], aq_h m s F c_2)) rfl rfl ?_
      refine am_E.go (t2 := (122, [vR y, vI n, vI a, vI b, vI from_, vI 0, vI (n + (g p)), vI 0, vI (g p)], [], aq_h m s F c_2)) rfl rfl ?_
      refine am_E.go (t2 := (123, [vR y, vI n, vI a, vI b, vI from_, vI 0, vI (n + (g p)), vI 0, vI (g p)], [vI 1], aq_h m s F c_2)) rfl rfl ?_
      refine am_E.go (t2 := (127, [vR y, vI n, vI a, vI b, vI from_, vI 0, vI (n + (g p)), vI 0, vI (g p)], [vI 1], aq_h m s F c_2)) rfl rfl ?_
      refine am_E.go (t2 := (129, [vR y, vI n, vI a, vI b, vI from_, vI 1, vI (n + (g p)), vI 0, vI (g p)], [], aq_h m s F c_2)) rfl rfl ?_
      refine am_E.go (t2 := (17, [vR y, vI n, vI a, vI b, vI from_, vI 1, vI (n + (g p)), vI 0, vI (g p)], [], aq_h m s F c_2)) rfl rfl ?_
      refine qm_lead_l ⟨hm, hFo, hG5, hG6, hG7, hG8, hG9, hG10, hG11, hG12, hG13, hG14, hG15, hG16, hG17, hG18, hG19, hG20, hG21, hG22, hG23⟩ hS13 hT1 hn1 hn4 ha0 ha1 hb0 hb1 hf hg hfi hgi d true (n + (g p)) _ _ c_2 sc_2 (by omega) (by omega) (he (by omega)) (by rw [← hT, ldr, if_pos (by omega)]) (fun w w1 w2 => hQ w (fun i hi => w1 i ?_) (fun _ => ⟨w1 _ ?_, w2⟩))
      · rw [← hdc_2]
        unfold aq_u
        split
        · rfl
        · exact hi
      · rw [← hdc_2, aq_us]
    · refine am_E.go (t2 := (63, [vR y, vI n, vI a, vI b, vI from_, vI 0, vI (g p), v7, v8], [vI 1], aq_h m s F c)) rfl rfl ?_
      refine am_E.go (t2 := (67, [vR y, vI n, vI a, vI b, vI from_, vI 0, vI (g p), v7, v8], [vI 1], aq_h m s F c)) rfl rfl ?_
      refine am_E.go (t2 := (69, [vR y, vI n, vI a, vI b, vI from_, vI 0, vI (g p), vI 1, v8], [], aq_h m s F c)) rfl rfl ?_
      refine am_E.go (t2 := (71, [vR y, vI n, vI a, vI b, vI from_, vI 0, vI (g p), vI 1, v8], [vI 1], aq_h m s F c)) rfl rfl ?_
      refine am_E.go (t2 := (74, [vR y, vI n, vI a, vI b, vI from_, vI 0, vI (g p), vI 1, v8], [], aq_h m s F c)) rfl rfl ?_
      refine am_E.go (t2 := (76, [vR y, vI n, vI a, vI b, vI from_, vI 0, vI (g p), vI 1, v8], [vI (g p)], aq_h m s F c)) rfl rfl ?_
      refine am_E.ret rfl rfl ?_
      exact ⟨_, rfl, hs, by rw [← hT, ldr, if_neg (by omega)], hQ _ (fun i h => h) (fun h => absurd h (by omega))⟩

theorem qm_lead {m s : Nat} {F : aq_F} {c : aq_C} {S : Nat → Prop} {y : Nat} (hO : mo_0 m F y) (hS13 : S (y + 13)) {tbl : Int → Int} (hT1 : F (y + 1) = (0, 992, fun j => .inr (vI (tbl (j : Int))))) {n a b p : Int} (hn1 : 1 ≤ n) (hn4 : n ≤ 4) (ha0 : 0 ≤ a) (ha1 : a + 8 ≤ 992) (hb0 : 0 ≤ b) (hb1 : b + 8 ≤ 992) {f g : Int → Int} (hf : ∀ p, 0 ≤ p → p < 2 * n → tbl (a + p) = f p) (hg : ∀ p, 0 ≤ p → p < 2 * n → tbl (b + p) = g p) (hfi : fi n f) (hgi : fi n g) (h0 : 0 ≤ p) (h1 : p < 2 * n) : am_E ac_X5_lead (0, [vR y, vI n, vI a, vI b, vI p, vU, vU, vU, vU], [], aq_h m s F c) (aq_Z m s F S c (fun r d => r = some (vI (fst_ n f g p)) ∧ (∀ i, c (y + 13) i = 1 → d (y + 13) i = 1) ∧ mkd n f g (d (y + 13)) 5 (decide (p < n)) p)) := by
  have hx := ld_ex hn4 hfi hgi h0 h1
  refine am_E.go (t2 := (2, [vR y, vI n, vI a, vI b, vI p, vU, vU, vU, vU], [vI p], aq_h m s F c)) rfl rfl ?_
  refine am_E.go (t2 := (3, [vR y, vI n, vI a, vI b, vI p, vU, vU, vU, vU], [vI n, vI p], aq_h m s F c)) rfl rfl ?_
  refine ae_icmp rfl (fun (q_1 : n ≤ p) => ?_) (fun (q_1 : p < n) => ?_)
  · refine am_E.go (t2 := (11, [vR y, vI n, vI a, vI b, vI p, vU, vU, vU, vU], [vI 0], aq_h m s F c)) rfl rfl ?_
    refine am_E.go (t2 := (13, [vR y, vI n, vI a, vI b, vI p, vI 0, vU, vU, vU], [], aq_h m s F c)) rfl rfl ?_
    refine am_E.go (t2 := (15, [vR y, vI n, vI a, vI b, vI p, vI 0, vU, vU, vU], [vI p], aq_h m s F c)) rfl rfl ?_
    refine am_E.go (t2 := (17, [vR y, vI n, vI a, vI b, vI p, vI 0, vI p, vU, vU], [], aq_h m s F c)) rfl rfl ?_
    rw [decide_eq_false (show ¬ p < n by omega)] at hx ⊢
    have e5 : fst_ n f g p = ldr n f g 5 false p := by unfold fst_; rw [decide_eq_false (show ¬ p < n by omega)]
    refine qm_lead_l (Q := fun w => (∀ i, c (y + 13) i = 1 → w i = 1) ∧ mkd n f g w 5 false p) hO hS13 hT1 hn1 hn4 ha0 ha1 hb0 hb1 hf hg hfi hgi 5 false p _ _ c aq_sm0 h0 h1 hx e5.symm (fun w w1 w2 => ⟨w1, w2⟩)
  · refine am_E.go (t2 := (7, [vR y, vI n, vI a, vI b, vI p, vU, vU, vU, vU], [vI 1], aq_h m s F c)) rfl rfl ?_
    refine am_E.go (t2 := (11, [vR y, vI n, vI a, vI b, vI p, vU, vU, vU, vU], [vI 1], aq_h m s F c)) rfl rfl ?_
    refine am_E.go (t2 := (13, [vR y, vI n, vI a, vI b, vI p, vI 1, vU, vU, vU], [], aq_h m s F c)) rfl rfl ?_
    refine am_E.go (t2 := (15, [vR y, vI n, vI a, vI b, vI p, vI 1, vU, vU, vU], [vI p], aq_h m s F c)) rfl rfl ?_
    refine am_E.go (t2 := (17, [vR y, vI n, vI a, vI b, vI p, vI 1, vI p, vU, vU], [], aq_h m s F c)) rfl rfl ?_
    rw [decide_eq_true (show p < n by omega)] at hx ⊢
    have e5 : fst_ n f g p = ldr n f g 5 true p := by unfold fst_; rw [decide_eq_true (show p < n by omega)]
    refine qm_lead_l (Q := fun w => (∀ i, c (y + 13) i = 1 → w i = 1) ∧ mkd n f g w 5 true p) hO hS13 hT1 hn1 hn4 ha0 ha1 hb0 hb1 hf hg hfi hgi 5 true p _ _ c aq_sm0 h0 h1 hx e5.symm (fun w w1 w2 => ⟨w1, w2⟩)
