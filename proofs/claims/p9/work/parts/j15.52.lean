def mo_t (y : Nat) : Nat → aq_T := fun k => match k with
  | 0 => .inr (vR (y + 1))
  | 1 => .inr (vR (y + 2))
  | 2 => .inr (vR (y + 3))
  | 3 => .inr (vR (y + 4))
  | 4 => .inr (vR (y + 5))
  | 5 => .inr (vR (y + 6))
  | 6 => .inr (vR (y + 7))
  | 7 => .inr (vR (y + 8))
  | 8 => .inr (vR (y + 9))
  | 11 => .inr (vR (y + 10))
  | 12 => .inr (vR (y + 11))
  | 13 => .inr (vR (y + 12))
  | 14 => .inr (vR (y + 13))
  | 16 => .inr (vR (y + 14))
  | 18 => .inr (vR (y + 15))
  | 19 => .inr (vR (y + 16))
  | 20 => .inr (vR (y + 17))
  | 21 => .inr (vR (y + 18))
  | 22 => .inr (vR (y + 19))
  | 23 => .inr (vR (y + 20))
  | 24 => .inr (vR (y + 21))
  | 25 => .inr (vR (y + 22))
  | 26 => .inr (vR (y + 23))
  | _ => .inl 0
def mo_0 (m : Nat) (F : aq_F) (y : Nat) : Prop := y + 24 ≤ m ∧ F y = (15, 27, mo_t y) ∧ F (y + 5) = (0, 8, fun _ => .inl 0) ∧ F (y + 6) = (0, 8, fun _ => .inl 0) ∧ F (y + 7) = (0, 320, fun _ => .inl 0) ∧ F (y + 8) = (0, 320, fun _ => .inl 0) ∧ F (y + 9) = (2, 320, fun _ => .inl 2) ∧ F (y + 10) = (0, 8, fun _ => .inl 0) ∧ F (y + 11) = (1, 8, fun _ => .inl 0) ∧ F (y + 12) = (0, 8, fun _ => .inl 0) ∧ F (y + 13) = (1, 4, fun _ => .inl 0) ∧ F (y + 14) = (0, 105, fun _ => .inl 0) ∧ F (y + 15) = (0, 42, fun _ => .inl 0) ∧ F (y + 16) = (0, 42, fun _ => .inl 0) ∧ F (y + 17) = (2, 42, fun _ => .inl 2) ∧ F (y + 18) = (0, 4, fun _ => .inl 0) ∧ F (y + 19) = (0, 4, fun _ => .inl 0) ∧ F (y + 20) = (0, 36, fun _ => .inl 0) ∧ F (y + 21) = (0, 201, fun _ => .inl 0) ∧ F (y + 22) = (0, 201, fun _ => .inl 0) ∧ F (y + 23) = (0, 201, fun _ => .inl 0)
/-- the first box of n strands -/
def mo_f (n : Int) : Int := if n = 1 then 0 else if n = 2 then 1 else if n = 3 then 4 else 19
theorem mo_fs (n : Int) : 0 ≤ mo_f n ∧ mo_f n + bx_K n ≤ 124 ∧ 1 ≤ bx_K n ∧ bx_K n ≤ 105 := by
  unfold mo_f bx_K
  (repeat' split) <;> omega
/-- the table -/
def mo_T (F : aq_F) (y : Nat) (tbl : Int → Int) : Prop := F (y + 1) = (0, 992, fun j => .inr (vI (tbl (j : Int)))) ∧ ∀ n b p : Int, 1 ≤ n → n ≤ 4 → 0 ≤ b → b < bx_K n → 0 ≤ p → p < 2 * n → tbl (8 * (mo_f n + b) + p) = prt n b p
theorem pr_f1 : ∀ b : Nat, b < 1 → ∀ p : Nat, p < 2 → 0 ≤ prt 1 b p ∧ prt 1 b p < 2 ∧ prt 1 b p ≠ p ∧ prt 1 b (prt 1 b p) = p := by decide +kernel
theorem pr_f2 : ∀ b : Nat, b < 3 → ∀ p : Nat, p < 4 → 0 ≤ prt 2 b p ∧ prt 2 b p < 4 ∧ prt 2 b p ≠ p ∧ prt 2 b (prt 2 b p) = p := by decide +kernel
theorem pr_f3 : ∀ b : Nat, b < 15 → ∀ p : Nat, p < 6 → 0 ≤ prt 3 b p ∧ prt 3 b p < 6 ∧ prt 3 b p ≠ p ∧ prt 3 b (prt 3 b p) = p := by decide +kernel
theorem pr_f4 : ∀ b : Nat, b < 105 → ∀ p : Nat, p < 8 → 0 ≤ prt 4 b p ∧ prt 4 b p < 8 ∧ prt 4 b p ≠ p ∧ prt 4 b (prt 4 b p) = p := by decide +kernel
theorem pr_fi {n b : Int} (h1 : 1 ≤ n) (h4 : n ≤ 4) (h0 : 0 ≤ b) (hb : b < bx_K n) : fi n (prt n b) := by
  intro p hp hq
  have h : n = 1 ∨ n = 2 ∨ n = 3 ∨ n = 4 := by omega
  have eb : ((b.toNat : Nat) : Int) = b := Int.toNat_of_nonneg h0
  have ep : ((p.toNat : Nat) : Int) = p := Int.toNat_of_nonneg hp
  rcases h with h | h | h | h <;> subst h
  · have hk : bx_K 1 = 1 := rfl
    have := pr_f1 b.toNat (by omega) p.toNat (by omega)
    rw [eb, ep] at this
    exact this
  · have hk : bx_K 2 = 3 := rfl
    have := pr_f2 b.toNat (by omega) p.toNat (by omega)
    rw [eb, ep] at this
    exact this
  · have hk : bx_K 3 = 15 := rfl
    have := pr_f3 b.toNat (by omega) p.toNat (by omega)
    rw [eb, ep] at this
    exact this
  · have hk : bx_K 4 = 105 := rfl
    have := pr_f4 b.toNat (by omega) p.toNat (by omega)
    rw [eb, ep] at this
    exact this
theorem pr_c {n : Int} {F : Int → Int} (h1 : 1 ≤ n) (h4 : n ≤ 4) (h : fi n F) : ∃ b : Int, 0 ≤ b ∧ b < bx_K n ∧ ∀ p, 0 ≤ p → p < 2 * n → prt n b p = F p := by
  have h9 : n = 1 ∨ n = 2 ∨ n = 3 ∨ n = 4 := by omega
  rcases h9 with h9 | h9 | h9 | h9 <;> subst h9
  · exact pr_c1 h
  · exact pr_c2 h
  · exact pr_c3 h
  · exact pr_c4 h

theorem qm_in {m s : Nat} {F : aq_F} {c : aq_C} {v0 lo hi : Int} : am_E ac_X5_in (0, [vL v0, vU, vL lo, vU, vL hi, vU], [], aq_h m s F c) (aq_P m s F c (fun r => ∃ v, r = some (vI v) ∧ ((v = 1 ∧ (lo ≤ v0 ∧ v0 ≤ hi)) ∨ (v = 0 ∧ ¬ (lo ≤ v0 ∧ v0 ≤ hi))))) := by
  refine am_E.go (t2 := (1, [vL v0, vU, vL lo, vU, vL hi, vU], [vL v0], aq_h m s F c)) rfl rfl ?_
  refine am_E.go (t2 := (2, [vL v0, vU, vL lo, vU, vL hi, vU], [vL lo, vL v0], aq_h m s F c)) rfl rfl ?_
  have ez_1 := am_lcf v0 lo
  refine am_E.go (t2 := (3, [vL v0, vU, vL lo, vU, vL hi, vU], [vI (if v0 < lo then -1 else if v0 = lo then 0 else 1)], aq_h m s F c)) rfl rfl ?_
  generalize (if v0 < lo then -1 else if v0 = lo then 0 else 1) = z_1 at ez_1 ⊢
  refine ae_if0 rfl (fun (q_2 : z_1 < 0) => ?_) (fun (q_2 : 0 ≤ z_1) => ?_)
  · refine am_E.go (t2 := (18, [vL v0, vU, vL lo, vU, vL hi, vU], [vI 0], aq_h m s F c)) rfl rfl ?_
    refine am_E.ret rfl rfl ?_
    exact ⟨rfl, _, rfl, by omega⟩
  · refine am_E.go (t2 := (7, [vL v0, vU, vL lo, vU, vL hi, vU], [vL v0], aq_h m s F c)) rfl rfl ?_
    refine am_E.go (t2 := (9, [vL v0, vU, vL lo, vU, vL hi, vU], [vL hi, vL v0], aq_h m s F c)) rfl rfl ?_
    have ez_3 := am_lcf v0 hi
    refine am_E.go (t2 := (10, [vL v0, vU, vL lo, vU, vL hi, vU], [vI (if v0 < hi then -1 else if v0 = hi then 0 else 1)], aq_h m s F c)) rfl rfl ?_
    generalize (if v0 < hi then -1 else if v0 = hi then 0 else 1) = z_3 at ez_3 ⊢
    refine ae_if0 rfl (fun (q_4 : 0 < z_3) => ?_) (fun (q_4 : z_3 ≤ 0) => ?_)
    · refine am_E.go (t2 := (18, [vL v0, vU, vL lo, vU, vL hi, vU], [vI 0], aq_h m s F c)) rfl rfl ?_
      refine am_E.ret rfl rfl ?_
      exact ⟨rfl, _, rfl, by omega⟩
    · refine am_E.go (t2 := (14, [vL v0, vU, vL lo, vU, vL hi, vU], [vI 1], aq_h m s F c)) rfl rfl ?_
      refine am_E.go (t2 := (18, [vL v0, vU, vL lo, vU, vL hi, vU], [vI 1], aq_h m s F c)) rfl rfl ?_
      refine am_E.ret rfl rfl ?_
      exact ⟨rfl, _, rfl, by omega⟩

theorem qm_isWide {m s : Nat} {F : aq_F} {c : aq_C} {n : Int} : am_E ac_X5_isWide (0, [vI n], [], aq_h m s F c) (aq_P m s F c (fun r => ∃ v, r = some (vI v) ∧ ((v = 1 ∧ (1 ≤ n ∧ n ≤ 4)) ∨ (v = 0 ∧ ¬ (1 ≤ n ∧ n ≤ 4))))) := by
  refine am_E.go (t2 := (1, [vI n], [vI n], aq_h m s F c)) rfl rfl ?_
  refine am_E.go (t2 := (2, [vI n], [vL n], aq_h m s F c)) rfl rfl ?_
  refine am_E.go (t2 := (3, [vI n], [vL 1, vL n], aq_h m s F c)) rfl rfl ?_
  refine am_E.go (t2 := (6, [vI n], [vL 4, vL 1, vL n], aq_h m s F c)) rfl rfl ?_
  refine am_E.call rfl rfl rfl (Nat.le_of_ble_eq_true rfl) (qm_in) ?_
  rintro r5 h5 ⟨rfl, v_1, rfl, hv_1⟩
  show am_E _ (9, [vI n], [vI v_1], aq_h m s F c) _
  refine ae_retb rfl (by omega) ?_
  exact ⟨rfl, _, rfl, by omega⟩

theorem qm_boxes {m s : Nat} {F : aq_F} {c : aq_C} {n : Int} : am_E ac_X5_boxes (0, [vI n], [], aq_h m s F c) (aq_P m s F c (fun r => ∃ v, r = some (vI v) ∧ v = bx_K n)) := by
  refine am_E.go (t2 := (1, [vI n], [vI n], aq_h m s F c)) rfl rfl ?_
  refine am_E.go (t2 := (2, [vI n], [vI 1, vI n], aq_h m s F c)) rfl rfl ?_
  refine ae_icmp rfl (fun (q_1 : n ≠ 1) => ?_) (fun (q_1 : n = 1) => ?_)
  · refine am_E.go (t2 := (10, [vI n], [vI n], aq_h m s F c)) rfl rfl ?_
    refine am_E.go (t2 := (11, [vI n], [vI 2, vI n], aq_h m s F c)) rfl rfl ?_
    refine ae_icmp rfl (fun (q_2 : n ≠ 2) => ?_) (fun (q_2 : n = 2) => ?_)
    · refine am_E.go (t2 := (19, [vI n], [vI n], aq_h m s F c)) rfl rfl ?_
      refine am_E.go (t2 := (20, [vI n], [vI 3, vI n], aq_h m s F c)) rfl rfl ?_
      refine ae_icmp rfl (fun (q_3 : n ≠ 3) => ?_) (fun (q_3 : n = 3) => ?_)
      · refine am_E.go (t2 := (30, [vI n], [vI 105], aq_h m s F c)) rfl rfl ?_
        refine am_E.ret rfl rfl ?_
        refine ⟨rfl, _, rfl, ?_⟩
        unfold bx_K
        (repeat' split) <;> omega
      · refine am_E.go (t2 := (25, [vI n], [vI 15], aq_h m s F c)) rfl rfl ?_
        refine am_E.go (t2 := (30, [vI n], [vI 15], aq_h m s F c)) rfl rfl ?_
        refine am_E.ret rfl rfl ?_
        refine ⟨rfl, _, rfl, ?_⟩
        unfold bx_K
        (repeat' split) <;> omega
    · refine am_E.go (t2 := (15, [vI n], [vI 3], aq_h m s F c)) rfl rfl ?_
      refine am_E.go (t2 := (30, [vI n], [vI 3], aq_h m s F c)) rfl rfl ?_
      refine am_E.ret rfl rfl ?_
      refine ⟨rfl, _, rfl, ?_⟩
      unfold bx_K
      (repeat' split) <;> omega
  · refine am_E.go (t2 := (6, [vI n], [vI 1], aq_h m s F c)) rfl rfl ?_
    refine am_E.go (t2 := (30, [vI n], [vI 1], aq_h m s F c)) rfl rfl ?_
    refine am_E.ret rfl rfl ?_
    refine ⟨rfl, _, rfl, ?_⟩
    unfold bx_K
    (repeat' split) <;> omega

theorem qm_first {m s : Nat} {F : aq_F} {c : aq_C} {n : Int} : am_E ac_X5_first (0, [vI n], [], aq_h m s F c) (aq_P m s F c (fun r => ∃ v, r = some (vI v) ∧ v = mo_f n)) := by
  refine am_E.go (t2 := (1, [vI n], [vI n], aq_h m s F c)) rfl rfl ?_
  refine am_E.go (t2 := (2, [vI n], [vI 1, vI n], aq_h m s F c)) rfl rfl ?_
  refine ae_icmp rfl (fun (q_1 : n ≠ 1) => ?_) (fun (q_1 : n = 1) => ?_)
  · refine am_E.go (t2 := (10, [vI n], [vI n], aq_h m s F c)) rfl rfl ?_
    refine am_E.go (t2 := (11, [vI n], [vI 2, vI n], aq_h m s F c)) rfl rfl ?_
    refine ae_icmp rfl (fun (q_2 : n ≠ 2) => ?_) (fun (q_2 : n = 2) => ?_)
    · refine am_E.go (t2 := (19, [vI n], [vI n], aq_h m s F c)) rfl rfl ?_
      refine am_E.go (t2 := (20, [vI n], [vI 3, vI n], aq_h m s F c)) rfl rfl ?_
      refine ae_icmp rfl (fun (q_3 : n ≠ 3) => ?_) (fun (q_3 : n = 3) => ?_)
      · refine am_E.go (t2 := (29, [vI n], [vI 19], aq_h m s F c)) rfl rfl ?_
        refine am_E.ret rfl rfl ?_
        refine ⟨rfl, _, rfl, ?_⟩
        unfold mo_f
        (repeat' split) <;> omega
      · refine am_E.go (t2 := (24, [vI n], [vI 4], aq_h m s F c)) rfl rfl ?_
        refine am_E.go (t2 := (29, [vI n], [vI 4], aq_h m s F c)) rfl rfl ?_
        refine am_E.ret rfl rfl ?_
        refine ⟨rfl, _, rfl, ?_⟩
        unfold mo_f
        (repeat' split) <;> omega
    · refine am_E.go (t2 := (15, [vI n], [vI 1], aq_h m s F c)) rfl rfl ?_
      refine am_E.go (t2 := (29, [vI n], [vI 1], aq_h m s F c)) rfl rfl ?_
      refine am_E.ret rfl rfl ?_
      refine ⟨rfl, _, rfl, ?_⟩
      unfold mo_f
      (repeat' split) <;> omega
  · refine am_E.go (t2 := (6, [vI n], [vI 0], aq_h m s F c)) rfl rfl ?_
    refine am_E.go (t2 := (29, [vI n], [vI 0], aq_h m s F c)) rfl rfl ?_
    refine am_E.ret rfl rfl ?_
    refine ⟨rfl, _, rfl, ?_⟩
    unfold mo_f
    (repeat' split) <;> omega

theorem qm_isBox {m s : Nat} {F : aq_F} {c : aq_C} {n b : Int} : am_E ac_X5_isBox (0, [vI n, vI b], [], aq_h m s F c) (aq_P m s F c (fun r => ∃ v, r = some (vI v) ∧ ((v = 1 ∧ (1 ≤ n ∧ n ≤ 4 ∧ 0 ≤ b ∧ b < bx_K n)) ∨ (v = 0 ∧ ¬ (1 ≤ n ∧ n ≤ 4 ∧ 0 ≤ b ∧ b < bx_K n))))) := by
  have hfs := mo_fs n
  refine am_E.go (t2 := (1, [vI n, vI b], [vI n], aq_h m s F c)) rfl rfl ?_
  refine am_E.call rfl rfl rfl (Nat.le_of_ble_eq_true rfl) (qm_isWide) ?_
  rintro r5 h5 ⟨rfl, v_1, rfl, hv_1⟩
  show am_E _ (4, [vI n, vI b], [vI v_1], aq_h m s F c) _
  refine ae_if0 rfl (fun (q_2 : v_1 = 0) => ?_) (fun (q_2 : v_1 ≠ 0) => ?_)
  · refine am_E.go (t2 := (28, [vI n, vI b], [vI 0], aq_h m s F c)) rfl rfl ?_
    refine am_E.ret rfl rfl ?_
    exact ⟨rfl, _, rfl, by omega⟩
  · refine am_E.go (t2 := (8, [vI n, vI b], [vI b], aq_h m s F c)) rfl rfl ?_
    refine am_E.go (t2 := (9, [vI n, vI b], [vL b], aq_h m s F c)) rfl rfl ?_
    refine am_E.go (t2 := (10, [vI n, vI b], [vL 0, vL b], aq_h m s F c)) rfl rfl ?_
    refine am_E.go (t2 := (11, [vI n, vI b], [vI n, vL 0, vL b], aq_h m s F c)) rfl rfl ?_
    refine am_E.call rfl rfl rfl (Nat.le_of_ble_eq_true rfl) (qm_boxes) ?_
    rintro r5 h5 ⟨rfl, v_3, rfl, hv_3⟩
    show am_E _ (14, [vI n, vI b], [vI v_3, vL 0, vL b], aq_h m s F c) _
    refine am_E.go (t2 := (15, [vI n, vI b], [vI 1, vI v_3, vL 0, vL b], aq_h m s F c)) rfl rfl ?_
    refine ae_sub rfl (am_ri (by omega) (by omega)) ?_
    show am_E _ (16, [vI n, vI b], [vI (v_3 - 1), vL 0, vL b], aq_h m s F c) _
    refine am_E.go (t2 := (17, [vI n, vI b], [vL (v_3 - 1), vL 0, vL b], aq_h m s F c)) rfl rfl ?_
    refine am_E.call rfl rfl rfl (Nat.le_of_ble_eq_true rfl) (qm_in) ?_
    rintro r5 h5 ⟨rfl, v_4, rfl, hv_4⟩
    show am_E _ (20, [vI n, vI b], [vI v_4], aq_h m s F c) _
    refine ae_if0 rfl (fun (q_5 : v_4 = 0) => ?_) (fun (q_5 : v_4 ≠ 0) => ?_)
    · refine am_E.go (t2 := (28, [vI n, vI b], [vI 0], aq_h m s F c)) rfl rfl ?_
      refine am_E.ret rfl rfl ?_
      exact ⟨rfl, _, rfl, by omega⟩
    · refine am_E.go (t2 := (24, [vI n, vI b], [vI 1], aq_h m s F c)) rfl rfl ?_
      refine am_E.go (t2 := (28, [vI n, vI b], [vI 1], aq_h m s F c)) rfl rfl ?_
      refine am_E.ret rfl rfl ?_
      exact ⟨rfl, _, rfl, by omega⟩

theorem qm_at {m s : Nat} {F : aq_F} {c : aq_C} {n b : Int} (h0 : 0 ≤ b) (h1 : b < bx_K n) : am_E ac_X5_at (0, [vI n, vI b], [], aq_h m s F c) (aq_P m s F c (fun r => ∃ v, r = some (vI v) ∧ v = 8 * (mo_f n + b))) := by
  have hfs := mo_fs n
  refine am_E.go (t2 := (2, [vI n, vI b], [vI 8], aq_h m s F c)) rfl rfl ?_
  refine am_E.go (t2 := (3, [vI n, vI b], [vI n, vI 8], aq_h m s F c)) rfl rfl ?_
  refine am_E.call rfl rfl rfl (Nat.le_of_ble_eq_true rfl) (qm_first) ?_
  rintro r5 h5 ⟨rfl, v_1, rfl, hv_1⟩
  show am_E _ (6, [vI n, vI b], [vI v_1, vI 8], aq_h m s F c) _
  refine am_E.go (t2 := (7, [vI n, vI b], [vI b, vI v_1, vI 8], aq_h m s F c)) rfl rfl ?_
  refine ae_add rfl (am_ri (by omega) (by omega)) ?_
  show am_E _ (8, [vI n, vI b], [vI (v_1 + b), vI 8], aq_h m s F c) _
  refine ae_mul rfl (am_ri (by omega) (by omega)) ?_
  show am_E _ (9, [vI n, vI b], [vI (8 * (v_1 + b))], aq_h m s F c) _
  refine am_E.ret rfl rfl ?_
  exact ⟨rfl, _, rfl, by omega⟩

theorem qm_isLetter {m s : Nat} {F : aq_F} {c : aq_C} {n l : Int} (h0 : -100 ≤ n) (h1 : n ≤ 100) : am_E ac_X5_isLetter (0, [vI n, vI l], [], aq_h m s F c) (aq_P m s F c (fun r => ∃ v, r = some (vI v) ∧ ((v = 1 ∧ ((1 ≤ l ∧ l < n) ∨ (11 ≤ l ∧ l < 10 + n))) ∨ (v = 0 ∧ ¬ ((1 ≤ l ∧ l < n) ∨ (11 ≤ l ∧ l < 10 + n)))))) := by
  refine am_E.go (t2 := (1, [vI n, vI l], [vI l], aq_h m s F c)) rfl rfl ?_
  refine am_E.go (t2 := (2, [vI n, vI l], [vL l], aq_h m s F c)) rfl rfl ?_
  refine am_E.go (t2 := (3, [vI n, vI l], [vL 1, vL l], aq_h m s F c)) rfl rfl ?_
  refine am_E.go (t2 := (4, [vI n, vI l], [vI n, vL 1, vL l], aq_h m s F c)) rfl rfl ?_
  refine am_E.go (t2 := (5, [vI n, vI l], [vI 1, vI n, vL 1, vL l], aq_h m s F c)) rfl rfl ?_
  refine ae_sub rfl (am_ri (by omega) (by omega)) ?_
  show am_E _ (6, [vI n, vI l], [vI (n - 1), vL 1, vL l], aq_h m s F c) _
  refine am_E.go (t2 := (7, [vI n, vI l], [vL (n - 1), vL 1, vL l], aq_h m s F c)) rfl rfl ?_
  refine am_E.call rfl rfl rfl (Nat.le_of_ble_eq_true rfl) (qm_in) ?_
  rintro r5 h5 ⟨rfl, v_1, rfl, hv_1⟩
  show am_E _ (10, [vI n, vI l], [vI v_1], aq_h m s F c) _
  refine ae_if0 rfl (fun (q_2 : v_1 ≠ 0) => ?_) (fun (q_2 : v_1 = 0) => ?_)
  · refine am_E.go (t2 := (30, [vI n, vI l], [vI 1], aq_h m s F c)) rfl rfl ?_
    refine am_E.go (t2 := (34, [vI n, vI l], [vI 1], aq_h m s F c)) rfl rfl ?_
    refine am_E.ret rfl rfl ?_
    exact ⟨rfl, _, rfl, by omega⟩
  · refine am_E.go (t2 := (14, [vI n, vI l], [vI l], aq_h m s F c)) rfl rfl ?_
    refine am_E.go (t2 := (15, [vI n, vI l], [vL l], aq_h m s F c)) rfl rfl ?_
    refine am_E.go (t2 := (18, [vI n, vI l], [vL 11, vL l], aq_h m s F c)) rfl rfl ?_
    refine am_E.go (t2 := (20, [vI n, vI l], [vI 9, vL 11, vL l], aq_h m s F c)) rfl rfl ?_
    refine am_E.go (t2 := (21, [vI n, vI l], [vI n, vI 9, vL 11, vL l], aq_h m s F c)) rfl rfl ?_
    refine ae_add rfl (am_ri (by omega) (by omega)) ?_
    show am_E _ (22, [vI n, vI l], [vI (9 + n), vL 11, vL l], aq_h m s F c) _
    refine am_E.go (t2 := (23, [vI n, vI l], [vL (9 + n), vL 11, vL l], aq_h m s F c)) rfl rfl ?_
    refine am_E.call rfl rfl rfl (Nat.le_of_ble_eq_true rfl) (qm_in) ?_
    rintro r5 h5 ⟨rfl, v_3, rfl, hv_3⟩
    show am_E _ (26, [vI n, vI l], [vI v_3], aq_h m s F c) _
    refine ae_if0 rfl (fun (q_4 : v_3 = 0) => ?_) (fun (q_4 : v_3 ≠ 0) => ?_)
    · refine am_E.go (t2 := (34, [vI n, vI l], [vI 0], aq_h m s F c)) rfl rfl ?_
      refine am_E.ret rfl rfl ?_
      exact ⟨rfl, _, rfl, by omega⟩
    · refine am_E.go (t2 := (30, [vI n, vI l], [vI 1], aq_h m s F c)) rfl rfl ?_
      refine am_E.go (t2 := (34, [vI n, vI l], [vI 1], aq_h m s F c)) rfl rfl ?_
      refine am_E.ret rfl rfl ?_
      exact ⟨rfl, _, rfl, by omega⟩

theorem qm_isSum {m s : Nat} {F : aq_F} {c : aq_C} {n : Int} : am_E ac_X5_isSum (0, [vI n], [], aq_h m s F c) (aq_P m s F c (fun r => ∃ v, r = some (vI v) ∧ ((v = 1 ∧ (0 ≤ n ∧ n < 8)) ∨ (v = 0 ∧ ¬ (0 ≤ n ∧ n < 8))))) := by
  refine am_E.go (t2 := (1, [vI n], [vI n], aq_h m s F c)) rfl rfl ?_
  refine am_E.go (t2 := (2, [vI n], [vL n], aq_h m s F c)) rfl rfl ?_
  refine am_E.go (t2 := (3, [vI n], [vL 0, vL n], aq_h m s F c)) rfl rfl ?_
  refine am_E.go (t2 := (6, [vI n], [vL 7, vL 0, vL n], aq_h m s F c)) rfl rfl ?_
  refine am_E.call rfl rfl rfl (Nat.le_of_ble_eq_true rfl) (qm_in) ?_
  rintro r5 h5 ⟨rfl, v_1, rfl, hv_1⟩
  show am_E _ (9, [vI n], [vI v_1], aq_h m s F c) _
  refine ae_retb rfl (by omega) ?_
  exact ⟨rfl, _, rfl, by omega⟩

theorem qm_areHalves {m s : Nat} {F : aq_F} {c : aq_C} {n t : Int} : am_E ac_X5_areHalves (0, [vI n, vI t], [], aq_h m s F c) (aq_P m s F c (fun r => ∃ v, r = some (vI v) ∧ ((v = 1 ∧ (1 ≤ n ∧ n ≤ 4 ∧ 0 ≤ t ∧ t ≤ n)) ∨ (v = 0 ∧ ¬ (1 ≤ n ∧ n ≤ 4 ∧ 0 ≤ t ∧ t ≤ n))))) := by
  refine am_E.go (t2 := (1, [vI n, vI t], [vI n], aq_h m s F c)) rfl rfl ?_
  refine am_E.call rfl rfl rfl (Nat.le_of_ble_eq_true rfl) (qm_isWide) ?_
  rintro r5 h5 ⟨rfl, v_1, rfl, hv_1⟩
  show am_E _ (4, [vI n, vI t], [vI v_1], aq_h m s F c) _
  refine ae_if0 rfl (fun (q_2 : v_1 = 0) => ?_) (fun (q_2 : v_1 ≠ 0) => ?_)
  · refine am_E.go (t2 := (23, [vI n, vI t], [vI 0], aq_h m s F c)) rfl rfl ?_
    refine am_E.ret rfl rfl ?_
    exact ⟨rfl, _, rfl, by omega⟩
  · refine am_E.go (t2 := (8, [vI n, vI t], [vI t], aq_h m s F c)) rfl rfl ?_
    refine am_E.go (t2 := (9, [vI n, vI t], [vL t], aq_h m s F c)) rfl rfl ?_
    refine am_E.go (t2 := (10, [vI n, vI t], [vL 0, vL t], aq_h m s F c)) rfl rfl ?_
    refine am_E.go (t2 := (11, [vI n, vI t], [vI n, vL 0, vL t], aq_h m s F c)) rfl rfl ?_
    refine am_E.go (t2 := (12, [vI n, vI t], [vL n, vL 0, vL t], aq_h m s F c)) rfl rfl ?_
    refine am_E.call rfl rfl rfl (Nat.le_of_ble_eq_true rfl) (qm_in) ?_
    rintro r5 h5 ⟨rfl, v_3, rfl, hv_3⟩
    show am_E _ (15, [vI n, vI t], [vI v_3], aq_h m s F c) _
    refine ae_if0 rfl (fun (q_4 : v_3 = 0) => ?_) (fun (q_4 : v_3 ≠ 0) => ?_)
    · refine am_E.go (t2 := (23, [vI n, vI t], [vI 0], aq_h m s F c)) rfl rfl ?_
      refine am_E.ret rfl rfl ?_
      exact ⟨rfl, _, rfl, by omega⟩
    · refine am_E.go (t2 := (19, [vI n, vI t], [vI 1], aq_h m s F c)) rfl rfl ?_
      refine am_E.go (t2 := (23, [vI n, vI t], [vI 1], aq_h m s F c)) rfl rfl ?_
      refine am_E.ret rfl rfl ?_
      exact ⟨rfl, _, rfl, by omega⟩

theorem qm_round {m s : Nat} {F : aq_F} {c : aq_C} {n p : Int} : am_E ac_X5_round (0, [vI n, vI p], [], aq_h m s F c) (aq_P m s F c aq_vi) := by
  refine am_E.go (t2 := (1, [vI n, vI p], [vI p], aq_h m s F c)) rfl rfl ?_
  refine am_E.go (t2 := (2, [vI n, vI p], [vI n, vI p], aq_h m s F c)) rfl rfl ?_
  refine ae_icmp rfl (fun (q_1 : n ≤ p) => ?_) (fun (q_1 : p < n) => ?_)
  · refine am_E.go (t2 := (10, [vI n, vI p], [vI 3], aq_h m s F c)) rfl rfl ?_
    refine am_E.go (t2 := (11, [vI n, vI p], [vI n, vI 3], aq_h m s F c)) rfl rfl ?_
    refine am_E.go (t2 := (12, [vI n, vI p], [vI (am_w (3 * n))], aq_h m s F c)) rfl rfl ?_
    refine am_E.go (t2 := (13, [vI n, vI p], [vI 1, vI (am_w (3 * n))], aq_h m s F c)) rfl rfl ?_
    refine am_E.go (t2 := (14, [vI n, vI p], [vI (am_w ((am_w (3 * n)) - 1))], aq_h m s F c)) rfl rfl ?_
    refine am_E.go (t2 := (15, [vI n, vI p], [vI p, vI (am_w ((am_w (3 * n)) - 1))], aq_h m s F c)) rfl rfl ?_
    refine am_E.go (t2 := (16, [vI n, vI p], [vI (am_w ((am_w ((am_w (3 * n)) - 1)) - p))], aq_h m s F c)) rfl rfl ?_
    refine am_E.ret rfl rfl ?_
    exact ⟨rfl, _, rfl⟩
  · refine am_E.go (t2 := (6, [vI n, vI p], [vI p], aq_h m s F c)) rfl rfl ?_
    refine am_E.go (t2 := (16, [vI n, vI p], [vI p], aq_h m s F c)) rfl rfl ?_
    refine am_E.ret rfl rfl ?_
    exact ⟨rfl, _, rfl⟩

theorem qm_lead_l {m s : Nat} {F : aq_F} {c0 : aq_C} {S : Nat → Prop} {y : Nat} (hO : mo_0 m F y) (hS13 : S (y + 13)) {tbl : Int → Int} (hT1 : F (y + 1) = (0, 992, fun j => .inr (vI (tbl (j : Int))))) {n a b from_ T : Int} {Q : (Int → Int) → Prop} (hn1 : 1 ≤ n) (hn4 : n ≤ 4) (ha0 : 0 ≤ a) (ha1 : a + 8 ≤ 992) (hb0 : 0 ≤ b) (hb1 : b + 8 ≤ 992) {f g : Int → Int} (hf : ∀ p, 0 ≤ p → p < 2 * n → tbl (a + p) = f p) (hg : ∀ p, 0 ≤ p → p < 2 * n → tbl (b + p) = g p) (hfi : fi n f) (hgi : fi n g) : ∀ (d : Nat) (u : Bool) (p : Int) (v7 v8 : am_V) (c : aq_C) (hs : aq_sm S c0 c) (h0 : 0 ≤ p) (h1 : p < 2 * n) (he : exd n f g d u p) (hT : ldr n f g d u p = T) (hQ : ∀ w : Int → Int, (∀ i, c (y + 13) i = 1 → w i = 1) → mkd n f g w d u p → Q w), am_E ac_X5_lead (17, [vR y, vI n, vI a, vI b, vI from_, vI (if u then 1 else 0), vI p, v7, v8], [], aq_h m s F c) (aq_Z m s F S c0 (fun r d => r = some (vI T) ∧ Q (d (y + 13))))
  | 0, u, p, v7, v8, c, hs, h0, h1, he, hT, hQ => he.elim
  | d + 1, true, p, v7, v8, c, hs, h0, h1, he, hT, hQ => by
    obtain ⟨hm, hFo, hG5, hG6, hG7, hG8, hG9, hG10, hG11, hG12, hG13, hG14, hG15, hG16, hG17, hG18, hG19, hG20, hG21, hG22, hG23⟩ := hO
    show am_E _ (17, [vR y, vI n, vI a, vI b, vI from_, vI 1, vI p, v7, v8], [], aq_h m s F c) _
    refine am_E.go (t2 := (18, [vR y, vI n, vI a, vI b, vI from_, vI 1, vI p, v7, v8], [vR y], aq_h m s F c)) rfl rfl ?_
    refine aq_gf (v := vR (y + 1)) rfl (by omega) hFo (by decide) rfl ?_
    show am_E _ (21, [vR y, vI n, vI a, vI b, vI from_, vI 1, vI p, v7, v8], [vR (y + 1)], aq_h m s F c) _
    refine am_E.go (t2 := (23, [vR y, vI n, vI a, vI b, vI from_, vI 1, vI p, v7, v8], [vI 1, vR (y + 1)], aq_h m s F c)) rfl rfl ?_
    refine am_E.go (t2 := (26, [vR y, vI n, vI a, vI b, vI from_, vI 1, vI p, v7, v8], [vR (y + 1)], aq_h m s F c)) rfl rfl ?_
    refine am_E.go (t2 := (27, [vR y, vI n, vI a, vI b, vI from_, vI 1, vI p, v7, v8], [vI a, vR (y + 1)], aq_h m s F c)) rfl rfl ?_
    refine am_E.go (t2 := (31, [vR y, vI n, vI a, vI b, vI from_, vI 1, vI p, v7, v8], [vI a, vR (y + 1)], aq_h m s F c)) rfl rfl ?_
    refine am_E.go (t2 := (33, [vR y, vI n, vI a, vI b, vI from_, vI 1, vI p, v7, v8], [vI p, vI a, vR (y + 1)], aq_h m s F c)) rfl rfl ?_
    refine ae_add rfl (am_ri (by omega) (by omega)) ?_
    show am_E _ (34, [vR y, vI n, vI a, vI b, vI from_, vI 1, vI p, v7, v8], [vI (a + p), vR (y + 1)], aq_h m s F c) _
    have e_t := hf p (by omega) (by omega)
    have e_f := hfi p (by omega) (by omega)
    refine aq_alt (ok := fun k => k == 0) rfl rfl (by omega) hT1 rfl (by omega) (by omega) ?_
    rw [e_t]
    show am_E _ (35, [vR y, vI n, vI a, vI b, vI from_, vI 1, vI p, v7, v8], [vI (f p)], aq_h m s F c) _
    refine am_E.go (t2 := (37, [vR y, vI n, vI a, vI b, vI from_, vI 1, vI (f p), v7, v8], [], aq_h m s F c)) rfl rfl ?_
    refine am_E.go (t2 := (39, [vR y, vI n, vI a, vI b, vI from_, vI 1, vI (f p), v7, v8], [vI 1], aq_h m s F c)) rfl rfl ?_
    refine am_E.go (t2 := (42, [vR y, vI n, vI a, vI b, vI from_, vI 1, vI (f p), v7, v8], [], aq_h m s F c)) rfl rfl ?_
    refine am_E.go (t2 := (44, [vR y, vI n, vI a, vI b, vI from_, vI 1, vI (f p), v7, v8], [vI (f p)], aq_h m s F c)) rfl rfl ?_
    refine am_E.go (t2 := (45, [vR y, vI n, vI a, vI b, vI from_, vI 1, vI (f p), v7, v8], [vI n, vI (f p)], aq_h m s F c)) rfl rfl ?_
    refine ae_icmp rfl (fun (q_1 : n ≤ (f p)) => ?_) (fun (q_1 : (f p) < n) => ?_)
    · refine am_E.go (t2 := (53, [vR y, vI n, vI a, vI b, vI from_, vI 1, vI (f p), v7, v8], [vI 0], aq_h m s F c)) rfl rfl ?_
      refine am_E.go (t2 := (67, [vR y, vI n, vI a, vI b, vI from_, vI 1, vI (f p), v7, v8], [vI 0], aq_h m s F c)) rfl rfl ?_
      refine am_E.go (t2 := (69, [vR y, vI n, vI a, vI b, vI from_, vI 1, vI (f p), vI 0, v8], [], aq_h m s F c)) rfl rfl ?_
      refine am_E.go (t2 := (71, [vR y, vI n, vI a, vI b, vI from_, vI 1, vI (f p), vI 0, v8], [vI 0], aq_h m s F c)) rfl rfl ?_
      refine am_E.go (t2 := (77, [vR y, vI n, vI a, vI b, vI from_, vI 1, vI (f p), vI 0, v8], [], aq_h m s F c)) rfl rfl ?_
      refine am_E.go (t2 := (79, [vR y, vI n, vI a, vI b, vI from_, vI 1, vI (f p), vI 0, v8], [vI 1], aq_h m s F c)) rfl rfl ?_
      refine am_E.go (t2 := (82, [vR y, vI n, vI a, vI b, vI from_, vI 1, vI (f p), vI 0, v8], [], aq_h m s F c)) rfl rfl ?_
      refine am_E.go (t2 := (84, [vR y, vI n, vI a, vI b, vI from_, vI 1, vI (f p), vI 0, v8], [vI (f p)], aq_h m s F c)) rfl rfl ?_
      refine am_E.go (t2 := (85, [vR y, vI n, vI a, vI b, vI from_, vI 1, vI (f p), vI 0, v8], [vI n, vI (f p)], aq_h m s F c)) rfl rfl ?_
      refine ae_sub rfl (am_ri (by omega) (by omega)) ?_
      show am_E _ (86, [vR y, vI n, vI a, vI b, vI from_, vI 1, vI (f p), vI 0, v8], [vI ((f p) - n)], aq_h m s F c) _
      refine am_E.go (t2 := (91, [vR y, vI n, vI a, vI b, vI from_, vI 1, vI (f p), vI 0, v8], [vI ((f p) - n)], aq_h m s F c)) rfl rfl ?_
      refine am_E.go (t2 := (93, [vR y, vI n, vI a, vI b, vI from_, vI 1, vI (f p), vI 0, vI ((f p) - n)], [], aq_h m s F c)) rfl rfl ?_
      refine am_E.go (t2 := (94, [vR y, vI n, vI a, vI b, vI from_, vI 1, vI (f p), vI 0, vI ((f p) - n)], [vR y], aq_h m s F c)) rfl rfl ?_
      refine aq_gf (v := vR (y + 13)) rfl (by omega) hFo (by decide) rfl ?_
      show am_E _ (97, [vR y, vI n, vI a, vI b, vI from_, vI 1, vI (f p), vI 0, vI ((f p) - n)], [vR (y + 13)], aq_h m s F c) _
      refine am_E.go (t2 := (99, [vR y, vI n, vI a, vI b, vI from_, vI 1, vI (f p), vI 0, vI ((f p) - n)], [vI ((f p) - n), vR (y + 13)], aq_h m s F c)) rfl rfl ?_
      refine am_E.go (t2 := (100, [vR y, vI n, vI a, vI b, vI from_, vI 1, vI (f p), vI 0, vI ((f p) - n)], [vI 1, vI ((f p) - n), vR (y + 13)], aq_h m s F c)) rfl rfl ?_
      refine aq_as (kd := 1) rfl rfl (by omega) hG13 (by omega) (by omega) rfl rfl ?_
      show am_E _ (101, [vR y, vI n, vI a, vI b, vI from_, vI 1, vI (f p), vI 0, vI ((f p) - n)], [], aq_h m s F (aq_u c (y + 13) ((f p) - n) 1)) _
      generalize hdc_2 : aq_u c (y + 13) ((f p) - n) 1 = c_2
      have sc_2 := aq_smu hs hdc_2 (hS13)
      refine am_E.go (t2 := (103, [vR y, vI n, vI a, vI b, vI from_, vI 1, vI (f p), vI 0, vI ((f p) - n)], [vI 1], aq_h m s F c_2)) rfl rfl ?_
      refine am_E.go (t2 := (106, [vR y, vI n, vI a, vI b, vI from_, vI 1, vI (f p), vI 0, vI ((f p) - n)], [], aq_h m s F c_2)) rfl rfl ?_
      refine am_E.go (t2 := (108, [vR y, vI n, vI a, vI b, vI from_, vI 1, vI (f p), vI 0, vI ((f p) - n)], [vI ((f p) - n)], aq_h m s F c_2)) rfl rfl ?_
      refine am_E.go (t2 := (115, [vR y, vI n, vI a, vI b, vI from_, vI 1, vI (f p), vI 0, vI ((f p) - n)], [vI ((f p) - n)], aq_h m s F c_2)) rfl rfl ?_
      refine am_E.go (t2 := (117, [vR y, vI n, vI a, vI b, vI from_, vI 1, vI ((f p) - n), vI 0, vI ((f p) - n)], [], aq_h m s F c_2)) rfl rfl ?_
      refine am_E.go (t2 := (119, [vR y, vI n, vI a, vI b, vI from_, vI 1, vI ((f p) - n), vI 0, vI ((f p) - n)], [vI 1], aq_h m s F c_2)) rfl rfl ?_
      refine am_E.go (t2 := (126, [vR y, vI n, vI a, vI b, vI from_, vI 1, vI ((f p) - n), vI 0, vI ((f p) - n)], [], aq_h m s F c_2)) rfl rfl ?_
      refine am_E.go (t2 := (127, [vR y, vI n, vI a, vI b, vI from_, vI 1, vI ((f p) - n), vI 0, vI ((f p) - n)], [vI 0], aq_h m s F c_2)) rfl rfl ?_
      refine am_E.go (t2 := (129, [vR y, vI n, vI a, vI b, vI from_, vI 0, vI ((f p) - n), vI 0, vI ((f p) - n)], [], aq_h m s F c_2)) rfl rfl ?_
      refine am_E.go (t2 := (17, [vR y, vI n, vI a, vI b, vI from_, vI 0, vI ((f p) - n), vI 0, vI ((f p) - n)], [], aq_h m s F c_2)) rfl rfl ?_
      refine qm_lead_l ⟨hm, hFo, hG5, hG6, hG7, hG8, hG9, hG10, hG11, hG12, hG13, hG14, hG15, hG16, hG17, hG18, hG19, hG20, hG21, hG22, hG23⟩ hS13 hT1 hn1 hn4 ha0 ha1 hb0 hb1 hf hg hfi hgi d false ((f p) - n) _ _ c_2 sc_2 (by omega) (by omega) (he (by omega)) (by rw [← hT, ldr, if_pos (by omega)]) (fun w w1 w2 => hQ w (fun i hi => w1 i ?_) (fun _ => ⟨w1 _ ?_, w2⟩))
      · rw [← hdc_2]
        unfold aq_u
        split
        · rfl
        · exact hi
      · rw [← hdc_2, aq_us]
    · refine am_E.go (t2 := (49, [vR y, vI n, vI a, vI b, vI from_, vI 1, vI (f p), v7, v8], [vI 1], aq_h m s F c)) rfl rfl ?_
      refine am_E.go (t2 := (67, [vR y, vI n, vI a, vI b, vI from_, vI 1, vI (f p), v7, v8], [vI 1], aq_h m s F c)) rfl rfl ?_
      refine am_E.go (t2 := (69, [vR y, vI n, vI a, vI b, vI from_, vI 1, vI (f p), vI 1, v8], [], aq_h m s F c)) rfl rfl ?_
      refine am_E.go (t2 := (71, [vR y, vI n, vI a, vI b, vI from_, vI 1, vI (f p), vI 1, v8], [vI 1], aq_h m s F c)) rfl rfl ?_
      refine am_E.go (t2 := (74, [vR y, vI n, vI a, vI b, vI from_, vI 1, vI (f p), vI 1, v8], [], aq_h m s F c)) rfl rfl ?_
      refine am_E.go (t2 := (76, [vR y, vI n, vI a, vI b, vI from_, vI 1, vI (f p), vI 1, v8], [vI (f p)], aq_h m s F c)) rfl rfl ?_
      refine am_E.ret rfl rfl ?_
      exact ⟨_, rfl, hs, by rw [← hT, ldr, if_neg (by omega)], hQ _ (fun i h => h) (fun h => absurd h (by omega))⟩
  | d + 1, false, p, v7, v8, c, hs, h0, h1, he, hT, hQ => by
    obtain ⟨hm, hFo, hG5, hG6, hG7, hG8, hG9, hG10, hG11, hG12, hG13, hG14, hG15, hG16, hG17, hG18, hG19, hG20, hG21, hG22, hG23⟩ := hO
    show am_E _ (17, [vR y, vI n, vI a, vI b, vI from_, vI 0, vI p, v7, v8], [], aq_h m s F c) _
    refine am_E.go (t2 := (18, [vR y, vI n, vI a, vI b, vI from_, vI 0, vI p, v7, v8], [vR y], aq_h m s F c)) rfl rfl ?_
    refine aq_gf (v := vR (y + 1)) rfl (by omega) hFo (by decide) rfl ?_
    show am_E _ (21, [vR y, vI n, vI a, vI b, vI from_, vI 0, vI p, v7, v8], [vR (y + 1)], aq_h m s F c) _
    refine am_E.go (t2 := (23, [vR y, vI n, vI a, vI b, vI from_, vI 0, vI p, v7, v8], [vI 0, vR (y + 1)], aq_h m s F c)) rfl rfl ?_
    refine am_E.go (t2 := (30, [vR y, vI n, vI a, vI b, vI from_, vI 0, vI p, v7, v8], [vR (y + 1)], aq_h m s F c)) rfl rfl ?_
    refine am_E.go (t2 := (31, [vR y, vI n, vI a, vI b, vI from_, vI 0, vI p, v7, v8], [vI b, vR (y + 1)], aq_h m s F c)) rfl rfl ?_
    refine am_E.go (t2 := (33, [vR y, vI n, vI a, vI b, vI from_, vI 0, vI p, v7, v8], [vI p, vI b, vR (y + 1)], aq_h m s F c)) rfl rfl ?_
    refine ae_add rfl (am_ri (by omega) (by omega)) ?_
    show am_E _ (34, [vR y, vI n, vI a, vI b, vI from_, vI 0, vI p, v7, v8], [vI (b + p), vR (y + 1)], aq_h m s F c) _
    have e_t := hg p (by omega) (by omega)
    have e_f := hgi p (by omega) (by omega)
    refine aq_alt (ok := fun k => k == 0) rfl rfl (by omega) hT1 rfl (by omega) (by omega) ?_
    rw [e_t]
    show am_E _ (35, [vR y, vI n, vI a, vI b, vI from_, vI 0, vI p, v7, v8], [vI (g p)], aq_h m s F c) _
    refine am_E.go (t2 := (37, [vR y, vI n, vI a, vI b, vI from_, vI 0, vI (g p), v7, v8], [], aq_h m s F c)) rfl rfl ?_
    refine am_E.go (t2 := (39, [vR y, vI n, vI a, vI b, vI from_, vI 0, vI (g p), v7, v8], [vI 0], aq_h m s F c)) rfl rfl ?_
    refine am_E.go (t2 := (56, [vR y, vI n, vI a, vI b, vI from_, vI 0, vI (g p), v7, v8], [], aq_h m s F c)) rfl rfl ?_
    refine am_E.go (t2 := (58, [vR y, vI n, vI a, vI b, vI from_, vI 0, vI (g p), v7, v8], [vI (g p)], aq_h m s F c)) rfl rfl ?_
    refine am_E.go (t2 := (59, [vR y, vI n, vI a, vI b, vI from_, vI 0, vI (g p), v7, v8], [vI n, vI (g p)], aq_h m s F c)) rfl rfl ?_
    refine ae_icmp rfl (fun (q_1 : (g p) < n) => ?_) (fun (q_1 : n ≤ (g p)) => ?_)
    · refine am_E.go (t2 := (67, [vR y, vI n, vI a, vI b, vI from_, vI 0, vI (g p), v7, v8], [vI 0], aq_h m s F c)) rfl rfl ?_
      refine am_E.go (t2 := (69, [vR y, vI n, vI a, vI b, vI from_, vI 0, vI (g p), vI 0, v8], [], aq_h m s F c)) rfl rfl ?_
      refine am_E.go (t2 := (71, [vR y, vI n, vI a, vI b, vI from_, vI 0, vI (g p), vI 0, v8], [vI 0], aq_h m s F c)) rfl rfl ?_
      refine am_E.go (t2 := (77, [vR y, vI n, vI a, vI b, vI from_, vI 0, vI (g p), vI 0, v8], [], aq_h m s F c)) rfl rfl ?_
      refine am_E.go (t2 := (79, [vR y, vI n, vI a, vI b, vI from_, vI 0, vI (g p), vI 0, v8], [vI 0], aq_h m s F c)) rfl rfl ?_
      refine am_E.go (t2 := (89, [vR y, vI n, vI a, vI b, vI from_, vI 0, vI (g p), vI 0, v8], [], aq_h m s F c)) rfl rfl ?_
      refine am_E.go (t2 := (91, [vR y, vI n, vI a, vI b, vI from_, vI 0, vI (g p), vI 0, v8], [vI (g p)], aq_h m s F c)) rfl rfl ?_
      refine am_E.go (t2 := (93, [vR y, vI n, vI a, vI b, vI from_, vI 0, vI (g p), vI 0, vI (g p)], [], aq_h m s F c)) rfl rfl ?_
      refine am_E.go (t2 := (94, [vR y, vI n, vI a, vI b, vI from_, vI 0, vI (g p), vI 0, vI (g p)], [vR y], aq_h m s F c)) rfl rfl ?_
      refine aq_gf (v := vR (y + 13)) rfl (by omega) hFo (by decide) rfl ?_
      show am_E _ (97, [vR y, vI n, vI a, vI b, vI from_, vI 0, vI (g p), vI 0, vI (g p)], [vR (y + 13)], aq_h m s F c) _
      refine am_E.go (t2 := (99, [vR y, vI n, vI a, vI b, vI from_, vI 0, vI (g p), vI 0, vI (g p)], [vI (g p), vR (y + 13)], aq_h m s F c)) rfl rfl ?_
      refine am_E.go (t2 := (100, [vR y, vI n, vI a, vI b, vI from_, vI 0, vI (g p), vI 0, vI (g p)], [vI 1, vI (g p), vR (y + 13)], aq_h m s F c)) rfl rfl ?_
      refine aq_as (kd := 1) rfl rfl (by omega) hG13 (by omega) (by omega) rfl rfl ?_
      show am_E _ (101, [vR y, vI n, vI a, vI b, vI from_, vI 0, vI (g p), vI 0, vI (g p)], [], aq_h m s F (aq_u c (y + 13) (g p) 1)) _
      generalize hdc_2 : aq_u c (y + 13) (g p) 1 = c_2
      have sc_2 := aq_smu hs hdc_2 (hS13)
      refine am_E.go (t2 := (103, [vR y, vI n, vI a, vI b, vI from_, vI 0, vI (g p), vI 0, vI (g p)], [vI 0], aq_h m s F c_2)) rfl rfl ?_
      refine am_E.go (t2 := (111, [vR y, vI n, vI a, vI b, vI from_, vI 0, vI (g p), vI 0, vI (g p)], [], aq_h m s F c_2)) rfl rfl ?_
      refine am_E.go (t2 := (112, [vR y, vI n, vI a, vI b, vI from_, vI 0, vI (g p), vI 0, vI (g p)], [vI n], aq_h m s F c_2)) rfl rfl ?_
      refine am_E.go (t2 := (114, [vR y, vI n, vI a, vI b, vI from_, vI 0, vI (g p), vI 0, vI (g p)], [vI (g p), vI n], aq_h m s F c_2)) rfl rfl ?_
      refine ae_add rfl (am_ri (by omega) (by omega)) ?_
      show am_E _ (115, [vR y, vI n, vI a, vI b, vI from_, vI 0, vI (g p), vI 0, vI (g p)], [vI (n + (g p))], aq_h m s F c_2) _
      refine am_E.go (t2 := (117, [vR y, vI n, vI a, vI b, vI from_, vI 0, vI (n + (g p)), vI 0, vI (g p)], [], aq_h m s F c_2)) rfl rfl ?_
      refine am_E.go (t2 := (119, [vR y, vI n, vI a, vI b, vI from_, vI 0, vI (n + (g p)), vI 0, vI (g p)], [vI 0], aq_h m s F c_2)) rfl rfl ?_
      refine am_E.go (t2 := (122, [vR y, vI n, vI a, vI b, vI from_, vI 0, vI (n + (g p)), vI 0, vI (g p)], [], aq_h m s F c_2)) rfl rfl ?_
      refine am_E.go (t2 := (123, [vR y, vI n, vI a, vI b, vI from_, vI 0, vI (n + (g p)), vI 0, vI (g p)], [vI 1], aq_h m s F c_2)) rfl rfl ?_
      refine am_E.go (t2 := (127, [vR y, vI n, vI a, vI b, vI from_, vI 0, vI (n + (g p)), vI 0, vI (g p)], [vI 1], aq_h m s F c_2)) rfl rfl ?_
      refine am_E.go (t2 := (129, [vR y, vI n, vI a, vI b, vI from_, vI 1, vI (n + (g p)), vI 0, vI (g p)], [], aq_h m s F c_2)) rfl rfl ?_
      refine am_E.go (t2 := (17, [vR y, vI n, vI a, vI b, vI from_, vI 1, vI (n + (g p)), vI 0, vI (g p)], [], aq_h m s F c_2)) rfl rfl ?_
      refine qm_lead_l ⟨hm, hFo, hG5, hG6, hG7, hG8, hG9, hG10, hG11, hG12, hG13, hG14, hG15, hG16, hG17, hG18, hG19, hG20, hG21, hG22, hG23⟩ hS13 hT1 hn1 hn4 ha0 ha1 hb0 hb1 hf hg hfi hgi d true (n + (g p)) _ _ c_2 sc_2 (by omega) (by omega) (he (by omega)) (by rw [← hT, ldr, if_pos (by omega)]) (fun w w1 w2 => hQ w (fun i hi => w1 i ?_) (fun _ => ⟨w1 _ ?_, w2⟩))
      · rw [← hdc_2]
        unfold aq_u
        split
        · rfl
        · exact hi
      · rw [← hdc_2, aq_us]
    · refine am_E.go (t2 := (63, [vR y, vI n, vI a, vI b, vI from_, vI 0, vI (g p), v7, v8], [vI 1], aq_h m s F c)) rfl rfl ?_
      refine am_E.go (t2 := (67, [vR y, vI n, vI a, vI b, vI from_, vI 0, vI (g p), v7, v8], [vI 1], aq_h m s F c)) rfl rfl ?_
      refine am_E.go (t2 := (69, [vR y, vI n, vI a, vI b, vI from_, vI 0, vI (g p), vI 1, v8], [], aq_h m s F c)) rfl rfl ?_
      refine am_E.go (t2 := (71, [vR y, vI n, vI a, vI b, vI from_, vI 0, vI (g p), vI 1, v8], [vI 1], aq_h m s F c)) rfl rfl ?_
      refine am_E.go (t2 := (74, [vR y, vI n, vI a, vI b, vI from_, vI 0, vI (g p), vI 1, v8], [], aq_h m s F c)) rfl rfl ?_
      refine am_E.go (t2 := (76, [vR y, vI n, vI a, vI b, vI from_, vI 0, vI (g p), vI 1, v8], [vI (g p)], aq_h m s F c)) rfl rfl ?_
      refine am_E.ret rfl rfl ?_
      exact ⟨_, rfl, hs, by rw [← hT, ldr, if_neg (by omega)], hQ _ (fun i h => h) (fun h => absurd h (by omega))⟩

theorem qm_lead {m s : Nat} {F : aq_F} {c : aq_C} {S : Nat → Prop} {y : Nat} (hO : mo_0 m F y) (hS13 : S (y + 13)) {tbl : Int → Int} (hT1 : F (y + 1) = (0, 992, fun j => .inr (vI (tbl (j : Int))))) {n a b p : Int} (hn1 : 1 ≤ n) (hn4 : n ≤ 4) (ha0 : 0 ≤ a) (ha1 : a + 8 ≤ 992) (hb0 : 0 ≤ b) (hb1 : b + 8 ≤ 992) {f g : Int → Int} (hf : ∀ p, 0 ≤ p → p < 2 * n → tbl (a + p) = f p) (hg : ∀ p, 0 ≤ p → p < 2 * n → tbl (b + p) = g p) (hfi : fi n f) (hgi : fi n g) (h0 : 0 ≤ p) (h1 : p < 2 * n) : am_E ac_X5_lead (0, [vR y, vI n, vI a, vI b, vI p, vU, vU, vU, vU], [], aq_h m s F c) (aq_Z m s F S c (fun r d => r = some (vI (fst_ n f g p)) ∧ (∀ i, c (y + 13) i = 1 → d (y + 13) i = 1) ∧ mkd n f g (d (y + 13)) 5 (decide (p < n)) p)) := by
  have hx := ld_ex hn4 hfi hgi h0 h1
  refine am_E.go (t2 := (2, [vR y, vI n, vI a, vI b, vI p, vU, vU, vU, vU], [vI p], aq_h m s F c)) rfl rfl ?_
  refine am_E.go (t2 := (3, [vR y, vI n, vI a, vI b, vI p, vU, vU, vU, vU], [vI n, vI p], aq_h m s F c)) rfl rfl ?_
  refine ae_icmp rfl (fun (q_1 : n ≤ p) => ?_) (fun (q_1 : p < n) => ?_)
  · refine am_E.go (t2 := (11, [vR y, vI n, vI a, vI b, vI p, vU, vU, vU, vU], [vI 0], aq_h m s F c)) rfl rfl ?_
    refine am_E.go (t2 := (13, [vR y, vI n, vI a, vI b, vI p, vI 0, vU, vU, vU], [], aq_h m s F c)) rfl rfl ?_
    refine am_E.go (t2 := (15, [vR y, vI n, vI a, vI b, vI p, vI 0, vU, vU, vU], [vI p], aq_h m s F c)) rfl rfl ?_
    refine am_E.go (t2 := (17, [vR y, vI n, vI a, vI b, vI p, vI 0, vI p, vU, vU], [], aq_h m s F c)) rfl rfl ?_
    rw [decide_eq_false (show ¬ p < n by omega)] at hx ⊢
    have e5 : fst_ n f g p = ldr n f g 5 false p := by unfold fst_; rw [decide_eq_false (show ¬ p < n by omega)]
    refine qm_lead_l (Q := fun w => (∀ i, c (y + 13) i = 1 → w i = 1) ∧ mkd n f g w 5 false p) hO hS13 hT1 hn1 hn4 ha0 ha1 hb0 hb1 hf hg hfi hgi 5 false p _ _ c aq_sm0 h0 h1 hx e5.symm (fun w w1 w2 => ⟨w1, w2⟩)
  · refine am_E.go (t2 := (7, [vR y, vI n, vI a, vI b, vI p, vU, vU, vU, vU], [vI 1], aq_h m s F c)) rfl rfl ?_
    refine am_E.go (t2 := (11, [vR y, vI n, vI a, vI b, vI p, vU, vU, vU, vU], [vI 1], aq_h m s F c)) rfl rfl ?_
    refine am_E.go (t2 := (13, [vR y, vI n, vI a, vI b, vI p, vI 1, vU, vU, vU], [], aq_h m s F c)) rfl rfl ?_
    refine am_E.go (t2 := (15, [vR y, vI n, vI a, vI b, vI p, vI 1, vU, vU, vU], [vI p], aq_h m s F c)) rfl rfl ?_
    refine am_E.go (t2 := (17, [vR y, vI n, vI a, vI b, vI p, vI 1, vI p, vU, vU], [], aq_h m s F c)) rfl rfl ?_
    rw [decide_eq_true (show p < n by omega)] at hx ⊢
    have e5 : fst_ n f g p = ldr n f g 5 true p := by unfold fst_; rw [decide_eq_true (show p < n by omega)]
    refine qm_lead_l (Q := fun w => (∀ i, c (y + 13) i = 1 → w i = 1) ∧ mkd n f g w 5 true p) hO hS13 hT1 hn1 hn4 ha0 ha1 hb0 hb1 hf hg hfi hgi 5 true p _ _ c aq_sm0 h0 h1 hx e5.symm (fun w w1 w2 => ⟨w1, w2⟩)
/-- the row's strands, the crossings and the size stay -/
def mo_k (y : Nat) (c d : aq_C) : Prop := d y 9 = c y 9 ∧ d y 10 = c y 10 ∧ d y 17 = c y 17
theorem mo_k0 {y : Nat} {c : aq_C} : mo_k y c c := ⟨rfl, rfl, rfl⟩
theorem mo_kt {y : Nat} {c d e : aq_C} (h1 : mo_k y c d) (h2 : mo_k y d e) : mo_k y c e := ⟨by rw [h2.1, h1.1], by rw [h2.2.1, h1.2.1], by rw [h2.2.2, h1.2.2]⟩
theorem mo_ks {S : Nat → Prop} {y : Nat} {c d e : aq_C} (h1 : mo_k y c d) (hs : aq_sm S d e) (hy : ¬ S y) : mo_k y c e := ⟨by rw [hs y hy, h1.1], by rw [hs y hy, h1.2.1], by rw [hs y hy, h1.2.2]⟩
theorem mo_ku {y a : Nat} {i x : Int} {c d e : aq_C} (h1 : mo_k y c d) (he : aq_u d a i x = e) (h : y ≠ a ∨ (i ≠ 9 ∧ i ≠ 10 ∧ i ≠ 17)) : mo_k y c e := by
  subst he
  refine ⟨?_, ?_, ?_⟩
  · rw [aq_un (by omega), h1.1]
  · rw [aq_un (by omega), h1.2.1]
  · rw [aq_un (by omega), h1.2.2]
theorem mkd_mono {n : Int} {f g w w2 : Int → Int} (hw : ∀ i, w i = 1 → w2 i = 1) : ∀ (d : Nat) (u : Bool) (p : Int), mkd n f g w d u p → mkd n f g w2 d u p
  | 0, _, _, _ => trivial
  | d + 1, true, p, h => fun k => ⟨hw _ (h k).1, mkd_mono hw d false _ (h k).2⟩
  | d + 1, false, p, h => fun k => ⟨hw _ (h k).1, mkd_mono hw d true _ (h k).2⟩
/-- the strands from the first N points have marked what they met -/
def mo_mk (y : Nat) (n : Int) (f g : Int → Int) (N : Int) (c : aq_C) : Prop := ∀ p, 0 ≤ p → p < N → mkd n f g (c (y + 13)) 5 (decide (p < n)) p
theorem mo_mku {y : Nat} {n N i : Int} {f g : Int → Int} {c d : aq_C} (h : mo_mk y n f g N c) (he : aq_u c (y + 13) i 1 = d) : mo_mk y n f g N d := fun p h0 h1 => by
  refine mkd_mono (fun j hj => ?_) 5 _ p (h p h0 h1)
  rw [← he]
  unfold aq_u
  split
  · rfl
  · exact hj
theorem mo_mkn {y a : Nat} {n N i x : Int} {f g : Int → Int} {c d : aq_C} (h : mo_mk y n f g N c) (he : aq_u c a i x = d) (ha : y + 13 ≠ a) : mo_mk y n f g N d := fun p h0 h1 => by
  refine mkd_mono (fun j hj => ?_) 5 _ p (h p h0 h1)
  rw [← he, aq_un (Or.inl ha)]
  exact hj
/-- the first N places of made are told -/
def mo_md (y : Nat) (G : Int → Int) (N : Int) (c : aq_C) : Prop := ∀ i, 0 ≤ i → i < N → c (y + 12) i = G i
theorem mo_mdn {y a : Nat} {N i x : Int} {G : Int → Int} {c d : aq_C} (h : mo_md y G N c) (he : aq_u c a i x = d) (ha : y + 12 ≠ a) : mo_md y G N d := fun p h0 h1 => by
  rw [← he, aq_un (Or.inl ha)]
  exact h p h0 h1
theorem mo_mds {S : Nat → Prop} {y : Nat} {N : Int} {G : Int → Int} {c d : aq_C} (h : mo_md y G N c) (hs : aq_sm S c d) (ha : ¬ S (y + 12)) : mo_md y G N d := fun p h0 h1 => by
  rw [hs _ ha]
  exact h p h0 h1

theorem qm_numberOf_in {m s : Nat} {F : aq_F} {c : aq_C} {y : Nat} (hO : mo_0 m F y) {tbl : Int → Int} (hT : mo_T F y tbl) {n : Int} (hn1 : 1 ≤ n) (hn4 : n ≤ 4) : ∀ (d : Nat) (b : Int) (is : Int) (p : Int) (hb0 : 0 ≤ b) (hb1 : b < bx_K n) (h0 : 0 ≤ p) (h1 : p ≤ 2 * n) (hi : (is = 1 ∧ ∀ i, 0 ≤ i → i < p → prt n b i = c (y + 12) i) ∨ (is = 0 ∧ ∃ i, 0 ≤ i ∧ i < 2 * n ∧ prt n b i ≠ c (y + 12) i)) (hd : 2 * n - p < (d : Int)) (K0 : ∀ (is2 : Int) (p2 : Int) (hx : (is2 = 1 ∧ ∀ i, 0 ≤ i → i < 2 * n → prt n b i = c (y + 12) i) ∨ (is2 = 0 ∧ ∃ i, 0 ≤ i ∧ i < 2 * n ∧ prt n b i ≠ c (y + 12) i)), am_E ac_X5_numberOf (62, [vR y, vI n, vI b, vI is2, vI p2], [], aq_h m s F c) (aq_P m s F c (fun r => ∃ v, r = some (vI v) ∧ ((0 ≤ v ∧ v < bx_K n ∧ ∀ i, 0 ≤ i → i < 2 * n → prt n v i = c (y + 12) i) ∨ (v = -4 ∧ ∀ b, 0 ≤ b → b < bx_K n → ∃ i, 0 ≤ i ∧ i < 2 * n ∧ prt n b i ≠ c (y + 12) i))))), am_E ac_X5_numberOf (15, [vR y, vI n, vI b, vI is, vI p], [], aq_h m s F c) (aq_P m s F c (fun r => ∃ v, r = some (vI v) ∧ ((0 ≤ v ∧ v < bx_K n ∧ ∀ i, 0 ≤ i → i < 2 * n → prt n v i = c (y + 12) i) ∨ (v = -4 ∧ ∀ b, 0 ≤ b → b < bx_K n → ∃ i, 0 ≤ i ∧ i < 2 * n ∧ prt n b i ≠ c (y + 12) i))))
  | 0, b, is, p, hb0, hb1, h0, h1, hi, hd, K0 => by exfalso; omega
  | d + 1, b, is, p, hb0, hb1, h0, h1, hi, hd, K0 => by
    obtain ⟨hm, hFo, hG5, hG6, hG7, hG8, hG9, hG10, hG11, hG12, hG13, hG14, hG15, hG16, hG17, hG18, hG19, hG20, hG21, hG22, hG23⟩ := hO
    obtain ⟨hT1, hTt⟩ := hT
    have hfs := mo_fs n
    refine am_E.go (t2 := (17, [vR y, vI n, vI b, vI is, vI p], [vI p], aq_h m s F c)) rfl rfl ?_
    refine am_E.go (t2 := (18, [vR y, vI n, vI b, vI is, vI p], [vI 2, vI p], aq_h m s F c)) rfl rfl ?_
    refine am_E.go (t2 := (19, [vR y, vI n, vI b, vI is, vI p], [vI n, vI 2, vI p], aq_h m s F c)) rfl rfl ?_
    refine ae_mul rfl (am_ri (by omega) (by omega)) ?_
    show am_E _ (20, [vR y, vI n, vI b, vI is, vI p], [vI (2 * n), vI p], aq_h m s F c) _
    refine ae_icmp rfl (fun (q_1 : (2 * n) ≤ p) => ?_) (fun (q_1 : p < (2 * n)) => ?_)
    · exact K0 is p (by rcases hi with ⟨hi1, hi⟩ | hi; exact Or.inl ⟨hi1, fun i h5 h6 => hi i h5 (by omega)⟩; exact Or.inr hi)
    · refine am_E.go (t2 := (24, [vR y, vI n, vI b, vI is, vI p], [vI is], aq_h m s F c)) rfl rfl ?_
      refine ae_if0 rfl (fun (q_2 : is = 0) => ?_) (fun (q_2 : is ≠ 0) => ?_)
      · exact K0 is p (by rcases hi with ⟨hi1, hi⟩ | hi; exact Or.inl ⟨hi1, fun i h5 h6 => hi i h5 (by omega)⟩; exact Or.inr hi)
      · refine am_E.go (t2 := (28, [vR y, vI n, vI b, vI is, vI p], [vR y], aq_h m s F c)) rfl rfl ?_
        refine aq_gf (v := vR (y + 1)) rfl (by omega) hFo (by decide) rfl ?_
        show am_E _ (31, [vR y, vI n, vI b, vI is, vI p], [vR (y + 1)], aq_h m s F c) _
        refine am_E.go (t2 := (32, [vR y, vI n, vI b, vI is, vI p], [vI n, vR (y + 1)], aq_h m s F c)) rfl rfl ?_
        refine am_E.go (t2 := (33, [vR y, vI n, vI b, vI is, vI p], [vI b, vI n, vR (y + 1)], aq_h m s F c)) rfl rfl ?_
        refine am_E.call rfl rfl rfl (Nat.le_of_ble_eq_true rfl) (qm_at (by omega) (by omega)) ?_
        rintro r5 h5 ⟨rfl, v_3, rfl, hv_3⟩
        show am_E _ (36, [vR y, vI n, vI b, vI is, vI p], [vI v_3, vR (y + 1)], aq_h m s F c) _
        refine am_E.go (t2 := (38, [vR y, vI n, vI b, vI is, vI p], [vI p, vI v_3, vR (y + 1)], aq_h m s F c)) rfl rfl ?_
        refine ae_add rfl (am_ri (by omega) (by omega)) ?_
        show am_E _ (39, [vR y, vI n, vI b, vI is, vI p], [vI (v_3 + p), vR (y + 1)], aq_h m s F c) _
        have e_t := hTt n b p (by omega) (by omega) (by omega) (by omega) (by omega) (by omega)
        refine aq_alt (ok := fun k => k == 0) rfl rfl (by omega) hT1 rfl (by omega) (by omega) ?_
        rw [hv_3, e_t]
        show am_E _ (40, [vR y, vI n, vI b, vI is, vI p], [vI (prt n b p)], aq_h m s F c) _
        refine am_E.go (t2 := (41, [vR y, vI n, vI b, vI is, vI p], [vR y, vI (prt n b p)], aq_h m s F c)) rfl rfl ?_
        refine aq_gf (v := vR (y + 12)) rfl (by omega) hFo (by decide) rfl ?_
        show am_E _ (44, [vR y, vI n, vI b, vI is, vI p], [vR (y + 12), vI (prt n b p)], aq_h m s F c) _
        refine am_E.go (t2 := (46, [vR y, vI n, vI b, vI is, vI p], [vI p, vR (y + 12), vI (prt n b p)], aq_h m s F c)) rfl rfl ?_
        refine aq_al (ok := fun k => k == 0) (v := vI (c (y + 12) p)) rfl rfl (by omega) hG12 rfl (by omega) (by omega) rfl ?_
        show am_E _ (47, [vR y, vI n, vI b, vI is, vI p], [vI (c (y + 12) p), vI (prt n b p)], aq_h m s F c) _
        refine ae_icmp rfl (fun (q_4 : (prt n b p) ≠ (c (y + 12) p)) => ?_) (fun (q_4 : (prt n b p) = (c (y + 12) p)) => ?_)
        · refine am_E.go (t2 := (55, [vR y, vI n, vI b, vI is, vI p], [vI 0], aq_h m s F c)) rfl rfl ?_
          refine am_E.go (t2 := (56, [vR y, vI n, vI b, vI 0, vI p], [], aq_h m s F c)) rfl rfl ?_
          refine ae_iinc rfl rfl (am_ri (by omega) (by omega)) ?_
          show am_E _ (59, [vR y, vI n, vI b, vI 0, vI (p + 1)], [], aq_h m s F c) _
          refine am_E.go (t2 := (15, [vR y, vI n, vI b, vI 0, vI (p + 1)], [], aq_h m s F c)) rfl rfl ?_
          exact qm_numberOf_in ⟨hm, hFo, hG5, hG6, hG7, hG8, hG9, hG10, hG11, hG12, hG13, hG14, hG15, hG16, hG17, hG18, hG19, hG20, hG21, hG22, hG23⟩ ⟨hT1, hTt⟩ hn1 hn4 d b 0 (p + 1) (by omega) (by omega) (by omega) (by omega) (Or.inr ⟨rfl, p, h0, by omega, by assumption⟩) (by omega) K0
        · refine am_E.go (t2 := (51, [vR y, vI n, vI b, vI is, vI p], [vI 1], aq_h m s F c)) rfl rfl ?_
          refine am_E.go (t2 := (55, [vR y, vI n, vI b, vI is, vI p], [vI 1], aq_h m s F c)) rfl rfl ?_
          refine am_E.go (t2 := (56, [vR y, vI n, vI b, vI 1, vI p], [], aq_h m s F c)) rfl rfl ?_
          refine ae_iinc rfl rfl (am_ri (by omega) (by omega)) ?_
          show am_E _ (59, [vR y, vI n, vI b, vI 1, vI (p + 1)], [], aq_h m s F c) _
          refine am_E.go (t2 := (15, [vR y, vI n, vI b, vI 1, vI (p + 1)], [], aq_h m s F c)) rfl rfl ?_
          exact qm_numberOf_in ⟨hm, hFo, hG5, hG6, hG7, hG8, hG9, hG10, hG11, hG12, hG13, hG14, hG15, hG16, hG17, hG18, hG19, hG20, hG21, hG22, hG23⟩ ⟨hT1, hTt⟩ hn1 hn4 d b 1 (p + 1) (by omega) (by omega) (by omega) (by omega) (by rcases hi with ⟨_, hi⟩ | ⟨hi, _⟩; exact Or.inl ⟨rfl, fun i h5 h6 => by by_cases e : i = p; (rw [e]; assumption); exact hi i h5 (by omega)⟩; exact absurd hi (by omega)) (by omega) K0

theorem qm_numberOf_out {m s : Nat} {F : aq_F} {c : aq_C} {y : Nat} (hO : mo_0 m F y) {tbl : Int → Int} (hT : mo_T F y tbl) {n : Int} (hn1 : 1 ≤ n) (hn4 : n ≤ 4) : ∀ (d : Nat) (b : Int) (v3 : am_V) (v4 : am_V) (h0 : 0 ≤ b) (h1 : b ≤ bx_K n) (hb : ∀ b2, 0 ≤ b2 → b2 < b → ∃ i, 0 ≤ i ∧ i < 2 * n ∧ prt n b2 i ≠ c (y + 12) i) (hd : bx_K n - b < (d : Int)), am_E ac_X5_numberOf (2, [vR y, vI n, vI b, v3, v4], [], aq_h m s F c) (aq_P m s F c (fun r => ∃ v, r = some (vI v) ∧ ((0 ≤ v ∧ v < bx_K n ∧ ∀ i, 0 ≤ i → i < 2 * n → prt n v i = c (y + 12) i) ∨ (v = -4 ∧ ∀ b, 0 ≤ b → b < bx_K n → ∃ i, 0 ≤ i ∧ i < 2 * n ∧ prt n b i ≠ c (y + 12) i))))
  | 0, b, v3, v4, h0, h1, hb, hd => by exfalso; omega
  | d + 1, b, v3, v4, h0, h1, hb, hd => by
    obtain ⟨hm, hFo, hG5, hG6, hG7, hG8, hG9, hG10, hG11, hG12, hG13, hG14, hG15, hG16, hG17, hG18, hG19, hG20, hG21, hG22, hG23⟩ := hO
    obtain ⟨hT1, hTt⟩ := hT
    have hfs := mo_fs n
    refine am_E.go (t2 := (3, [vR y, vI n, vI b, v3, v4], [vI b], aq_h m s F c)) rfl rfl ?_
    refine am_E.go (t2 := (4, [vR y, vI n, vI b, v3, v4], [vI n, vI b], aq_h m s F c)) rfl rfl ?_
    refine am_E.call rfl rfl rfl (Nat.le_of_ble_eq_true rfl) (qm_boxes) ?_
    rintro r5 h5 ⟨rfl, v_1, rfl, hv_1⟩
    show am_E _ (7, [vR y, vI n, vI b, v3, v4], [vI v_1, vI b], aq_h m s F c) _
    refine ae_icmp rfl (fun (q_2 : v_1 ≤ b) => ?_) (fun (q_2 : b < v_1) => ?_)
    · refine am_E.go (t2 := (76, [vR y, vI n, vI b, v3, v4], [vI (-4)], aq_h m s F c)) rfl rfl ?_
      refine am_E.ret rfl rfl ?_
      exact ⟨rfl, _, rfl, Or.inr ⟨rfl, fun b5 h5 h6 => hb b5 h5 (by omega)⟩⟩
    · refine am_E.go (t2 := (11, [vR y, vI n, vI b, v3, v4], [vI 1], aq_h m s F c)) rfl rfl ?_
      refine am_E.go (t2 := (12, [vR y, vI n, vI b, vI 1, v4], [], aq_h m s F c)) rfl rfl ?_
      refine am_E.go (t2 := (13, [vR y, vI n, vI b, vI 1, v4], [vI 0], aq_h m s F c)) rfl rfl ?_
      refine am_E.go (t2 := (15, [vR y, vI n, vI b, vI 1, vI 0], [], aq_h m s F c)) rfl rfl ?_
      refine qm_numberOf_in ⟨hm, hFo, hG5, hG6, hG7, hG8, hG9, hG10, hG11, hG12, hG13, hG14, hG15, hG16, hG17, hG18, hG19, hG20, hG21, hG22, hG23⟩ ⟨hT1, hTt⟩ hn1 hn4 9 b 1 0 (by omega) (by omega) (by omega) (by omega) (Or.inl ⟨rfl, fun i h5 h6 => absurd h6 (by omega)⟩) (by omega) ?_
      · intro is2_15 p2_15 hx_15
        refine am_E.go (t2 := (63, [vR y, vI n, vI b, vI is2_15, vI p2_15], [vI is2_15], aq_h m s F c)) rfl rfl ?_
        refine ae_if0 rfl (fun (q_4 : is2_15 = 0) => ?_) (fun (q_4 : is2_15 ≠ 0) => ?_)
        · refine ae_iinc rfl rfl (am_ri (by omega) (by omega)) ?_
          show am_E _ (71, [vR y, vI n, vI (b + 1), vI is2_15, vI p2_15], [], aq_h m s F c) _
          refine am_E.go (t2 := (2, [vR y, vI n, vI (b + 1), vI is2_15, vI p2_15], [], aq_h m s F c)) rfl rfl ?_
          exact qm_numberOf_out ⟨hm, hFo, hG5, hG6, hG7, hG8, hG9, hG10, hG11, hG12, hG13, hG14, hG15, hG16, hG17, hG18, hG19, hG20, hG21, hG22, hG23⟩ ⟨hT1, hTt⟩ hn1 hn4 d (b + 1) (vI is2_15) (vI p2_15) (by omega) (by omega) (fun b2 h5 h6 => by by_cases e : b2 = b; (rcases hx_15 with ⟨h7, _⟩ | ⟨_, h7⟩; (exfalso; omega); (rw [e]; exact h7)); exact hb b2 h5 (by omega)) (by omega)
        · refine am_E.go (t2 := (67, [vR y, vI n, vI b, vI is2_15, vI p2_15], [vI b], aq_h m s F c)) rfl rfl ?_
          refine am_E.ret rfl rfl ?_
          refine ⟨rfl, _, rfl, Or.inl ⟨by omega, by omega, ?_⟩⟩
          rcases hx_15 with ⟨_, h5⟩ | ⟨h5, _⟩
          · exact h5
          · exfalso; omega

theorem qm_numberOf {m s : Nat} {F : aq_F} {c : aq_C} {y : Nat} (hO : mo_0 m F y) {tbl : Int → Int} (hT : mo_T F y tbl) {n : Int} (hn1 : 1 ≤ n) (hn4 : n ≤ 4) : am_E ac_X5_numberOf (0, [vR y, vI n, vU, vU, vU], [], aq_h m s F c) (aq_P m s F c (fun r => ∃ v, r = some (vI v) ∧ ((0 ≤ v ∧ v < bx_K n ∧ ∀ i, 0 ≤ i → i < 2 * n → prt n v i = c (y + 12) i) ∨ (v = -4 ∧ ∀ b, 0 ≤ b → b < bx_K n → ∃ i, 0 ≤ i ∧ i < 2 * n ∧ prt n b i ≠ c (y + 12) i)))) := by
  obtain ⟨hm, hFo, hG5, hG6, hG7, hG8, hG9, hG10, hG11, hG12, hG13, hG14, hG15, hG16, hG17, hG18, hG19, hG20, hG21, hG22, hG23⟩ := hO
  obtain ⟨hT1, hTt⟩ := hT
  have hfs := mo_fs n
  refine am_E.go (t2 := (1, [vR y, vI n, vU, vU, vU], [vI 0], aq_h m s F c)) rfl rfl ?_
  refine am_E.go (t2 := (2, [vR y, vI n, vI 0, vU, vU], [], aq_h m s F c)) rfl rfl ?_
  exact qm_numberOf_out ⟨hm, hFo, hG5, hG6, hG7, hG8, hG9, hG10, hG11, hG12, hG13, hG14, hG15, hG16, hG17, hG18, hG19, hG20, hG21, hG22, hG23⟩ ⟨hT1, hTt⟩ hn1 hn4 107 0 (vU) (vU) (by omega) (by omega) (fun b2 h5 h6 => absurd h6 (by omega)) (by omega)

theorem qm_stacked_3 {m s : Nat} {F : aq_F} {c0 : aq_C} {S : Nat → Prop} {y : Nat} (hO : mo_0 m F y) (hS0 : S y) (hS12 : S (y + 12)) (hS13 : S (y + 13)) {tbl : Int → Int} (hT : mo_T F y tbl) {n bb cc : Int} (hn1 : 1 ≤ n) (hn4 : n ≤ 4) (hb0 : 0 ≤ bb) (hb1 : bb < bx_K n) (hc0 : 0 ≤ cc) (hc1 : cc < bx_K n) {xa xb : Int} (hxa : xa = 8 * (mo_f n + bb)) (hxb : xb = 8 * (mo_f n + cc)) : ∀ (d : Nat) (k : Int) (v7 : am_V) (v8 : am_V) (v9 : am_V) (c : aq_C) (hs : aq_sm S c0 c) (h0 : 0 ≤ k) (h1 : k ≤ n) (hr0 : 0 ≤ c y 15) (hr1 : c y 15 ≤ k) (hob : mo_k y c0 c) (hmk : mo_mk y n (prt n bb) (prt n cc) (2 * n) c) (hmd : mo_md y (fst_ n (prt n bb) (prt n cc)) (2 * n) c) (hd : n - k < (d : Int)), am_E ac_X5_stacked (80, [vR y, vI n, vI bb, vI cc, vI xa, vI xb, vI k, v7, v8, v9], [], aq_h m s F c) (aq_Z m s F S c0 (fun r d => ∃ v, r = some (vI v) ∧ 0 ≤ v ∧ v < bx_K n ∧ 0 ≤ d y 15 ∧ d y 15 ≤ n ∧ mo_k y c0 d ∧ ∀ i, 0 ≤ i → i < 2 * n → prt n v i = fst_ n (prt n bb) (prt n cc) i))
  | 0, k, v7, v8, v9, c, hs, h0, h1, hr0, hr1, hob, hmk, hmd, hd => by exfalso; omega
  | d + 1, k, v7, v8, v9, c, hs, h0, h1, hr0, hr1, hob, hmk, hmd, hd => by
    obtain ⟨hm, hFo, hG5, hG6, hG7, hG8, hG9, hG10, hG11, hG12, hG13, hG14, hG15, hG16, hG17, hG18, hG19, hG20, hG21, hG22, hG23⟩ := hO
    obtain ⟨hT1, hTt⟩ := hT
    have hfs := mo_fs n
    have hfi := pr_fi hn1 hn4 hb0 hb1
    have hgi := pr_fi hn1 hn4 hc0 hc1
    refine am_E.go (t2 := (82, [vR y, vI n, vI bb, vI cc, vI xa, vI xb, vI k, v7, v8, v9], [vI k], aq_h m s F c)) rfl rfl ?_
    refine am_E.go (t2 := (83, [vR y, vI n, vI bb, vI cc, vI xa, vI xb, vI k, v7, v8, v9], [vI n, vI k], aq_h m s F c)) rfl rfl ?_
    refine ae_icmp rfl (fun (q_1 : n ≤ k) => ?_) (fun (q_1 : k < n) => ?_)
    · refine am_E.go (t2 := (186, [vR y, vI n, vI bb, vI cc, vI xa, vI xb, vI k, v7, v8, v9], [vR y], aq_h m s F c)) rfl rfl ?_
      refine am_E.go (t2 := (187, [vR y, vI n, vI bb, vI cc, vI xa, vI xb, vI k, v7, v8, v9], [vI n, vR y], aq_h m s F c)) rfl rfl ?_
      refine aq_callv (y := 2) (as2 := [vI n]) (rest := []) rfl rfl (by decide) (Nat.le_of_ble_eq_true rfl) rfl rfl (Nat.le_of_ble_eq_true rfl) (by omega) hFo rfl (Nat.le_of_ble_eq_true rfl) (qm_numberOf ⟨hm, hFo, hG5, hG6, hG7, hG8, hG9, hG10, hG11, hG12, hG13, hG14, hG15, hG16, hG17, hG18, hG19, hG20, hG21, hG22, hG23⟩ ⟨hT1, hTt⟩ hn1 hn4) ?_
      rintro r5 h5 ⟨rfl, v_fin, rfl, hv_fin⟩
      show am_E _ (190, [vR y, vI n, vI bb, vI cc, vI xa, vI xb, vI k, v7, v8, v9], [vI v_fin], aq_h m s F c) _
      refine am_E.ret rfl rfl ?_
      refine ⟨_, rfl, hs, _, rfl, ?_⟩
      rcases hv_fin with ⟨h5, h6, h7⟩ | ⟨_, h7⟩
      · exact ⟨h5, h6, hr0, by omega, hob, fun i h8 h9 => by rw [h7 i h8 h9]; exact hmd i h8 h9⟩
      · exfalso
        obtain ⟨b5, h8, h9, hA⟩ := pr_c hn1 hn4 (fi_st hn4 hfi hgi)
        obtain ⟨i, hB, hC, hD⟩ := h7 b5 h8 h9
        exact hD (by rw [hA i hB hC, hmd i hB hC])
    · refine am_E.go (t2 := (87, [vR y, vI n, vI bb, vI cc, vI xa, vI xb, vI k, v7, v8, v9], [vR y], aq_h m s F c)) rfl rfl ?_
      refine aq_gf (v := vR (y + 13)) rfl (by omega) hFo (by decide) rfl ?_
      show am_E _ (90, [vR y, vI n, vI bb, vI cc, vI xa, vI xb, vI k, v7, v8, v9], [vR (y + 13)], aq_h m s F c) _
      refine am_E.go (t2 := (92, [vR y, vI n, vI bb, vI cc, vI xa, vI xb, vI k, v7, v8, v9], [vI k, vR (y + 13)], aq_h m s F c)) rfl rfl ?_
      refine aq_al (ok := fun k => k == 1) (v := vI (c (y + 13) k)) rfl rfl (by omega) hG13 rfl (by omega) (by omega) rfl ?_
      show am_E _ (93, [vR y, vI n, vI bb, vI cc, vI xa, vI xb, vI k, v7, v8, v9], [vI (c (y + 13) k)], aq_h m s F c) _
      refine ae_if0 rfl (fun (q_2 : (c (y + 13) k) ≠ 0) => ?_) (fun (q_2 : (c (y + 13) k) = 0) => ?_)
      · refine ae_iinc rfl rfl (am_ri (by omega) (by omega)) ?_
        show am_E _ (182, [vR y, vI n, vI bb, vI cc, vI xa, vI xb, vI (k + 1), v7, v8, v9], [], aq_h m s F c) _
        refine am_E.go (t2 := (80, [vR y, vI n, vI bb, vI cc, vI xa, vI xb, vI (k + 1), v7, v8, v9], [], aq_h m s F c)) rfl rfl ?_
        exact qm_stacked_3 ⟨hm, hFo, hG5, hG6, hG7, hG8, hG9, hG10, hG11, hG12, hG13, hG14, hG15, hG16, hG17, hG18, hG19, hG20, hG21, hG22, hG23⟩ hS0 hS12 hS13 ⟨hT1, hTt⟩ hn1 hn4 hb0 hb1 hc0 hc1 hxa hxb d (k + 1) (v7) (v8) (v9) c hs (by omega) (by omega) hr0 (by omega) hob hmk hmd (by omega)
      · have hring := mk_ring hn4 hfi hgi hmk h0 (by omega) (by omega)
        refine am_E.go (t2 := (97, [vR y, vI n, vI bb, vI cc, vI xa, vI xb, vI k, v7, v8, v9], [vR y], aq_h m s F c)) rfl rfl ?_
        refine am_E.go (t2 := (98, [vR y, vI n, vI bb, vI cc, vI xa, vI xb, vI k, v7, v8, v9], [vR y, vR y], aq_h m s F c)) rfl rfl ?_
        refine aq_gf (v := vI (c y 15)) rfl (by omega) hFo (by decide) rfl ?_
        show am_E _ (101, [vR y, vI n, vI bb, vI cc, vI xa, vI xb, vI k, v7, v8, v9], [vI (c y 15), vR y], aq_h m s F c) _
        skip
        refine am_E.go (t2 := (102, [vR y, vI n, vI bb, vI cc, vI xa, vI xb, vI k, v7, v8, v9], [vI 1, vI (c y 15), vR y], aq_h m s F c)) rfl rfl ?_
        refine ae_add rfl (am_ri (by omega) (by omega)) ?_
        show am_E _ (103, [vR y, vI n, vI bb, vI cc, vI xa, vI xb, vI k, v7, v8, v9], [vI ((c y 15) + 1), vR y], aq_h m s F c) _
        refine aq_pf rfl (by omega) hFo (by decide) rfl rfl ?_
        show am_E _ (106, [vR y, vI n, vI bb, vI cc, vI xa, vI xb, vI k, v7, v8, v9], [], aq_h m s F (aq_u c y 15 ((c y 15) + 1))) _
        generalize hdc_4 : aq_u c y 15 ((c y 15) + 1) = c_4
        have sc_4 := aq_smu hs hdc_4 hS0
        have hobc_4 := mo_ku hob hdc_4 (Or.inr (by decide))
        have hmkc_4 := mo_mkn hmk hdc_4 (by omega)
        have hmdc_4 := mo_mdn hmd hdc_4 (by omega)
        have r0c_4 : 0 ≤ c_4 y 15 ∧ c_4 y 15 ≤ k + 1 := by rw [← hdc_4, aq_us]; omega
        refine am_E.go (t2 := (108, [vR y, vI n, vI bb, vI cc, vI xa, vI xb, vI k, v7, v8, v9], [vI k], aq_h m s F c_4)) rfl rfl ?_
        refine am_E.go (t2 := (110, [vR y, vI n, vI bb, vI cc, vI xa, vI xb, vI k, vI k, v8, v9], [], aq_h m s F c_4)) rfl rfl ?_
        refine am_E.go (t2 := (111, [vR y, vI n, vI bb, vI cc, vI xa, vI xb, vI k, vI k, v8, v9], [vI 1], aq_h m s F c_4)) rfl rfl ?_
        refine am_E.go (t2 := (113, [vR y, vI n, vI bb, vI cc, vI xa, vI xb, vI k, vI k, vI 1, v9], [], aq_h m s F c_4)) rfl rfl ?_
        refine am_E.go (t2 := (115, [vR y, vI n, vI bb, vI cc, vI xa, vI xb, vI k, vI k, vI 1, v9], [vI 1], aq_h m s F c_4)) rfl rfl ?_
        refine am_E.go (t2 := (118, [vR y, vI n, vI bb, vI cc, vI xa, vI xb, vI k, vI k, vI 1, v9], [], aq_h m s F c_4)) rfl rfl ?_
        refine am_E.go (t2 := (119, [vR y, vI n, vI bb, vI cc, vI xa, vI xb, vI k, vI k, vI 1, v9], [vR y], aq_h m s F c_4)) rfl rfl ?_
        refine aq_gf (v := vR (y + 13)) rfl (by omega) hFo (by decide) rfl ?_
        show am_E _ (122, [vR y, vI n, vI bb, vI cc, vI xa, vI xb, vI k, vI k, vI 1, v9], [vR (y + 13)], aq_h m s F c_4) _
        refine am_E.go (t2 := (124, [vR y, vI n, vI bb, vI cc, vI xa, vI xb, vI k, vI k, vI 1, v9], [vI k, vR (y + 13)], aq_h m s F c_4)) rfl rfl ?_
        refine am_E.go (t2 := (125, [vR y, vI n, vI bb, vI cc, vI xa, vI xb, vI k, vI k, vI 1, v9], [vI 1, vI k, vR (y + 13)], aq_h m s F c_4)) rfl rfl ?_
        refine aq_as (kd := 1) rfl rfl (by omega) hG13 (by omega) (by omega) rfl rfl ?_
        show am_E _ (126, [vR y, vI n, vI bb, vI cc, vI xa, vI xb, vI k, vI k, vI 1, v9], [], aq_h m s F (aq_u c_4 (y + 13) k 1)) _
        generalize hdc_5 : aq_u c_4 (y + 13) k 1 = c_5
        have sc_5 := aq_smu sc_4 hdc_5 (hS13)
        have hobc_5 := mo_ku hobc_4 hdc_5 (Or.inl (by omega))
        have hmkc_5 := mo_mku hmkc_4 hdc_5
        have hmdc_5 := mo_mdn hmdc_4 hdc_5 (by omega)
        have r0c_5 : 0 ≤ c_5 y 15 ∧ c_5 y 15 ≤ k + 1 := by rw [← hdc_5, aq_un (Or.inl (by omega))]; exact r0c_4
        refine am_E.go (t2 := (127, [vR y, vI n, vI bb, vI cc, vI xa, vI xb, vI k, vI k, vI 1, v9], [vR y], aq_h m s F c_5)) rfl rfl ?_
        refine aq_gf (v := vR (y + 1)) rfl (by omega) hFo (by decide) rfl ?_
        show am_E _ (130, [vR y, vI n, vI bb, vI cc, vI xa, vI xb, vI k, vI k, vI 1, v9], [vR (y + 1)], aq_h m s F c_5) _
        refine am_E.go (t2 := (132, [vR y, vI n, vI bb, vI cc, vI xa, vI xb, vI k, vI k, vI 1, v9], [vI xb, vR (y + 1)], aq_h m s F c_5)) rfl rfl ?_
        refine am_E.go (t2 := (134, [vR y, vI n, vI bb, vI cc, vI xa, vI xb, vI k, vI k, vI 1, v9], [vI k, vI xb, vR (y + 1)], aq_h m s F c_5)) rfl rfl ?_
        refine ae_add rfl (am_ri (by omega) (by omega)) ?_
        show am_E _ (135, [vR y, vI n, vI bb, vI cc, vI xa, vI xb, vI k, vI k, vI 1, v9], [vI (xb + k), vR (y + 1)], aq_h m s F c_5) _
        have e_t := hTt n cc k (by omega) (by omega) (by omega) (by omega) (by omega) (by omega)
        have e_f := hgi k (by omega) (by omega)
        refine aq_alt (ok := fun k => k == 0) rfl rfl (by omega) hT1 rfl (by omega) (by omega) ?_
        rw [hxb, e_t, ← hxb]
        show am_E _ (136, [vR y, vI n, vI bb, vI cc, vI xa, vI xb, vI k, vI k, vI 1, v9], [vI (prt n cc k)], aq_h m s F c_5) _
        refine am_E.go (t2 := (138, [vR y, vI n, vI bb, vI cc, vI xa, vI xb, vI k, vI k, vI 1, vI (prt n cc k)], [], aq_h m s F c_5)) rfl rfl ?_
        refine am_E.go (t2 := (139, [vR y, vI n, vI bb, vI cc, vI xa, vI xb, vI k, vI k, vI 1, vI (prt n cc k)], [vR y], aq_h m s F c_5)) rfl rfl ?_
        refine aq_gf (v := vR (y + 13)) rfl (by omega) hFo (by decide) rfl ?_
        show am_E _ (142, [vR y, vI n, vI bb, vI cc, vI xa, vI xb, vI k, vI k, vI 1, vI (prt n cc k)], [vR (y + 13)], aq_h m s F c_5) _
        refine am_E.go (t2 := (144, [vR y, vI n, vI bb, vI cc, vI xa, vI xb, vI k, vI k, vI 1, vI (prt n cc k)], [vI (prt n cc k), vR (y + 13)], aq_h m s F c_5)) rfl rfl ?_
        refine am_E.go (t2 := (145, [vR y, vI n, vI bb, vI cc, vI xa, vI xb, vI k, vI k, vI 1, vI (prt n cc k)], [vI 1, vI (prt n cc k), vR (y + 13)], aq_h m s F c_5)) rfl rfl ?_
        refine aq_as (kd := 1) rfl rfl (by omega) hG13 (by omega) (by omega) rfl rfl ?_
        show am_E _ (146, [vR y, vI n, vI bb, vI cc, vI xa, vI xb, vI k, vI k, vI 1, vI (prt n cc k)], [], aq_h m s F (aq_u c_5 (y + 13) (prt n cc k) 1)) _
        generalize hdc_6 : aq_u c_5 (y + 13) (prt n cc k) 1 = c_6
        have sc_6 := aq_smu sc_5 hdc_6 (hS13)
        have hobc_6 := mo_ku hobc_5 hdc_6 (Or.inl (by omega))
        have hmkc_6 := mo_mku hmkc_5 hdc_6
        have hmdc_6 := mo_mdn hmdc_5 hdc_6 (by omega)
        have r0c_6 : 0 ≤ c_6 y 15 ∧ c_6 y 15 ≤ k + 1 := by rw [← hdc_6, aq_un (Or.inl (by omega))]; exact r0c_5
        refine am_E.go (t2 := (147, [vR y, vI n, vI bb, vI cc, vI xa, vI xb, vI k, vI k, vI 1, vI (prt n cc k)], [vR y], aq_h m s F c_6)) rfl rfl ?_
        refine aq_gf (v := vR (y + 1)) rfl (by omega) hFo (by decide) rfl ?_
        show am_E _ (150, [vR y, vI n, vI bb, vI cc, vI xa, vI xb, vI k, vI k, vI 1, vI (prt n cc k)], [vR (y + 1)], aq_h m s F c_6) _
        refine am_E.go (t2 := (152, [vR y, vI n, vI bb, vI cc, vI xa, vI xb, vI k, vI k, vI 1, vI (prt n cc k)], [vI xa, vR (y + 1)], aq_h m s F c_6)) rfl rfl ?_
        refine am_E.go (t2 := (153, [vR y, vI n, vI bb, vI cc, vI xa, vI xb, vI k, vI k, vI 1, vI (prt n cc k)], [vI n, vI xa, vR (y + 1)], aq_h m s F c_6)) rfl rfl ?_
        refine ae_add rfl (am_ri (by omega) (by omega)) ?_
        show am_E _ (154, [vR y, vI n, vI bb, vI cc, vI xa, vI xb, vI k, vI k, vI 1, vI (prt n cc k)], [vI (xa + n), vR (y + 1)], aq_h m s F c_6) _
        refine am_E.go (t2 := (156, [vR y, vI n, vI bb, vI cc, vI xa, vI xb, vI k, vI k, vI 1, vI (prt n cc k)], [vI (prt n cc k), vI (xa + n), vR (y + 1)], aq_h m s F c_6)) rfl rfl ?_
        refine ae_add rfl (am_ri (by omega) (by omega)) ?_
        show am_E _ (157, [vR y, vI n, vI bb, vI cc, vI xa, vI xb, vI k, vI k, vI 1, vI (prt n cc k)], [vI ((xa + n) + (prt n cc k)), vR (y + 1)], aq_h m s F c_6) _
        have e_t := hTt n bb (n + (prt n cc k)) (by omega) (by omega) (by omega) (by omega) (by omega) (by omega)
        have e_f := hfi (n + (prt n cc k)) (by omega) (by omega)
        refine aq_alt (ok := fun k => k == 0) rfl rfl (by omega) hT1 rfl (by omega) (by omega) ?_
        rw [Int.add_assoc, hxa, e_t, ← hxa]
        show am_E _ (158, [vR y, vI n, vI bb, vI cc, vI xa, vI xb, vI k, vI k, vI 1, vI (prt n cc k)], [vI (prt n bb (n + (prt n cc k)))], aq_h m s F c_6) _
        refine am_E.go (t2 := (159, [vR y, vI n, vI bb, vI cc, vI xa, vI xb, vI k, vI k, vI 1, vI (prt n cc k)], [vI n, vI (prt n bb (n + (prt n cc k)))], aq_h m s F c_6)) rfl rfl ?_
        refine ae_sub rfl (am_ri (by omega) (by omega)) ?_
        show am_E _ (160, [vR y, vI n, vI bb, vI cc, vI xa, vI xb, vI k, vI k, vI 1, vI (prt n cc k)], [vI ((prt n bb (n + (prt n cc k))) - n)], aq_h m s F c_6) _
        refine am_E.go (t2 := (162, [vR y, vI n, vI bb, vI cc, vI xa, vI xb, vI k, vI ((prt n bb (n + (prt n cc k))) - n), vI 1, vI (prt n cc k)], [], aq_h m s F c_6)) rfl rfl ?_
        refine am_E.go (t2 := (164, [vR y, vI n, vI bb, vI cc, vI xa, vI xb, vI k, vI ((prt n bb (n + (prt n cc k))) - n), vI 1, vI (prt n cc k)], [vI ((prt n bb (n + (prt n cc k))) - n)], aq_h m s F c_6)) rfl rfl ?_
        refine am_E.go (t2 := (166, [vR y, vI n, vI bb, vI cc, vI xa, vI xb, vI k, vI ((prt n bb (n + (prt n cc k))) - n), vI 1, vI (prt n cc k)], [vI k, vI ((prt n bb (n + (prt n cc k))) - n)], aq_h m s F c_6)) rfl rfl ?_
        refine ae_icmp rfl (fun (q_7 : ((prt n bb (n + (prt n cc k))) - n) = k) => ?_) (fun (q_7 : ((prt n bb (n + (prt n cc k))) - n) ≠ k) => ?_)
        · refine am_E.go (t2 := (174, [vR y, vI n, vI bb, vI cc, vI xa, vI xb, vI k, vI ((prt n bb (n + (prt n cc k))) - n), vI 1, vI (prt n cc k)], [vI 0], aq_h m s F c_6)) rfl rfl ?_
          refine am_E.go (t2 := (176, [vR y, vI n, vI bb, vI cc, vI xa, vI xb, vI k, vI ((prt n bb (n + (prt n cc k))) - n), vI 0, vI (prt n cc k)], [], aq_h m s F c_6)) rfl rfl ?_
          refine am_E.go (t2 := (113, [vR y, vI n, vI bb, vI cc, vI xa, vI xb, vI k, vI ((prt n bb (n + (prt n cc k))) - n), vI 0, vI (prt n cc k)], [], aq_h m s F c_6)) rfl rfl ?_
          refine am_E.go (t2 := (115, [vR y, vI n, vI bb, vI cc, vI xa, vI xb, vI k, vI ((prt n bb (n + (prt n cc k))) - n), vI 0, vI (prt n cc k)], [vI 0], aq_h m s F c_6)) rfl rfl ?_
          refine am_E.go (t2 := (179, [vR y, vI n, vI bb, vI cc, vI xa, vI xb, vI k, vI ((prt n bb (n + (prt n cc k))) - n), vI 0, vI (prt n cc k)], [], aq_h m s F c_6)) rfl rfl ?_
          refine ae_iinc rfl rfl (am_ri (by omega) (by omega)) ?_
          show am_E _ (182, [vR y, vI n, vI bb, vI cc, vI xa, vI xb, vI (k + 1), vI ((prt n bb (n + (prt n cc k))) - n), vI 0, vI (prt n cc k)], [], aq_h m s F c_6) _
          refine am_E.go (t2 := (80, [vR y, vI n, vI bb, vI cc, vI xa, vI xb, vI (k + 1), vI ((prt n bb (n + (prt n cc k))) - n), vI 0, vI (prt n cc k)], [], aq_h m s F c_6)) rfl rfl ?_
          exact qm_stacked_3 ⟨hm, hFo, hG5, hG6, hG7, hG8, hG9, hG10, hG11, hG12, hG13, hG14, hG15, hG16, hG17, hG18, hG19, hG20, hG21, hG22, hG23⟩ hS0 hS12 hS13 ⟨hT1, hTt⟩ hn1 hn4 hb0 hb1 hc0 hc1 hxa hxb d (k + 1) (vI ((prt n bb (n + (prt n cc k))) - n)) (vI 0) (vI (prt n cc k)) c_6 sc_6 (by omega) (by omega) r0c_6.1 r0c_6.2 hobc_6 hmkc_6 hmdc_6 (by omega)
        · have rr := hring.2.2.resolve_left (by omega)
          refine am_E.go (t2 := (170, [vR y, vI n, vI bb, vI cc, vI xa, vI xb, vI k, vI ((prt n bb (n + (prt n cc k))) - n), vI 1, vI (prt n cc k)], [vI 1], aq_h m s F c_6)) rfl rfl ?_
          refine am_E.go (t2 := (174, [vR y, vI n, vI bb, vI cc, vI xa, vI xb, vI k, vI ((prt n bb (n + (prt n cc k))) - n), vI 1, vI (prt n cc k)], [vI 1], aq_h m s F c_6)) rfl rfl ?_
          refine am_E.go (t2 := (176, [vR y, vI n, vI bb, vI cc, vI xa, vI xb, vI k, vI ((prt n bb (n + (prt n cc k))) - n), vI 1, vI (prt n cc k)], [], aq_h m s F c_6)) rfl rfl ?_
          refine am_E.go (t2 := (113, [vR y, vI n, vI bb, vI cc, vI xa, vI xb, vI k, vI ((prt n bb (n + (prt n cc k))) - n), vI 1, vI (prt n cc k)], [], aq_h m s F c_6)) rfl rfl ?_
          refine am_E.go (t2 := (115, [vR y, vI n, vI bb, vI cc, vI xa, vI xb, vI k, vI ((prt n bb (n + (prt n cc k))) - n), vI 1, vI (prt n cc k)], [vI 1], aq_h m s F c_6)) rfl rfl ?_
          refine am_E.go (t2 := (118, [vR y, vI n, vI bb, vI cc, vI xa, vI xb, vI k, vI ((prt n bb (n + (prt n cc k))) - n), vI 1, vI (prt n cc k)], [], aq_h m s F c_6)) rfl rfl ?_
          refine am_E.go (t2 := (119, [vR y, vI n, vI bb, vI cc, vI xa, vI xb, vI k, vI ((prt n bb (n + (prt n cc k))) - n), vI 1, vI (prt n cc k)], [vR y], aq_h m s F c_6)) rfl rfl ?_
          refine aq_gf (v := vR (y + 13)) rfl (by omega) hFo (by decide) rfl ?_
          show am_E _ (122, [vR y, vI n, vI bb, vI cc, vI xa, vI xb, vI k, vI ((prt n bb (n + (prt n cc k))) - n), vI 1, vI (prt n cc k)], [vR (y + 13)], aq_h m s F c_6) _
          refine am_E.go (t2 := (124, [vR y, vI n, vI bb, vI cc, vI xa, vI xb, vI k, vI ((prt n bb (n + (prt n cc k))) - n), vI 1, vI (prt n cc k)], [vI ((prt n bb (n + (prt n cc k))) - n), vR (y + 13)], aq_h m s F c_6)) rfl rfl ?_
          refine am_E.go (t2 := (125, [vR y, vI n, vI bb, vI cc, vI xa, vI xb, vI k, vI ((prt n bb (n + (prt n cc k))) - n), vI 1, vI (prt n cc k)], [vI 1, vI ((prt n bb (n + (prt n cc k))) - n), vR (y + 13)], aq_h m s F c_6)) rfl rfl ?_
          refine aq_as (kd := 1) rfl rfl (by omega) hG13 (by omega) (by omega) rfl rfl ?_
          show am_E _ (126, [vR y, vI n, vI bb, vI cc, vI xa, vI xb, vI k, vI ((prt n bb (n + (prt n cc k))) - n), vI 1, vI (prt n cc k)], [], aq_h m s F (aq_u c_6 (y + 13) ((prt n bb (n + (prt n cc k))) - n) 1)) _
          generalize hdc_8 : aq_u c_6 (y + 13) ((prt n bb (n + (prt n cc k))) - n) 1 = c_8
          have sc_8 := aq_smu sc_6 hdc_8 (hS13)
          have hobc_8 := mo_ku hobc_6 hdc_8 (Or.inl (by omega))
          have hmkc_8 := mo_mku hmkc_6 hdc_8
          have hmdc_8 := mo_mdn hmdc_6 hdc_8 (by omega)
          have r0c_8 : 0 ≤ c_8 y 15 ∧ c_8 y 15 ≤ k + 1 := by rw [← hdc_8, aq_un (Or.inl (by omega))]; exact r0c_6
          refine am_E.go (t2 := (127, [vR y, vI n, vI bb, vI cc, vI xa, vI xb, vI k, vI ((prt n bb (n + (prt n cc k))) - n), vI 1, vI (prt n cc k)], [vR y], aq_h m s F c_8)) rfl rfl ?_
          refine aq_gf (v := vR (y + 1)) rfl (by omega) hFo (by decide) rfl ?_
          show am_E _ (130, [vR y, vI n, vI bb, vI cc, vI xa, vI xb, vI k, vI ((prt n bb (n + (prt n cc k))) - n), vI 1, vI (prt n cc k)], [vR (y + 1)], aq_h m s F c_8) _
          refine am_E.go (t2 := (132, [vR y, vI n, vI bb, vI cc, vI xa, vI xb, vI k, vI ((prt n bb (n + (prt n cc k))) - n), vI 1, vI (prt n cc k)], [vI xb, vR (y + 1)], aq_h m s F c_8)) rfl rfl ?_
          refine am_E.go (t2 := (134, [vR y, vI n, vI bb, vI cc, vI xa, vI xb, vI k, vI ((prt n bb (n + (prt n cc k))) - n), vI 1, vI (prt n cc k)], [vI ((prt n bb (n + (prt n cc k))) - n), vI xb, vR (y + 1)], aq_h m s F c_8)) rfl rfl ?_
          refine ae_add rfl (am_ri (by omega) (by omega)) ?_
          show am_E _ (135, [vR y, vI n, vI bb, vI cc, vI xa, vI xb, vI k, vI ((prt n bb (n + (prt n cc k))) - n), vI 1, vI (prt n cc k)], [vI (xb + ((prt n bb (n + (prt n cc k))) - n)), vR (y + 1)], aq_h m s F c_8) _
          have e_t := hTt n cc ((prt n bb (n + (prt n cc k))) - n) (by omega) (by omega) (by omega) (by omega) (by omega) (by omega)
          have e_f := hgi ((prt n bb (n + (prt n cc k))) - n) (by omega) (by omega)
          refine aq_alt (ok := fun k => k == 0) rfl rfl (by omega) hT1 rfl (by omega) (by omega) ?_
          rw [hxb, e_t, ← hxb]
          show am_E _ (136, [vR y, vI n, vI bb, vI cc, vI xa, vI xb, vI k, vI ((prt n bb (n + (prt n cc k))) - n), vI 1, vI (prt n cc k)], [vI (prt n cc ((prt n bb (n + (prt n cc k))) - n))], aq_h m s F c_8) _
          refine am_E.go (t2 := (138, [vR y, vI n, vI bb, vI cc, vI xa, vI xb, vI k, vI ((prt n bb (n + (prt n cc k))) - n), vI 1, vI (prt n cc ((prt n bb (n + (prt n cc k))) - n))], [], aq_h m s F c_8)) rfl rfl ?_
          refine am_E.go (t2 := (139, [vR y, vI n, vI bb, vI cc, vI xa, vI xb, vI k, vI ((prt n bb (n + (prt n cc k))) - n), vI 1, vI (prt n cc ((prt n bb (n + (prt n cc k))) - n))], [vR y], aq_h m s F c_8)) rfl rfl ?_
          refine aq_gf (v := vR (y + 13)) rfl (by omega) hFo (by decide) rfl ?_
          show am_E _ (142, [vR y, vI n, vI bb, vI cc, vI xa, vI xb, vI k, vI ((prt n bb (n + (prt n cc k))) - n), vI 1, vI (prt n cc ((prt n bb (n + (prt n cc k))) - n))], [vR (y + 13)], aq_h m s F c_8) _
          refine am_E.go (t2 := (144, [vR y, vI n, vI bb, vI cc, vI xa, vI xb, vI k, vI ((prt n bb (n + (prt n cc k))) - n), vI 1, vI (prt n cc ((prt n bb (n + (prt n cc k))) - n))], [vI (prt n cc ((prt n bb (n + (prt n cc k))) - n)), vR (y + 13)], aq_h m s F c_8)) rfl rfl ?_
          refine am_E.go (t2 := (145, [vR y, vI n, vI bb, vI cc, vI xa, vI xb, vI k, vI ((prt n bb (n + (prt n cc k))) - n), vI 1, vI (prt n cc ((prt n bb (n + (prt n cc k))) - n))], [vI 1, vI (prt n cc ((prt n bb (n + (prt n cc k))) - n)), vR (y + 13)], aq_h m s F c_8)) rfl rfl ?_
          refine aq_as (kd := 1) rfl rfl (by omega) hG13 (by omega) (by omega) rfl rfl ?_
          show am_E _ (146, [vR y, vI n, vI bb, vI cc, vI xa, vI xb, vI k, vI ((prt n bb (n + (prt n cc k))) - n), vI 1, vI (prt n cc ((prt n bb (n + (prt n cc k))) - n))], [], aq_h m s F (aq_u c_8 (y + 13) (prt n cc ((prt n bb (n + (prt n cc k))) - n)) 1)) _
          generalize hdc_9 : aq_u c_8 (y + 13) (prt n cc ((prt n bb (n + (prt n cc k))) - n)) 1 = c_9
          have sc_9 := aq_smu sc_8 hdc_9 (hS13)
          have hobc_9 := mo_ku hobc_8 hdc_9 (Or.inl (by omega))
          have hmkc_9 := mo_mku hmkc_8 hdc_9
          have hmdc_9 := mo_mdn hmdc_8 hdc_9 (by omega)
          have r0c_9 : 0 ≤ c_9 y 15 ∧ c_9 y 15 ≤ k + 1 := by rw [← hdc_9, aq_un (Or.inl (by omega))]; exact r0c_8
          refine am_E.go (t2 := (147, [vR y, vI n, vI bb, vI cc, vI xa, vI xb, vI k, vI ((prt n bb (n + (prt n cc k))) - n), vI 1, vI (prt n cc ((prt n bb (n + (prt n cc k))) - n))], [vR y], aq_h m s F c_9)) rfl rfl ?_
          refine aq_gf (v := vR (y + 1)) rfl (by omega) hFo (by decide) rfl ?_
          show am_E _ (150, [vR y, vI n, vI bb, vI cc, vI xa, vI xb, vI k, vI ((prt n bb (n + (prt n cc k))) - n), vI 1, vI (prt n cc ((prt n bb (n + (prt n cc k))) - n))], [vR (y + 1)], aq_h m s F c_9) _
          refine am_E.go (t2 := (152, [vR y, vI n, vI bb, vI cc, vI xa, vI xb, vI k, vI ((prt n bb (n + (prt n cc k))) - n), vI 1, vI (prt n cc ((prt n bb (n + (prt n cc k))) - n))], [vI xa, vR (y + 1)], aq_h m s F c_9)) rfl rfl ?_
          refine am_E.go (t2 := (153, [vR y, vI n, vI bb, vI cc, vI xa, vI xb, vI k, vI ((prt n bb (n + (prt n cc k))) - n), vI 1, vI (prt n cc ((prt n bb (n + (prt n cc k))) - n))], [vI n, vI xa, vR (y + 1)], aq_h m s F c_9)) rfl rfl ?_
          refine ae_add rfl (am_ri (by omega) (by omega)) ?_
          show am_E _ (154, [vR y, vI n, vI bb, vI cc, vI xa, vI xb, vI k, vI ((prt n bb (n + (prt n cc k))) - n), vI 1, vI (prt n cc ((prt n bb (n + (prt n cc k))) - n))], [vI (xa + n), vR (y + 1)], aq_h m s F c_9) _
          refine am_E.go (t2 := (156, [vR y, vI n, vI bb, vI cc, vI xa, vI xb, vI k, vI ((prt n bb (n + (prt n cc k))) - n), vI 1, vI (prt n cc ((prt n bb (n + (prt n cc k))) - n))], [vI (prt n cc ((prt n bb (n + (prt n cc k))) - n)), vI (xa + n), vR (y + 1)], aq_h m s F c_9)) rfl rfl ?_
          refine ae_add rfl (am_ri (by omega) (by omega)) ?_
          show am_E _ (157, [vR y, vI n, vI bb, vI cc, vI xa, vI xb, vI k, vI ((prt n bb (n + (prt n cc k))) - n), vI 1, vI (prt n cc ((prt n bb (n + (prt n cc k))) - n))], [vI ((xa + n) + (prt n cc ((prt n bb (n + (prt n cc k))) - n))), vR (y + 1)], aq_h m s F c_9) _
          have e_t := hTt n bb (n + (prt n cc ((prt n bb (n + (prt n cc k))) - n))) (by omega) (by omega) (by omega) (by omega) (by omega) (by omega)
          have e_f := hfi (n + (prt n cc ((prt n bb (n + (prt n cc k))) - n))) (by omega) (by omega)
          refine aq_alt (ok := fun k => k == 0) rfl rfl (by omega) hT1 rfl (by omega) (by omega) ?_
          rw [Int.add_assoc, hxa, e_t, ← hxa]
          show am_E _ (158, [vR y, vI n, vI bb, vI cc, vI xa, vI xb, vI k, vI ((prt n bb (n + (prt n cc k))) - n), vI 1, vI (prt n cc ((prt n bb (n + (prt n cc k))) - n))], [vI (prt n bb (n + (prt n cc ((prt n bb (n + (prt n cc k))) - n))))], aq_h m s F c_9) _
          refine am_E.go (t2 := (159, [vR y, vI n, vI bb, vI cc, vI xa, vI xb, vI k, vI ((prt n bb (n + (prt n cc k))) - n), vI 1, vI (prt n cc ((prt n bb (n + (prt n cc k))) - n))], [vI n, vI (prt n bb (n + (prt n cc ((prt n bb (n + (prt n cc k))) - n))))], aq_h m s F c_9)) rfl rfl ?_
          refine ae_sub rfl (am_ri (by omega) (by omega)) ?_
          show am_E _ (160, [vR y, vI n, vI bb, vI cc, vI xa, vI xb, vI k, vI ((prt n bb (n + (prt n cc k))) - n), vI 1, vI (prt n cc ((prt n bb (n + (prt n cc k))) - n))], [vI ((prt n bb (n + (prt n cc ((prt n bb (n + (prt n cc k))) - n)))) - n)], aq_h m s F c_9) _
          refine am_E.go (t2 := (162, [vR y, vI n, vI bb, vI cc, vI xa, vI xb, vI k, vI ((prt n bb (n + (prt n cc ((prt n bb (n + (prt n cc k))) - n)))) - n), vI 1, vI (prt n cc ((prt n bb (n + (prt n cc k))) - n))], [], aq_h m s F c_9)) rfl rfl ?_
          refine am_E.go (t2 := (164, [vR y, vI n, vI bb, vI cc, vI xa, vI xb, vI k, vI ((prt n bb (n + (prt n cc ((prt n bb (n + (prt n cc k))) - n)))) - n), vI 1, vI (prt n cc ((prt n bb (n + (prt n cc k))) - n))], [vI ((prt n bb (n + (prt n cc ((prt n bb (n + (prt n cc k))) - n)))) - n)], aq_h m s F c_9)) rfl rfl ?_
          refine am_E.go (t2 := (166, [vR y, vI n, vI bb, vI cc, vI xa, vI xb, vI k, vI ((prt n bb (n + (prt n cc ((prt n bb (n + (prt n cc k))) - n)))) - n), vI 1, vI (prt n cc ((prt n bb (n + (prt n cc k))) - n))], [vI k, vI ((prt n bb (n + (prt n cc ((prt n bb (n + (prt n cc k))) - n)))) - n)], aq_h m s F c_9)) rfl rfl ?_
          refine ae_icmp rfl (fun (q_10 : ((prt n bb (n + (prt n cc ((prt n bb (n + (prt n cc k))) - n)))) - n) = k) => ?_) (fun (q_10 : ((prt n bb (n + (prt n cc ((prt n bb (n + (prt n cc k))) - n)))) - n) ≠ k) => ?_)
          · refine am_E.go (t2 := (174, [vR y, vI n, vI bb, vI cc, vI xa, vI xb, vI k, vI ((prt n bb (n + (prt n cc ((prt n bb (n + (prt n cc k))) - n)))) - n), vI 1, vI (prt n cc ((prt n bb (n + (prt n cc k))) - n))], [vI 0], aq_h m s F c_9)) rfl rfl ?_
            refine am_E.go (t2 := (176, [vR y, vI n, vI bb, vI cc, vI xa, vI xb, vI k, vI ((prt n bb (n + (prt n cc ((prt n bb (n + (prt n cc k))) - n)))) - n), vI 0, vI (prt n cc ((prt n bb (n + (prt n cc k))) - n))], [], aq_h m s F c_9)) rfl rfl ?_
            refine am_E.go (t2 := (113, [vR y, vI n, vI bb, vI cc, vI xa, vI xb, vI k, vI ((prt n bb (n + (prt n cc ((prt n bb (n + (prt n cc k))) - n)))) - n), vI 0, vI (prt n cc ((prt n bb (n + (prt n cc k))) - n))], [], aq_h m s F c_9)) rfl rfl ?_
            refine am_E.go (t2 := (115, [vR y, vI n, vI bb, vI cc, vI xa, vI xb, vI k, vI ((prt n bb (n + (prt n cc ((prt n bb (n + (prt n cc k))) - n)))) - n), vI 0, vI (prt n cc ((prt n bb (n + (prt n cc k))) - n))], [vI 0], aq_h m s F c_9)) rfl rfl ?_
            refine am_E.go (t2 := (179, [vR y, vI n, vI bb, vI cc, vI xa, vI xb, vI k, vI ((prt n bb (n + (prt n cc ((prt n bb (n + (prt n cc k))) - n)))) - n), vI 0, vI (prt n cc ((prt n bb (n + (prt n cc k))) - n))], [], aq_h m s F c_9)) rfl rfl ?_
            refine ae_iinc rfl rfl (am_ri (by omega) (by omega)) ?_
            show am_E _ (182, [vR y, vI n, vI bb, vI cc, vI xa, vI xb, vI (k + 1), vI ((prt n bb (n + (prt n cc ((prt n bb (n + (prt n cc k))) - n)))) - n), vI 0, vI (prt n cc ((prt n bb (n + (prt n cc k))) - n))], [], aq_h m s F c_9) _
            refine am_E.go (t2 := (80, [vR y, vI n, vI bb, vI cc, vI xa, vI xb, vI (k + 1), vI ((prt n bb (n + (prt n cc ((prt n bb (n + (prt n cc k))) - n)))) - n), vI 0, vI (prt n cc ((prt n bb (n + (prt n cc k))) - n))], [], aq_h m s F c_9)) rfl rfl ?_
            exact qm_stacked_3 ⟨hm, hFo, hG5, hG6, hG7, hG8, hG9, hG10, hG11, hG12, hG13, hG14, hG15, hG16, hG17, hG18, hG19, hG20, hG21, hG22, hG23⟩ hS0 hS12 hS13 ⟨hT1, hTt⟩ hn1 hn4 hb0 hb1 hc0 hc1 hxa hxb d (k + 1) (vI ((prt n bb (n + (prt n cc ((prt n bb (n + (prt n cc k))) - n)))) - n)) (vI 0) (vI (prt n cc ((prt n bb (n + (prt n cc k))) - n))) c_9 sc_9 (by omega) (by omega) r0c_9.1 r0c_9.2 hobc_9 hmkc_9 hmdc_9 (by omega)
          · exfalso; omega

theorem mo_mkl {y : Nat} {n p : Int} {f g : Int → Int} {c d : aq_C} (h : mo_mk y n f g p c) (hw : ∀ i, c (y + 13) i = 1 → d (y + 13) i = 1) (hp : mkd n f g (d (y + 13)) 5 (decide (p < n)) p) : mo_mk y n f g (p + 1) d := fun q h0 h1 => by
  by_cases e : q = p
  · rw [e]
    exact hp
  · exact mkd_mono hw 5 _ q (h q h0 (by omega))

theorem qm_stacked_2 {m s : Nat} {F : aq_F} {c0 : aq_C} {S : Nat → Prop} {y : Nat} (hO : mo_0 m F y) (hS0 : S y) (hS12 : S (y + 12)) (hS13 : S (y + 13)) {tbl : Int → Int} (hT : mo_T F y tbl) {n bb cc : Int} (hn1 : 1 ≤ n) (hn4 : n ≤ 4) (hb0 : 0 ≤ bb) (hb1 : bb < bx_K n) (hc0 : 0 ≤ cc) (hc1 : cc < bx_K n) {xa xb : Int} (hxa : xa = 8 * (mo_f n + bb)) (hxb : xb = 8 * (mo_f n + cc)) : ∀ (d : Nat) (p : Int) (v7 : am_V) (v8 : am_V) (v9 : am_V) (c : aq_C) (hs : aq_sm S c0 c) (h0 : 0 ≤ p) (h1 : p ≤ 2 * n) (hob : mo_k y c0 c) (hmk : mo_mk y n (prt n bb) (prt n cc) p c) (hmd : mo_md y (fst_ n (prt n bb) (prt n cc)) p c) (hd : 2 * n - p < (d : Int)), am_E ac_X5_stacked (40, [vR y, vI n, vI bb, vI cc, vI xa, vI xb, vI p, v7, v8, v9], [], aq_h m s F c) (aq_Z m s F S c0 (fun r d => ∃ v, r = some (vI v) ∧ 0 ≤ v ∧ v < bx_K n ∧ 0 ≤ d y 15 ∧ d y 15 ≤ n ∧ mo_k y c0 d ∧ ∀ i, 0 ≤ i → i < 2 * n → prt n v i = fst_ n (prt n bb) (prt n cc) i))
  | 0, p, v7, v8, v9, c, hs, h0, h1, hob, hmk, hmd, hd => by exfalso; omega
  | d + 1, p, v7, v8, v9, c, hs, h0, h1, hob, hmk, hmd, hd => by
    obtain ⟨hm, hFo, hG5, hG6, hG7, hG8, hG9, hG10, hG11, hG12, hG13, hG14, hG15, hG16, hG17, hG18, hG19, hG20, hG21, hG22, hG23⟩ := hO
    obtain ⟨hT1, hTt⟩ := hT
    have hfs := mo_fs n
    have hfi := pr_fi hn1 hn4 hb0 hb1
    have hgi := pr_fi hn1 hn4 hc0 hc1
    refine am_E.go (t2 := (42, [vR y, vI n, vI bb, vI cc, vI xa, vI xb, vI p, v7, v8, v9], [vI p], aq_h m s F c)) rfl rfl ?_
    refine am_E.go (t2 := (43, [vR y, vI n, vI bb, vI cc, vI xa, vI xb, vI p, v7, v8, v9], [vI 2, vI p], aq_h m s F c)) rfl rfl ?_
    refine am_E.go (t2 := (44, [vR y, vI n, vI bb, vI cc, vI xa, vI xb, vI p, v7, v8, v9], [vI n, vI 2, vI p], aq_h m s F c)) rfl rfl ?_
    refine ae_mul rfl (am_ri (by omega) (by omega)) ?_
    show am_E _ (45, [vR y, vI n, vI bb, vI cc, vI xa, vI xb, vI p, v7, v8, v9], [vI (2 * n), vI p], aq_h m s F c) _
    refine ae_icmp rfl (fun (q_1 : (2 * n) ≤ p) => ?_) (fun (q_1 : p < (2 * n)) => ?_)
    · have ep : p = 2 * n := by omega
      rw [ep] at hmk hmd
      refine am_E.go (t2 := (73, [vR y, vI n, vI bb, vI cc, vI xa, vI xb, vI p, v7, v8, v9], [vR y], aq_h m s F c)) rfl rfl ?_
      refine am_E.go (t2 := (74, [vR y, vI n, vI bb, vI cc, vI xa, vI xb, vI p, v7, v8, v9], [vI 0, vR y], aq_h m s F c)) rfl rfl ?_
      refine aq_pf rfl (by omega) hFo (by decide) rfl rfl ?_
      show am_E _ (77, [vR y, vI n, vI bb, vI cc, vI xa, vI xb, vI p, v7, v8, v9], [], aq_h m s F (aq_u c y 15 0)) _
      generalize hdc_2 : aq_u c y 15 0 = c_2
      have sc_2 := aq_smu hs hdc_2 hS0
      have hobc_2 := mo_ku hob hdc_2 (Or.inr (by decide))
      have hmkc_2 := mo_mkn hmk hdc_2 (by omega)
      have hmdc_2 := mo_mdn hmd hdc_2 (by omega)
      have r0c_2 : c_2 y 15 = 0 := by rw [← hdc_2, aq_us]
      refine am_E.go (t2 := (78, [vR y, vI n, vI bb, vI cc, vI xa, vI xb, vI p, v7, v8, v9], [vI 0], aq_h m s F c_2)) rfl rfl ?_
      refine am_E.go (t2 := (80, [vR y, vI n, vI bb, vI cc, vI xa, vI xb, vI 0, v7, v8, v9], [], aq_h m s F c_2)) rfl rfl ?_
      exact qm_stacked_3 ⟨hm, hFo, hG5, hG6, hG7, hG8, hG9, hG10, hG11, hG12, hG13, hG14, hG15, hG16, hG17, hG18, hG19, hG20, hG21, hG22, hG23⟩ hS0 hS12 hS13 ⟨hT1, hTt⟩ hn1 hn4 hb0 hb1 hc0 hc1 hxa hxb 5 0 (v7) (v8) (v9) c_2 sc_2 (by omega) (by omega) (by omega) (by omega) hobc_2 hmkc_2 hmdc_2 (by omega)
    · refine am_E.go (t2 := (49, [vR y, vI n, vI bb, vI cc, vI xa, vI xb, vI p, v7, v8, v9], [vR y], aq_h m s F c)) rfl rfl ?_
      refine aq_gf (v := vR (y + 12)) rfl (by omega) hFo (by decide) rfl ?_
      show am_E _ (52, [vR y, vI n, vI bb, vI cc, vI xa, vI xb, vI p, v7, v8, v9], [vR (y + 12)], aq_h m s F c) _
      refine am_E.go (t2 := (54, [vR y, vI n, vI bb, vI cc, vI xa, vI xb, vI p, v7, v8, v9], [vI p, vR (y + 12)], aq_h m s F c)) rfl rfl ?_
      refine am_E.go (t2 := (55, [vR y, vI n, vI bb, vI cc, vI xa, vI xb, vI p, v7, v8, v9], [vR y, vI p, vR (y + 12)], aq_h m s F c)) rfl rfl ?_
      refine am_E.go (t2 := (56, [vR y, vI n, vI bb, vI cc, vI xa, vI xb, vI p, v7, v8, v9], [vI n, vR y, vI p, vR (y + 12)], aq_h m s F c)) rfl rfl ?_
      refine am_E.go (t2 := (58, [vR y, vI n, vI bb, vI cc, vI xa, vI xb, vI p, v7, v8, v9], [vI xa, vI n, vR y, vI p, vR (y + 12)], aq_h m s F c)) rfl rfl ?_
      refine am_E.go (t2 := (60, [vR y, vI n, vI bb, vI cc, vI xa, vI xb, vI p, v7, v8, v9], [vI xb, vI xa, vI n, vR y, vI p, vR (y + 12)], aq_h m s F c)) rfl rfl ?_
      refine am_E.go (t2 := (62, [vR y, vI n, vI bb, vI cc, vI xa, vI xb, vI p, v7, v8, v9], [vI p, vI xb, vI xa, vI n, vR y, vI p, vR (y + 12)], aq_h m s F c)) rfl rfl ?_
      refine aq_callv (y := 5) (as2 := [vI n, vI xa, vI xb, vI p]) (rest := [vI p, vR (y + 12)]) rfl rfl (by decide) (Nat.le_of_ble_eq_true rfl) rfl rfl (Nat.le_of_ble_eq_true rfl) (by omega) hFo rfl (Nat.le_of_ble_eq_true rfl) (qm_lead (S := fun a => a = y + 13) ⟨hm, hFo, hG5, hG6, hG7, hG8, hG9, hG10, hG11, hG12, hG13, hG14, hG15, hG16, hG17, hG18, hG19, hG20, hG21, hG22, hG23⟩ rfl hT1 (n := n) (a := xa) (b := xb) hn1 hn4 (by omega) (by omega) (by omega) (by omega) (fun p5 h5 h6 => by rw [hxa]; exact hTt n bb p5 hn1 hn4 hb0 hb1 h5 h6) (fun p5 h5 h6 => by rw [hxb]; exact hTt n cc p5 hn1 hn4 hc0 hc1 h5 h6) hfi hgi h0 (by omega)) ?_
      rintro r5 h5 ⟨c_l, rfl, s_l, rfl, mo_l, mk_l⟩
      show am_E _ (65, [vR y, vI n, vI bb, vI cc, vI xa, vI xb, vI p, v7, v8, v9], [vI (fst_ n (prt n bb) (prt n cc) p), vI p, vR (y + 12)], aq_h m s F c_l) _
      refine aq_as (kd := 0) rfl rfl (by omega) hG12 (by omega) (by omega) rfl rfl ?_
      show am_E _ (66, [vR y, vI n, vI bb, vI cc, vI xa, vI xb, vI p, v7, v8, v9], [], aq_h m s F (aq_u c_l (y + 12) p (fst_ n (prt n bb) (prt n cc) p))) _
      generalize hdc_3 : aq_u c_l (y + 12) p (fst_ n (prt n bb) (prt n cc) p) = c_3
      have sc_3 := aq_smu (aq_smt hs (aq_smi s_l (fun a h => by rw [h]; exact hS13))) hdc_3 (hS12)
      have hobc_3 := mo_ku (mo_ks hob s_l (by omega)) hdc_3 (Or.inl (by omega))
      have hmkc_3 := mo_mkn (mo_mkl hmk mo_l mk_l) hdc_3 (by omega)
      have hmdc_3 : mo_md y (fst_ n (prt n bb) (prt n cc)) (p + 1) c_3 := aq_fl (mo_mds hmd s_l (by omega)) hdc_3 rfl
      refine ae_iinc rfl rfl (am_ri (by omega) (by omega)) ?_
      show am_E _ (69, [vR y, vI n, vI bb, vI cc, vI xa, vI xb, vI (p + 1), v7, v8, v9], [], aq_h m s F c_3) _
      refine am_E.go (t2 := (40, [vR y, vI n, vI bb, vI cc, vI xa, vI xb, vI (p + 1), v7, v8, v9], [], aq_h m s F c_3)) rfl rfl ?_
      exact qm_stacked_2 ⟨hm, hFo, hG5, hG6, hG7, hG8, hG9, hG10, hG11, hG12, hG13, hG14, hG15, hG16, hG17, hG18, hG19, hG20, hG21, hG22, hG23⟩ hS0 hS12 hS13 ⟨hT1, hTt⟩ hn1 hn4 hb0 hb1 hc0 hc1 hxa hxb d (p + 1) (v7) (v8) (v9) c_3 sc_3 (by omega) (by omega) hobc_3 hmkc_3 hmdc_3 (by omega)

theorem qm_stacked_1 {m s : Nat} {F : aq_F} {c0 : aq_C} {S : Nat → Prop} {y : Nat} (hO : mo_0 m F y) (hS0 : S y) (hS12 : S (y + 12)) (hS13 : S (y + 13)) {tbl : Int → Int} (hT : mo_T F y tbl) {n bb cc : Int} (hn1 : 1 ≤ n) (hn4 : n ≤ 4) (hb0 : 0 ≤ bb) (hb1 : bb < bx_K n) (hc0 : 0 ≤ cc) (hc1 : cc < bx_K n) {xa xb : Int} (hxa : xa = 8 * (mo_f n + bb)) (hxb : xb = 8 * (mo_f n + cc)) : ∀ (d : Nat) (k : Int) (v7 : am_V) (v8 : am_V) (v9 : am_V) (c : aq_C) (hs : aq_sm S c0 c) (h0 : 0 ≤ k) (h1 : k ≤ 4) (hob : mo_k y c0 c) (hd : 4 - k < (d : Int)), am_E ac_X5_stacked (17, [vR y, vI n, vI bb, vI cc, vI xa, vI xb, vI k, v7, v8, v9], [], aq_h m s F c) (aq_Z m s F S c0 (fun r d => ∃ v, r = some (vI v) ∧ 0 ≤ v ∧ v < bx_K n ∧ 0 ≤ d y 15 ∧ d y 15 ≤ n ∧ mo_k y c0 d ∧ ∀ i, 0 ≤ i → i < 2 * n → prt n v i = fst_ n (prt n bb) (prt n cc) i))
  | 0, k, v7, v8, v9, c, hs, h0, h1, hob, hd => by exfalso; omega
  | d + 1, k, v7, v8, v9, c, hs, h0, h1, hob, hd => by
    obtain ⟨hm, hFo, hG5, hG6, hG7, hG8, hG9, hG10, hG11, hG12, hG13, hG14, hG15, hG16, hG17, hG18, hG19, hG20, hG21, hG22, hG23⟩ := hO
    obtain ⟨hT1, hTt⟩ := hT
    have hfs := mo_fs n
    have hfi := pr_fi hn1 hn4 hb0 hb1
    have hgi := pr_fi hn1 hn4 hc0 hc1
    refine am_E.go (t2 := (19, [vR y, vI n, vI bb, vI cc, vI xa, vI xb, vI k, v7, v8, v9], [vI k], aq_h m s F c)) rfl rfl ?_
    refine am_E.go (t2 := (20, [vR y, vI n, vI bb, vI cc, vI xa, vI xb, vI k, v7, v8, v9], [vI 4, vI k], aq_h m s F c)) rfl rfl ?_
    refine ae_icmp rfl (fun (q_1 : 4 ≤ k) => ?_) (fun (q_1 : k < 4) => ?_)
    · refine am_E.go (t2 := (38, [vR y, vI n, vI bb, vI cc, vI xa, vI xb, vI k, v7, v8, v9], [vI 0], aq_h m s F c)) rfl rfl ?_
      refine am_E.go (t2 := (40, [vR y, vI n, vI bb, vI cc, vI xa, vI xb, vI 0, v7, v8, v9], [], aq_h m s F c)) rfl rfl ?_
      exact qm_stacked_2 ⟨hm, hFo, hG5, hG6, hG7, hG8, hG9, hG10, hG11, hG12, hG13, hG14, hG15, hG16, hG17, hG18, hG19, hG20, hG21, hG22, hG23⟩ hS0 hS12 hS13 ⟨hT1, hTt⟩ hn1 hn4 hb0 hb1 hc0 hc1 hxa hxb 9 0 (v7) (v8) (v9) c hs (by omega) (by omega) hob (fun p5 h5 h6 => absurd h6 (by omega)) (fun p5 h5 h6 => absurd h6 (by omega)) (by omega)
    · refine am_E.go (t2 := (24, [vR y, vI n, vI bb, vI cc, vI xa, vI xb, vI k, v7, v8, v9], [vR y], aq_h m s F c)) rfl rfl ?_
      refine aq_gf (v := vR (y + 13)) rfl (by omega) hFo (by decide) rfl ?_
      show am_E _ (27, [vR y, vI n, vI bb, vI cc, vI xa, vI xb, vI k, v7, v8, v9], [vR (y + 13)], aq_h m s F c) _
      refine am_E.go (t2 := (29, [vR y, vI n, vI bb, vI cc, vI xa, vI xb, vI k, v7, v8, v9], [vI k, vR (y + 13)], aq_h m s F c)) rfl rfl ?_
      refine am_E.go (t2 := (30, [vR y, vI n, vI bb, vI cc, vI xa, vI xb, vI k, v7, v8, v9], [vI 0, vI k, vR (y + 13)], aq_h m s F c)) rfl rfl ?_
      refine aq_as (kd := 1) rfl rfl (by omega) hG13 (by omega) (by omega) rfl rfl ?_
      show am_E _ (31, [vR y, vI n, vI bb, vI cc, vI xa, vI xb, vI k, v7, v8, v9], [], aq_h m s F (aq_u c (y + 13) k 0)) _
      generalize hdc_2 : aq_u c (y + 13) k 0 = c_2
      have sc_2 := aq_smu hs hdc_2 (hS13)
      have hobc_2 := mo_ku hob hdc_2 (Or.inl (by omega))
      refine ae_iinc rfl rfl (am_ri (by omega) (by omega)) ?_
      show am_E _ (34, [vR y, vI n, vI bb, vI cc, vI xa, vI xb, vI (k + 1), v7, v8, v9], [], aq_h m s F c_2) _
      refine am_E.go (t2 := (17, [vR y, vI n, vI bb, vI cc, vI xa, vI xb, vI (k + 1), v7, v8, v9], [], aq_h m s F c_2)) rfl rfl ?_
      exact qm_stacked_1 ⟨hm, hFo, hG5, hG6, hG7, hG8, hG9, hG10, hG11, hG12, hG13, hG14, hG15, hG16, hG17, hG18, hG19, hG20, hG21, hG22, hG23⟩ hS0 hS12 hS13 ⟨hT1, hTt⟩ hn1 hn4 hb0 hb1 hc0 hc1 hxa hxb d (k + 1) (v7) (v8) (v9) c_2 sc_2 (by omega) (by omega) hobc_2 (by omega)

theorem qm_stacked {m s : Nat} {F : aq_F} {c : aq_C} {S : Nat → Prop} {y : Nat} (hO : mo_0 m F y) (hS0 : S y) (hS12 : S (y + 12)) (hS13 : S (y + 13)) {tbl : Int → Int} (hT : mo_T F y tbl) {n bb cc : Int} (hn1 : 1 ≤ n) (hn4 : n ≤ 4) (hb0 : 0 ≤ bb) (hb1 : bb < bx_K n) (hc0 : 0 ≤ cc) (hc1 : cc < bx_K n) : am_E ac_X5_stacked (0, [vR y, vI n, vI bb, vI cc, vU, vU, vU, vU, vU, vU], [], aq_h m s F c) (aq_Z m s F S c (fun r d => ∃ v, r = some (vI v) ∧ 0 ≤ v ∧ v < bx_K n ∧ 0 ≤ d y 15 ∧ d y 15 ≤ n ∧ mo_k y c d ∧ ∀ i, 0 ≤ i → i < 2 * n → prt n v i = fst_ n (prt n bb) (prt n cc) i)) := by
  obtain ⟨hm, hFo, hG5, hG6, hG7, hG8, hG9, hG10, hG11, hG12, hG13, hG14, hG15, hG16, hG17, hG18, hG19, hG20, hG21, hG22, hG23⟩ := hO
  obtain ⟨hT1, hTt⟩ := hT
  have hfs := mo_fs n
  have hfi := pr_fi hn1 hn4 hb0 hb1
  have hgi := pr_fi hn1 hn4 hc0 hc1
  refine am_E.go (t2 := (1, [vR y, vI n, vI bb, vI cc, vU, vU, vU, vU, vU, vU], [vI n], aq_h m s F c)) rfl rfl ?_
  refine am_E.go (t2 := (2, [vR y, vI n, vI bb, vI cc, vU, vU, vU, vU, vU, vU], [vI bb, vI n], aq_h m s F c)) rfl rfl ?_
  refine am_E.call rfl rfl rfl (Nat.le_of_ble_eq_true rfl) (qm_at (by omega) (by omega)) ?_
  rintro r5 h5 ⟨rfl, xa, rfl, hxa⟩
  show am_E _ (5, [vR y, vI n, vI bb, vI cc, vU, vU, vU, vU, vU, vU], [vI xa], aq_h m s F c) _
  refine am_E.go (t2 := (7, [vR y, vI n, vI bb, vI cc, vI xa, vU, vU, vU, vU, vU], [], aq_h m s F c)) rfl rfl ?_
  refine am_E.go (t2 := (8, [vR y, vI n, vI bb, vI cc, vI xa, vU, vU, vU, vU, vU], [vI n], aq_h m s F c)) rfl rfl ?_
  refine am_E.go (t2 := (9, [vR y, vI n, vI bb, vI cc, vI xa, vU, vU, vU, vU, vU], [vI cc, vI n], aq_h m s F c)) rfl rfl ?_
  refine am_E.call rfl rfl rfl (Nat.le_of_ble_eq_true rfl) (qm_at (by omega) (by omega)) ?_
  rintro r5 h5 ⟨rfl, xb, rfl, hxb⟩
  show am_E _ (12, [vR y, vI n, vI bb, vI cc, vI xa, vU, vU, vU, vU, vU], [vI xb], aq_h m s F c) _
  refine am_E.go (t2 := (14, [vR y, vI n, vI bb, vI cc, vI xa, vI xb, vU, vU, vU, vU], [], aq_h m s F c)) rfl rfl ?_
  refine am_E.go (t2 := (15, [vR y, vI n, vI bb, vI cc, vI xa, vI xb, vU, vU, vU, vU], [vI 0], aq_h m s F c)) rfl rfl ?_
  refine am_E.go (t2 := (17, [vR y, vI n, vI bb, vI cc, vI xa, vI xb, vI 0, vU, vU, vU], [], aq_h m s F c)) rfl rfl ?_
  exact qm_stacked_1 ⟨hm, hFo, hG5, hG6, hG7, hG8, hG9, hG10, hG11, hG12, hG13, hG14, hG15, hG16, hG17, hG18, hG19, hG20, hG21, hG22, hG23⟩ hS0 hS12 hS13 ⟨hT1, hTt⟩ hn1 hn4 hb0 hb1 hc0 hc1 hxa hxb 6 0 (vU) (vU) (vU) c aq_sm0 (by omega) (by omega) mo_k0 (by omega)
