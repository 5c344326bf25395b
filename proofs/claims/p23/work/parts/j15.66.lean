
/-- the digits of a code, the lowest first -/
def dgt (b : Int) : Nat → Int → Int
  | 0, code => code % b
  | k + 1, code => dgt b k (code / b)
def dg_n (n code p : Int) : Int := dgt (n + 1) (n - 1 - p).toNat code
def ly (n t num C : Int) : Nat → Int → Int → Int × Int
  | 0, code, many => (many, code)
  | d + 1, code, many => if code < C then (if hf_o n t (dg_n n code) 6 0 0 1 = 0 then ly n t num C d (code + 1) many else if many = num then (many, code) else ly n t num C d (code + 1) (many + 1)) else (many, code)

theorem qm_lay_1 {m s : Nat} {F : aq_F} {c0 : aq_C} {y a : Nat} (hyy : y < m) (hFy : F y = (15, 27, mo_t y)) (ha : a < m) (hFa : F a = (0, 4, fun _ => .inl 0)) {t num : Int} {T : Int × Int} : ∀ (d : Nat) (mn : Int) (code : Int) (v8 : am_V) (v9 : am_V) (c : aq_C) (hs : aq_sm (fun b => b = a) c0 c) (h0 : 0 ≤ code) (h1 : code ≤ 2) (h2 : 0 ≤ mn) (h3 : mn ≤ code) (hl : ly 1 t num 2 d code mn = T) (hd : 2 - code < (d : Int)), am_E ac_X5_lay (32, [vR y, vI 1, vI t, vI num, vR a, vI mn, vI 2, vI code, v8, v9], [], aq_h m s F c) (aq_Z m s F (fun b => b = a) c0 (fun r d => r = some (vI T.1) ∧ (T.2 < 2 → ∀ i, 0 ≤ i → i < 1 → d a i = dg_n 1 T.2 i)))
  | 0, mn, code, v8, v9, c, hs, h0, h1, h2, h3, hl, hd => by exfalso; omega
  | d + 1, mn, code, v8, v9, c, hs, h0, h1, h2, h3, hl, hd => by
    refine am_E.go (t2 := (34, [vR y, vI 1, vI t, vI num, vR a, vI mn, vI 2, vI code, v8, v9], [vI code], aq_h m s F c)) rfl rfl ?_
    refine am_E.go (t2 := (36, [vR y, vI 1, vI t, vI num, vR a, vI mn, vI 2, vI code, v8, v9], [vI 2, vI code], aq_h m s F c)) rfl rfl ?_
    refine ae_icmp rfl (fun (q_1 : 2 ≤ code) => ?_) (fun (q_1 : code < 2) => ?_)
    · refine am_E.go (t2 := (108, [vR y, vI 1, vI t, vI num, vR a, vI mn, vI 2, vI code, v8, v9], [vI mn], aq_h m s F c)) rfl rfl ?_
      refine am_E.ret rfl rfl ?_
      have eT : T = (mn, code) := by rw [← hl, ly, if_neg (by omega)]
      rw [eT]
      exact ⟨_, rfl, hs, rfl, fun h => absurd h (by show ¬ code < 2; omega)⟩
    · refine am_E.go (t2 := (41, [vR y, vI 1, vI t, vI num, vR a, vI mn, vI 2, vI code, v8, v9], [vI code], aq_h m s F c)) rfl rfl ?_
      refine am_E.go (t2 := (43, [vR y, vI 1, vI t, vI num, vR a, vI mn, vI 2, vI code, vI code, v9], [], aq_h m s F c)) rfl rfl ?_
      refine am_E.go (t2 := (44, [vR y, vI 1, vI t, vI num, vR a, vI mn, vI 2, vI code, vI code, v9], [vI 1], aq_h m s F c)) rfl rfl ?_
      refine am_E.go (t2 := (45, [vR y, vI 1, vI t, vI num, vR a, vI mn, vI 2, vI code, vI code, v9], [vI 1, vI 1], aq_h m s F c)) rfl rfl ?_
      refine am_E.go (t2 := (46, [vR y, vI 1, vI t, vI num, vR a, vI mn, vI 2, vI code, vI code, v9], [vI 0], aq_h m s F c)) rfl rfl ?_
      refine am_E.go (t2 := (48, [vR y, vI 1, vI t, vI num, vR a, vI mn, vI 2, vI code, vI code, vI 0], [], aq_h m s F c)) rfl rfl ?_
      refine am_E.go (t2 := (50, [vR y, vI 1, vI t, vI num, vR a, vI mn, vI 2, vI code, vI code, vI 0], [vI 0], aq_h m s F c)) rfl rfl ?_
      refine am_E.go (t2 := (53, [vR y, vI 1, vI t, vI num, vR a, vI mn, vI 2, vI code, vI code, vI 0], [], aq_h m s F c)) rfl rfl ?_
      refine am_E.go (t2 := (55, [vR y, vI 1, vI t, vI num, vR a, vI mn, vI 2, vI code, vI code, vI 0], [vR a], aq_h m s F c)) rfl rfl ?_
      refine am_E.go (t2 := (57, [vR y, vI 1, vI t, vI num, vR a, vI mn, vI 2, vI code, vI code, vI 0], [vI 0, vR a], aq_h m s F c)) rfl rfl ?_
      refine am_E.go (t2 := (59, [vR y, vI 1, vI t, vI num, vR a, vI mn, vI 2, vI code, vI code, vI 0], [vI code, vI 0, vR a], aq_h m s F c)) rfl rfl ?_
      refine am_E.go (t2 := (60, [vR y, vI 1, vI t, vI num, vR a, vI mn, vI 2, vI code, vI code, vI 0], [vI 1, vI code, vI 0, vR a], aq_h m s F c)) rfl rfl ?_
      refine am_E.go (t2 := (61, [vR y, vI 1, vI t, vI num, vR a, vI mn, vI 2, vI code, vI code, vI 0], [vI 1, vI 1, vI code, vI 0, vR a], aq_h m s F c)) rfl rfl ?_
      refine am_E.go (t2 := (62, [vR y, vI 1, vI t, vI num, vR a, vI mn, vI 2, vI code, vI code, vI 0], [vI 2, vI code, vI 0, vR a], aq_h m s F c)) rfl rfl ?_
      refine ae_bin (z := code % 2) rfl rfl (am_rem_e (by omega) (by decide)) ?_
      show am_E _ (63, [vR y, vI 1, vI t, vI num, vR a, vI mn, vI 2, vI code, vI code, vI 0], [vI (code % 2), vI 0, vR a], aq_h m s F c) _
      refine aq_as (kd := 0) rfl rfl ha hFa (by omega) (by omega) rfl rfl ?_
      show am_E _ (64, [vR y, vI 1, vI t, vI num, vR a, vI mn, vI 2, vI code, vI code, vI 0], [], aq_h m s F (aq_u c a 0 (code % 2))) _
      generalize hdc_2 : aq_u c a 0 (code % 2) = c_2
      have sc_2 := aq_smu hs hdc_2 rfl
      refine am_E.go (t2 := (66, [vR y, vI 1, vI t, vI num, vR a, vI mn, vI 2, vI code, vI code, vI 0], [vI code], aq_h m s F c_2)) rfl rfl ?_
      refine am_E.go (t2 := (67, [vR y, vI 1, vI t, vI num, vR a, vI mn, vI 2, vI code, vI code, vI 0], [vI 1, vI code], aq_h m s F c_2)) rfl rfl ?_
      refine am_E.go (t2 := (68, [vR y, vI 1, vI t, vI num, vR a, vI mn, vI 2, vI code, vI code, vI 0], [vI 1, vI 1, vI code], aq_h m s F c_2)) rfl rfl ?_
      refine am_E.go (t2 := (69, [vR y, vI 1, vI t, vI num, vR a, vI mn, vI 2, vI code, vI code, vI 0], [vI 2, vI code], aq_h m s F c_2)) rfl rfl ?_
      refine ae_bin (z := code / 2) rfl rfl (am_div_e (by omega) (by omega) (by decide)) ?_
      show am_E _ (70, [vR y, vI 1, vI t, vI num, vR a, vI mn, vI 2, vI code, vI code, vI 0], [vI (code / 2)], aq_h m s F c_2) _
      refine am_E.go (t2 := (72, [vR y, vI 1, vI t, vI num, vR a, vI mn, vI 2, vI code, vI (code / 2), vI 0], [], aq_h m s F c_2)) rfl rfl ?_
      refine am_E.go (t2 := (75, [vR y, vI 1, vI t, vI num, vR a, vI mn, vI 2, vI code, vI (code / 2), vI (-1)], [], aq_h m s F c_2)) rfl rfl ?_
      refine am_E.go (t2 := (48, [vR y, vI 1, vI t, vI num, vR a, vI mn, vI 2, vI code, vI (code / 2), vI (-1)], [], aq_h m s F c_2)) rfl rfl ?_
      refine am_E.go (t2 := (50, [vR y, vI 1, vI t, vI num, vR a, vI mn, vI 2, vI code, vI (code / 2), vI (-1)], [vI (-1)], aq_h m s F c_2)) rfl rfl ?_
      refine am_E.go (t2 := (78, [vR y, vI 1, vI t, vI num, vR a, vI mn, vI 2, vI code, vI (code / 2), vI (-1)], [], aq_h m s F c_2)) rfl rfl ?_
      refine am_E.go (t2 := (79, [vR y, vI 1, vI t, vI num, vR a, vI mn, vI 2, vI code, vI (code / 2), vI (-1)], [vI 1], aq_h m s F c_2)) rfl rfl ?_
      refine am_E.go (t2 := (80, [vR y, vI 1, vI t, vI num, vR a, vI mn, vI 2, vI code, vI (code / 2), vI (-1)], [vI t, vI 1], aq_h m s F c_2)) rfl rfl ?_
      refine am_E.go (t2 := (82, [vR y, vI 1, vI t, vI num, vR a, vI mn, vI 2, vI code, vI (code / 2), vI (-1)], [vR a, vI t, vI 1], aq_h m s F c_2)) rfl rfl ?_
      have hz : ∀ i, 0 ≤ i → i < 1 → c_2 a i = dg_n 1 code i := by
        intro i h5 h6
        have h7 : i = 0 := by omega
        rw [h7, ← hdc_2, aq_us]
        rfl
      have hd5 : ∀ i, 0 ≤ i → i < 1 → 0 ≤ dg_n 1 code i ∧ dg_n 1 code i < 2 := by
        intro i h5 h6
        have h7 : i = 0 := by omega
        rw [h7]
        show 0 ≤ code % 2 ∧ code % 2 < 2
        omega
      have hrg : aq_rg a 1 0 (1 + 1) c_2 := fun i h5 h6 => by rw [hz i h5 h6]; exact hd5 i h5 h6
      have hoc := hf_oc (n := 1) (t := t) hz (fun i h5 h6 => by have := hrg i h5 h6; omega) 6 0 0 1 (by decide)
      refine am_E.call rfl rfl rfl (Nat.le_of_ble_eq_true rfl) (qm_isHalf (n := 1) (t := t) ha hFa (by decide) (by decide) hrg) ?_
      rintro r5 h5 ⟨rfl, rfl⟩
      rw [hoc]
      show am_E _ (85, [vR y, vI 1, vI t, vI num, vR a, vI mn, vI 2, vI code, vI (code / 2), vI (-1)], [vI (hf_o 1 t (dg_n 1 code) 6 0 0 1)], aq_h m s F c_2) _
      refine ae_if0 rfl (fun (q_3 : (hf_o 1 t (dg_n 1 code) 6 0 0 1) = 0) => ?_) (fun (q_3 : (hf_o 1 t (dg_n 1 code) 6 0 0 1) ≠ 0) => ?_)
      · have hq_h := q_3
        refine ae_iinc rfl rfl (am_ri (by omega) (by omega)) ?_
        show am_E _ (103, [vR y, vI 1, vI t, vI num, vR a, vI mn, vI 2, vI (code + 1), vI (code / 2), vI (-1)], [], aq_h m s F c_2) _
        refine am_E.go (t2 := (32, [vR y, vI 1, vI t, vI num, vR a, vI mn, vI 2, vI (code + 1), vI (code / 2), vI (-1)], [], aq_h m s F c_2)) rfl rfl ?_
        exact qm_lay_1 hyy hFy ha hFa d mn (code + 1) (vI (code / 2)) (vI (-1)) c_2 sc_2 (by omega) (by omega) (by omega) (by omega) (by rw [← hl, ly, if_pos (by omega)]; first | (rw [if_pos hq_h]) | (rw [if_neg hq_h, if_neg (by omega)])) (by omega)
      · have hq_h := q_3
        refine am_E.go (t2 := (90, [vR y, vI 1, vI t, vI num, vR a, vI mn, vI 2, vI code, vI (code / 2), vI (-1)], [vI mn], aq_h m s F c_2)) rfl rfl ?_
        refine am_E.go (t2 := (91, [vR y, vI 1, vI t, vI num, vR a, vI mn, vI 2, vI code, vI (code / 2), vI (-1)], [vI num, vI mn], aq_h m s F c_2)) rfl rfl ?_
        refine ae_icmp rfl (fun (q_4 : mn ≠ num) => ?_) (fun (q_4 : mn = num) => ?_)
        · refine ae_iinc rfl rfl (am_ri (by omega) (by omega)) ?_
          show am_E _ (100, [vR y, vI 1, vI t, vI num, vR a, vI (mn + 1), vI 2, vI code, vI (code / 2), vI (-1)], [], aq_h m s F c_2) _
          refine ae_iinc rfl rfl (am_ri (by omega) (by omega)) ?_
          show am_E _ (103, [vR y, vI 1, vI t, vI num, vR a, vI (mn + 1), vI 2, vI (code + 1), vI (code / 2), vI (-1)], [], aq_h m s F c_2) _
          refine am_E.go (t2 := (32, [vR y, vI 1, vI t, vI num, vR a, vI (mn + 1), vI 2, vI (code + 1), vI (code / 2), vI (-1)], [], aq_h m s F c_2)) rfl rfl ?_
          exact qm_lay_1 hyy hFy ha hFa d (mn + 1) (code + 1) (vI (code / 2)) (vI (-1)) c_2 sc_2 (by omega) (by omega) (by omega) (by omega) (by rw [← hl, ly, if_pos (by omega)]; first | (rw [if_pos hq_h]) | (rw [if_neg hq_h, if_neg (by omega)])) (by omega)
        · refine am_E.go (t2 := (96, [vR y, vI 1, vI t, vI num, vR a, vI mn, vI 2, vI code, vI (code / 2), vI (-1)], [vI mn], aq_h m s F c_2)) rfl rfl ?_
          refine am_E.ret rfl rfl ?_
          have eT : T = (mn, code) := by rw [← hl, ly, if_pos (by omega), if_neg hq_h, if_pos (by omega)]
          rw [eT]
          exact ⟨_, rfl, sc_2, rfl, fun _ => hz⟩

theorem qm_lay1 {m s : Nat} {F : aq_F} {c : aq_C} {y a : Nat} (hyy : y < m) (hFy : F y = (15, 27, mo_t y)) (ha : a < m) (hFa : F a = (0, 4, fun _ => .inl 0)) {t num : Int} : am_E ac_X5_lay (0, [vR y, vI 1, vI t, vI num, vR a, vU, vU, vU, vU, vU], [], aq_h m s F c) (aq_Z m s F (fun b => b = a) c (fun r d => r = some (vI (ly 1 t num 2 3 0 0).1) ∧ ((ly 1 t num 2 3 0 0).2 < 2 → ∀ i, 0 ≤ i → i < 1 → d a i = dg_n 1 (ly 1 t num 2 3 0 0).2 i))) := by
  refine am_E.go (t2 := (1, [vR y, vI 1, vI t, vI num, vR a, vU, vU, vU, vU, vU], [vI 0], aq_h m s F c)) rfl rfl ?_
  refine am_E.go (t2 := (3, [vR y, vI 1, vI t, vI num, vR a, vI 0, vU, vU, vU, vU], [], aq_h m s F c)) rfl rfl ?_
  refine am_E.go (t2 := (4, [vR y, vI 1, vI t, vI num, vR a, vI 0, vU, vU, vU, vU], [vI 1], aq_h m s F c)) rfl rfl ?_
  refine am_E.go (t2 := (6, [vR y, vI 1, vI t, vI num, vR a, vI 0, vI 1, vU, vU, vU], [], aq_h m s F c)) rfl rfl ?_
  refine am_E.go (t2 := (7, [vR y, vI 1, vI t, vI num, vR a, vI 0, vI 1, vU, vU, vU], [vI 0], aq_h m s F c)) rfl rfl ?_
  refine am_E.go (t2 := (9, [vR y, vI 1, vI t, vI num, vR a, vI 0, vI 1, vI 0, vU, vU], [], aq_h m s F c)) rfl rfl ?_
  refine am_E.go (t2 := (11, [vR y, vI 1, vI t, vI num, vR a, vI 0, vI 1, vI 0, vU, vU], [vI 0], aq_h m s F c)) rfl rfl ?_
  refine am_E.go (t2 := (12, [vR y, vI 1, vI t, vI num, vR a, vI 0, vI 1, vI 0, vU, vU], [vI 1, vI 0], aq_h m s F c)) rfl rfl ?_
  refine am_E.go (t2 := (15, [vR y, vI 1, vI t, vI num, vR a, vI 0, vI 1, vI 0, vU, vU], [], aq_h m s F c)) rfl rfl ?_
  refine am_E.go (t2 := (17, [vR y, vI 1, vI t, vI num, vR a, vI 0, vI 1, vI 0, vU, vU], [vI 1], aq_h m s F c)) rfl rfl ?_
  refine am_E.go (t2 := (18, [vR y, vI 1, vI t, vI num, vR a, vI 0, vI 1, vI 0, vU, vU], [vI 1, vI 1], aq_h m s F c)) rfl rfl ?_
  refine am_E.go (t2 := (19, [vR y, vI 1, vI t, vI num, vR a, vI 0, vI 1, vI 0, vU, vU], [vI 1, vI 1, vI 1], aq_h m s F c)) rfl rfl ?_
  refine am_E.go (t2 := (20, [vR y, vI 1, vI t, vI num, vR a, vI 0, vI 1, vI 0, vU, vU], [vI 2, vI 1], aq_h m s F c)) rfl rfl ?_
  refine am_E.go (t2 := (21, [vR y, vI 1, vI t, vI num, vR a, vI 0, vI 1, vI 0, vU, vU], [vI 2], aq_h m s F c)) rfl rfl ?_
  refine am_E.go (t2 := (23, [vR y, vI 1, vI t, vI num, vR a, vI 0, vI 2, vI 0, vU, vU], [], aq_h m s F c)) rfl rfl ?_
  refine am_E.go (t2 := (26, [vR y, vI 1, vI t, vI num, vR a, vI 0, vI 2, vI 1, vU, vU], [], aq_h m s F c)) rfl rfl ?_
  refine am_E.go (t2 := (9, [vR y, vI 1, vI t, vI num, vR a, vI 0, vI 2, vI 1, vU, vU], [], aq_h m s F c)) rfl rfl ?_
  refine am_E.go (t2 := (11, [vR y, vI 1, vI t, vI num, vR a, vI 0, vI 2, vI 1, vU, vU], [vI 1], aq_h m s F c)) rfl rfl ?_
  refine am_E.go (t2 := (12, [vR y, vI 1, vI t, vI num, vR a, vI 0, vI 2, vI 1, vU, vU], [vI 1, vI 1], aq_h m s F c)) rfl rfl ?_
  refine am_E.go (t2 := (29, [vR y, vI 1, vI t, vI num, vR a, vI 0, vI 2, vI 1, vU, vU], [], aq_h m s F c)) rfl rfl ?_
  refine am_E.go (t2 := (30, [vR y, vI 1, vI t, vI num, vR a, vI 0, vI 2, vI 1, vU, vU], [vI 0], aq_h m s F c)) rfl rfl ?_
  refine am_E.go (t2 := (32, [vR y, vI 1, vI t, vI num, vR a, vI 0, vI 2, vI 0, vU, vU], [], aq_h m s F c)) rfl rfl ?_
  exact qm_lay_1 hyy hFy ha hFa 3 0 0 (vU) (vU) c (aq_sm0 (c := c) (S := (fun b => b = a))) (by omega) (by omega) (by omega) (by omega) rfl (by omega)

theorem qm_lay_2 {m s : Nat} {F : aq_F} {c0 : aq_C} {y a : Nat} (hyy : y < m) (hFy : F y = (15, 27, mo_t y)) (ha : a < m) (hFa : F a = (0, 4, fun _ => .inl 0)) {t num : Int} {T : Int × Int} : ∀ (d : Nat) (mn : Int) (code : Int) (v8 : am_V) (v9 : am_V) (c : aq_C) (hs : aq_sm (fun b => b = a) c0 c) (h0 : 0 ≤ code) (h1 : code ≤ 9) (h2 : 0 ≤ mn) (h3 : mn ≤ code) (hl : ly 2 t num 9 d code mn = T) (hd : 9 - code < (d : Int)), am_E ac_X5_lay (32, [vR y, vI 2, vI t, vI num, vR a, vI mn, vI 9, vI code, v8, v9], [], aq_h m s F c) (aq_Z m s F (fun b => b = a) c0 (fun r d => r = some (vI T.1) ∧ (T.2 < 9 → ∀ i, 0 ≤ i → i < 2 → d a i = dg_n 2 T.2 i)))
  | 0, mn, code, v8, v9, c, hs, h0, h1, h2, h3, hl, hd => by exfalso; omega
  | d + 1, mn, code, v8, v9, c, hs, h0, h1, h2, h3, hl, hd => by
    refine am_E.go (t2 := (34, [vR y, vI 2, vI t, vI num, vR a, vI mn, vI 9, vI code, v8, v9], [vI code], aq_h m s F c)) rfl rfl ?_
    refine am_E.go (t2 := (36, [vR y, vI 2, vI t, vI num, vR a, vI mn, vI 9, vI code, v8, v9], [vI 9, vI code], aq_h m s F c)) rfl rfl ?_
    refine ae_icmp rfl (fun (q_1 : 9 ≤ code) => ?_) (fun (q_1 : code < 9) => ?_)
    · refine am_E.go (t2 := (108, [vR y, vI 2, vI t, vI num, vR a, vI mn, vI 9, vI code, v8, v9], [vI mn], aq_h m s F c)) rfl rfl ?_
      refine am_E.ret rfl rfl ?_
      have eT : T = (mn, code) := by rw [← hl, ly, if_neg (by omega)]
      rw [eT]
      exact ⟨_, rfl, hs, rfl, fun h => absurd h (by show ¬ code < 9; omega)⟩
    · refine am_E.go (t2 := (41, [vR y, vI 2, vI t, vI num, vR a, vI mn, vI 9, vI code, v8, v9], [vI code], aq_h m s F c)) rfl rfl ?_
      refine am_E.go (t2 := (43, [vR y, vI 2, vI t, vI num, vR a, vI mn, vI 9, vI code, vI code, v9], [], aq_h m s F c)) rfl rfl ?_
      refine am_E.go (t2 := (44, [vR y, vI 2, vI t, vI num, vR a, vI mn, vI 9, vI code, vI code, v9], [vI 2], aq_h m s F c)) rfl rfl ?_
      refine am_E.go (t2 := (45, [vR y, vI 2, vI t, vI num, vR a, vI mn, vI 9, vI code, vI code, v9], [vI 1, vI 2], aq_h m s F c)) rfl rfl ?_
      refine am_E.go (t2 := (46, [vR y, vI 2, vI t, vI num, vR a, vI mn, vI 9, vI code, vI code, v9], [vI 1], aq_h m s F c)) rfl rfl ?_
      refine am_E.go (t2 := (48, [vR y, vI 2, vI t, vI num, vR a, vI mn, vI 9, vI code, vI code, vI 1], [], aq_h m s F c)) rfl rfl ?_
      refine am_E.go (t2 := (50, [vR y, vI 2, vI t, vI num, vR a, vI mn, vI 9, vI code, vI code, vI 1], [vI 1], aq_h m s F c)) rfl rfl ?_
      refine am_E.go (t2 := (53, [vR y, vI 2, vI t, vI num, vR a, vI mn, vI 9, vI code, vI code, vI 1], [], aq_h m s F c)) rfl rfl ?_
      refine am_E.go (t2 := (55, [vR y, vI 2, vI t, vI num, vR a, vI mn, vI 9, vI code, vI code, vI 1], [vR a], aq_h m s F c)) rfl rfl ?_
      refine am_E.go (t2 := (57, [vR y, vI 2, vI t, vI num, vR a, vI mn, vI 9, vI code, vI code, vI 1], [vI 1, vR a], aq_h m s F c)) rfl rfl ?_
      refine am_E.go (t2 := (59, [vR y, vI 2, vI t, vI num, vR a, vI mn, vI 9, vI code, vI code, vI 1], [vI code, vI 1, vR a], aq_h m s F c)) rfl rfl ?_
      refine am_E.go (t2 := (60, [vR y, vI 2, vI t, vI num, vR a, vI mn, vI 9, vI code, vI code, vI 1], [vI 2, vI code, vI 1, vR a], aq_h m s F c)) rfl rfl ?_
      refine am_E.go (t2 := (61, [vR y, vI 2, vI t, vI num, vR a, vI mn, vI 9, vI code, vI code, vI 1], [vI 1, vI 2, vI code, vI 1, vR a], aq_h m s F c)) rfl rfl ?_
      refine am_E.go (t2 := (62, [vR y, vI 2, vI t, vI num, vR a, vI mn, vI 9, vI code, vI code, vI 1], [vI 3, vI code, vI 1, vR a], aq_h m s F c)) rfl rfl ?_
      refine ae_bin (z := code % 3) rfl rfl (am_rem_e (by omega) (by decide)) ?_
      show am_E _ (63, [vR y, vI 2, vI t, vI num, vR a, vI mn, vI 9, vI code, vI code, vI 1], [vI (code % 3), vI 1, vR a], aq_h m s F c) _
      refine aq_as (kd := 0) rfl rfl ha hFa (by omega) (by omega) rfl rfl ?_
      show am_E _ (64, [vR y, vI 2, vI t, vI num, vR a, vI mn, vI 9, vI code, vI code, vI 1], [], aq_h m s F (aq_u c a 1 (code % 3))) _
      generalize hdc_2 : aq_u c a 1 (code % 3) = c_2
      have sc_2 := aq_smu hs hdc_2 rfl
      refine am_E.go (t2 := (66, [vR y, vI 2, vI t, vI num, vR a, vI mn, vI 9, vI code, vI code, vI 1], [vI code], aq_h m s F c_2)) rfl rfl ?_
      refine am_E.go (t2 := (67, [vR y, vI 2, vI t, vI num, vR a, vI mn, vI 9, vI code, vI code, vI 1], [vI 2, vI code], aq_h m s F c_2)) rfl rfl ?_
      refine am_E.go (t2 := (68, [vR y, vI 2, vI t, vI num, vR a, vI mn, vI 9, vI code, vI code, vI 1], [vI 1, vI 2, vI code], aq_h m s F c_2)) rfl rfl ?_
      refine am_E.go (t2 := (69, [vR y, vI 2, vI t, vI num, vR a, vI mn, vI 9, vI code, vI code, vI 1], [vI 3, vI code], aq_h m s F c_2)) rfl rfl ?_
      refine ae_bin (z := code / 3) rfl rfl (am_div_e (by omega) (by omega) (by decide)) ?_
      show am_E _ (70, [vR y, vI 2, vI t, vI num, vR a, vI mn, vI 9, vI code, vI code, vI 1], [vI (code / 3)], aq_h m s F c_2) _
      refine am_E.go (t2 := (72, [vR y, vI 2, vI t, vI num, vR a, vI mn, vI 9, vI code, vI (code / 3), vI 1], [], aq_h m s F c_2)) rfl rfl ?_
      refine am_E.go (t2 := (75, [vR y, vI 2, vI t, vI num, vR a, vI mn, vI 9, vI code, vI (code / 3), vI 0], [], aq_h m s F c_2)) rfl rfl ?_
      refine am_E.go (t2 := (48, [vR y, vI 2, vI t, vI num, vR a, vI mn, vI 9, vI code, vI (code / 3), vI 0], [], aq_h m s F c_2)) rfl rfl ?_
      refine am_E.go (t2 := (50, [vR y, vI 2, vI t, vI num, vR a, vI mn, vI 9, vI code, vI (code / 3), vI 0], [vI 0], aq_h m s F c_2)) rfl rfl ?_
      refine am_E.go (t2 := (53, [vR y, vI 2, vI t, vI num, vR a, vI mn, vI 9, vI code, vI (code / 3), vI 0], [], aq_h m s F c_2)) rfl rfl ?_
      refine am_E.go (t2 := (55, [vR y, vI 2, vI t, vI num, vR a, vI mn, vI 9, vI code, vI (code / 3), vI 0], [vR a], aq_h m s F c_2)) rfl rfl ?_
      refine am_E.go (t2 := (57, [vR y, vI 2, vI t, vI num, vR a, vI mn, vI 9, vI code, vI (code / 3), vI 0], [vI 0, vR a], aq_h m s F c_2)) rfl rfl ?_
      refine am_E.go (t2 := (59, [vR y, vI 2, vI t, vI num, vR a, vI mn, vI 9, vI code, vI (code / 3), vI 0], [vI (code / 3), vI 0, vR a], aq_h m s F c_2)) rfl rfl ?_
      refine am_E.go (t2 := (60, [vR y, vI 2, vI t, vI num, vR a, vI mn, vI 9, vI code, vI (code / 3), vI 0], [vI 2, vI (code / 3), vI 0, vR a], aq_h m s F c_2)) rfl rfl ?_
      refine am_E.go (t2 := (61, [vR y, vI 2, vI t, vI num, vR a, vI mn, vI 9, vI code, vI (code / 3), vI 0], [vI 1, vI 2, vI (code / 3), vI 0, vR a], aq_h m s F c_2)) rfl rfl ?_
      refine am_E.go (t2 := (62, [vR y, vI 2, vI t, vI num, vR a, vI mn, vI 9, vI code, vI (code / 3), vI 0], [vI 3, vI (code / 3), vI 0, vR a], aq_h m s F c_2)) rfl rfl ?_
      refine ae_bin (z := (code / 3) % 3) rfl rfl (am_rem_e (by omega) (by decide)) ?_
      show am_E _ (63, [vR y, vI 2, vI t, vI num, vR a, vI mn, vI 9, vI code, vI (code / 3), vI 0], [vI ((code / 3) % 3), vI 0, vR a], aq_h m s F c_2) _
      refine aq_as (kd := 0) rfl rfl ha hFa (by omega) (by omega) rfl rfl ?_
      show am_E _ (64, [vR y, vI 2, vI t, vI num, vR a, vI mn, vI 9, vI code, vI (code / 3), vI 0], [], aq_h m s F (aq_u c_2 a 0 ((code / 3) % 3))) _
      generalize hdc_3 : aq_u c_2 a 0 ((code / 3) % 3) = c_3
      have sc_3 := aq_smu sc_2 hdc_3 rfl
      refine am_E.go (t2 := (66, [vR y, vI 2, vI t, vI num, vR a, vI mn, vI 9, vI code, vI (code / 3), vI 0], [vI (code / 3)], aq_h m s F c_3)) rfl rfl ?_
      refine am_E.go (t2 := (67, [vR y, vI 2, vI t, vI num, vR a, vI mn, vI 9, vI code, vI (code / 3), vI 0], [vI 2, vI (code / 3)], aq_h m s F c_3)) rfl rfl ?_
      refine am_E.go (t2 := (68, [vR y, vI 2, vI t, vI num, vR a, vI mn, vI 9, vI code, vI (code / 3), vI 0], [vI 1, vI 2, vI (code / 3)], aq_h m s F c_3)) rfl rfl ?_
      refine am_E.go (t2 := (69, [vR y, vI 2, vI t, vI num, vR a, vI mn, vI 9, vI code, vI (code / 3), vI 0], [vI 3, vI (code / 3)], aq_h m s F c_3)) rfl rfl ?_
      refine ae_bin (z := (code / 3) / 3) rfl rfl (am_div_e (by omega) (by omega) (by decide)) ?_
      show am_E _ (70, [vR y, vI 2, vI t, vI num, vR a, vI mn, vI 9, vI code, vI (code / 3), vI 0], [vI ((code / 3) / 3)], aq_h m s F c_3) _
      refine am_E.go (t2 := (72, [vR y, vI 2, vI t, vI num, vR a, vI mn, vI 9, vI code, vI ((code / 3) / 3), vI 0], [], aq_h m s F c_3)) rfl rfl ?_
      refine am_E.go (t2 := (75, [vR y, vI 2, vI t, vI num, vR a, vI mn, vI 9, vI code, vI ((code / 3) / 3), vI (-1)], [], aq_h m s F c_3)) rfl rfl ?_
      refine am_E.go (t2 := (48, [vR y, vI 2, vI t, vI num, vR a, vI mn, vI 9, vI code, vI ((code / 3) / 3), vI (-1)], [], aq_h m s F c_3)) rfl rfl ?_
      refine am_E.go (t2 := (50, [vR y, vI 2, vI t, vI num, vR a, vI mn, vI 9, vI code, vI ((code / 3) / 3), vI (-1)], [vI (-1)], aq_h m s F c_3)) rfl rfl ?_
      refine am_E.go (t2 := (78, [vR y, vI 2, vI t, vI num, vR a, vI mn, vI 9, vI code, vI ((code / 3) / 3), vI (-1)], [], aq_h m s F c_3)) rfl rfl ?_
      refine am_E.go (t2 := (79, [vR y, vI 2, vI t, vI num, vR a, vI mn, vI 9, vI code, vI ((code / 3) / 3), vI (-1)], [vI 2], aq_h m s F c_3)) rfl rfl ?_
      refine am_E.go (t2 := (80, [vR y, vI 2, vI t, vI num, vR a, vI mn, vI 9, vI code, vI ((code / 3) / 3), vI (-1)], [vI t, vI 2], aq_h m s F c_3)) rfl rfl ?_
      refine am_E.go (t2 := (82, [vR y, vI 2, vI t, vI num, vR a, vI mn, vI 9, vI code, vI ((code / 3) / 3), vI (-1)], [vR a, vI t, vI 2], aq_h m s F c_3)) rfl rfl ?_
      have hz : ∀ i, 0 ≤ i → i < 2 → c_3 a i = dg_n 2 code i := by
        intro i h5 h6
        have h7 : i = 0 ∨ i = 1 := by omega
        rcases h7 with h7 | h7
        · rw [h7, ← hdc_3, aq_us]
          rfl
        · rw [h7, ← hdc_3, aq_un (Or.inr (by decide)), ← hdc_2, aq_us]
          rfl
      have hd5 : ∀ i, 0 ≤ i → i < 2 → 0 ≤ dg_n 2 code i ∧ dg_n 2 code i < 3 := by
        intro i h5 h6
        have h7 : i = 0 ∨ i = 1 := by omega
        rcases h7 with h7 | h7
        · rw [h7]
          show 0 ≤ code / 3 % 3 ∧ code / 3 % 3 < 3
          omega
        · rw [h7]
          show 0 ≤ code % 3 ∧ code % 3 < 3
          omega
      have hrg : aq_rg a 2 0 (2 + 1) c_3 := fun i h5 h6 => by rw [hz i h5 h6]; exact hd5 i h5 h6
      have hoc := hf_oc (n := 2) (t := t) hz (fun i h5 h6 => by have := hrg i h5 h6; omega) 6 0 0 1 (by decide)
      refine am_E.call rfl rfl rfl (Nat.le_of_ble_eq_true rfl) (qm_isHalf (n := 2) (t := t) ha hFa (by decide) (by decide) hrg) ?_
      rintro r5 h5 ⟨rfl, rfl⟩
      rw [hoc]
      show am_E _ (85, [vR y, vI 2, vI t, vI num, vR a, vI mn, vI 9, vI code, vI ((code / 3) / 3), vI (-1)], [vI (hf_o 2 t (dg_n 2 code) 6 0 0 1)], aq_h m s F c_3) _
      refine ae_if0 rfl (fun (q_4 : (hf_o 2 t (dg_n 2 code) 6 0 0 1) = 0) => ?_) (fun (q_4 : (hf_o 2 t (dg_n 2 code) 6 0 0 1) ≠ 0) => ?_)
      · have hq_h := q_4
        refine ae_iinc rfl rfl (am_ri (by omega) (by omega)) ?_
        show am_E _ (103, [vR y, vI 2, vI t, vI num, vR a, vI mn, vI 9, vI (code + 1), vI ((code / 3) / 3), vI (-1)], [], aq_h m s F c_3) _
        refine am_E.go (t2 := (32, [vR y, vI 2, vI t, vI num, vR a, vI mn, vI 9, vI (code + 1), vI ((code / 3) / 3), vI (-1)], [], aq_h m s F c_3)) rfl rfl ?_
        exact qm_lay_2 hyy hFy ha hFa d mn (code + 1) (vI ((code / 3) / 3)) (vI (-1)) c_3 sc_3 (by omega) (by omega) (by omega) (by omega) (by rw [← hl, ly, if_pos (by omega)]; first | (rw [if_pos hq_h]) | (rw [if_neg hq_h, if_neg (by omega)])) (by omega)
      · have hq_h := q_4
        refine am_E.go (t2 := (90, [vR y, vI 2, vI t, vI num, vR a, vI mn, vI 9, vI code, vI ((code / 3) / 3), vI (-1)], [vI mn], aq_h m s F c_3)) rfl rfl ?_
        refine am_E.go (t2 := (91, [vR y, vI 2, vI t, vI num, vR a, vI mn, vI 9, vI code, vI ((code / 3) / 3), vI (-1)], [vI num, vI mn], aq_h m s F c_3)) rfl rfl ?_
        refine ae_icmp rfl (fun (q_5 : mn ≠ num) => ?_) (fun (q_5 : mn = num) => ?_)
        · refine ae_iinc rfl rfl (am_ri (by omega) (by omega)) ?_
          show am_E _ (100, [vR y, vI 2, vI t, vI num, vR a, vI (mn + 1), vI 9, vI code, vI ((code / 3) / 3), vI (-1)], [], aq_h m s F c_3) _
          refine ae_iinc rfl rfl (am_ri (by omega) (by omega)) ?_
          show am_E _ (103, [vR y, vI 2, vI t, vI num, vR a, vI (mn + 1), vI 9, vI (code + 1), vI ((code / 3) / 3), vI (-1)], [], aq_h m s F c_3) _
          refine am_E.go (t2 := (32, [vR y, vI 2, vI t, vI num, vR a, vI (mn + 1), vI 9, vI (code + 1), vI ((code / 3) / 3), vI (-1)], [], aq_h m s F c_3)) rfl rfl ?_
          exact qm_lay_2 hyy hFy ha hFa d (mn + 1) (code + 1) (vI ((code / 3) / 3)) (vI (-1)) c_3 sc_3 (by omega) (by omega) (by omega) (by omega) (by rw [← hl, ly, if_pos (by omega)]; first | (rw [if_pos hq_h]) | (rw [if_neg hq_h, if_neg (by omega)])) (by omega)
        · refine am_E.go (t2 := (96, [vR y, vI 2, vI t, vI num, vR a, vI mn, vI 9, vI code, vI ((code / 3) / 3), vI (-1)], [vI mn], aq_h m s F c_3)) rfl rfl ?_
          refine am_E.ret rfl rfl ?_
          have eT : T = (mn, code) := by rw [← hl, ly, if_pos (by omega), if_neg hq_h, if_pos (by omega)]
          rw [eT]
          exact ⟨_, rfl, sc_3, rfl, fun _ => hz⟩

theorem qm_lay2 {m s : Nat} {F : aq_F} {c : aq_C} {y a : Nat} (hyy : y < m) (hFy : F y = (15, 27, mo_t y)) (ha : a < m) (hFa : F a = (0, 4, fun _ => .inl 0)) {t num : Int} : am_E ac_X5_lay (0, [vR y, vI 2, vI t, vI num, vR a, vU, vU, vU, vU, vU], [], aq_h m s F c) (aq_Z m s F (fun b => b = a) c (fun r d => r = some (vI (ly 2 t num 9 10 0 0).1) ∧ ((ly 2 t num 9 10 0 0).2 < 9 → ∀ i, 0 ≤ i → i < 2 → d a i = dg_n 2 (ly 2 t num 9 10 0 0).2 i))) := by
  refine am_E.go (t2 := (1, [vR y, vI 2, vI t, vI num, vR a, vU, vU, vU, vU, vU], [vI 0], aq_h m s F c)) rfl rfl ?_
  refine am_E.go (t2 := (3, [vR y, vI 2, vI t, vI num, vR a, vI 0, vU, vU, vU, vU], [], aq_h m s F c)) rfl rfl ?_
  refine am_E.go (t2 := (4, [vR y, vI 2, vI t, vI num, vR a, vI 0, vU, vU, vU, vU], [vI 1], aq_h m s F c)) rfl rfl ?_
  refine am_E.go (t2 := (6, [vR y, vI 2, vI t, vI num, vR a, vI 0, vI 1, vU, vU, vU], [], aq_h m s F c)) rfl rfl ?_
  refine am_E.go (t2 := (7, [vR y, vI 2, vI t, vI num, vR a, vI 0, vI 1, vU, vU, vU], [vI 0], aq_h m s F c)) rfl rfl ?_
  refine am_E.go (t2 := (9, [vR y, vI 2, vI t, vI num, vR a, vI 0, vI 1, vI 0, vU, vU], [], aq_h m s F c)) rfl rfl ?_
  refine am_E.go (t2 := (11, [vR y, vI 2, vI t, vI num, vR a, vI 0, vI 1, vI 0, vU, vU], [vI 0], aq_h m s F c)) rfl rfl ?_
  refine am_E.go (t2 := (12, [vR y, vI 2, vI t, vI num, vR a, vI 0, vI 1, vI 0, vU, vU], [vI 2, vI 0], aq_h m s F c)) rfl rfl ?_
  refine am_E.go (t2 := (15, [vR y, vI 2, vI t, vI num, vR a, vI 0, vI 1, vI 0, vU, vU], [], aq_h m s F c)) rfl rfl ?_
  refine am_E.go (t2 := (17, [vR y, vI 2, vI t, vI num, vR a, vI 0, vI 1, vI 0, vU, vU], [vI 1], aq_h m s F c)) rfl rfl ?_
  refine am_E.go (t2 := (18, [vR y, vI 2, vI t, vI num, vR a, vI 0, vI 1, vI 0, vU, vU], [vI 2, vI 1], aq_h m s F c)) rfl rfl ?_
  refine am_E.go (t2 := (19, [vR y, vI 2, vI t, vI num, vR a, vI 0, vI 1, vI 0, vU, vU], [vI 1, vI 2, vI 1], aq_h m s F c)) rfl rfl ?_
  refine am_E.go (t2 := (20, [vR y, vI 2, vI t, vI num, vR a, vI 0, vI 1, vI 0, vU, vU], [vI 3, vI 1], aq_h m s F c)) rfl rfl ?_
  refine am_E.go (t2 := (21, [vR y, vI 2, vI t, vI num, vR a, vI 0, vI 1, vI 0, vU, vU], [vI 3], aq_h m s F c)) rfl rfl ?_
  refine am_E.go (t2 := (23, [vR y, vI 2, vI t, vI num, vR a, vI 0, vI 3, vI 0, vU, vU], [], aq_h m s F c)) rfl rfl ?_
  refine am_E.go (t2 := (26, [vR y, vI 2, vI t, vI num, vR a, vI 0, vI 3, vI 1, vU, vU], [], aq_h m s F c)) rfl rfl ?_
  refine am_E.go (t2 := (9, [vR y, vI 2, vI t, vI num, vR a, vI 0, vI 3, vI 1, vU, vU], [], aq_h m s F c)) rfl rfl ?_
  refine am_E.go (t2 := (11, [vR y, vI 2, vI t, vI num, vR a, vI 0, vI 3, vI 1, vU, vU], [vI 1], aq_h m s F c)) rfl rfl ?_
  refine am_E.go (t2 := (12, [vR y, vI 2, vI t, vI num, vR a, vI 0, vI 3, vI 1, vU, vU], [vI 2, vI 1], aq_h m s F c)) rfl rfl ?_
  refine am_E.go (t2 := (15, [vR y, vI 2, vI t, vI num, vR a, vI 0, vI 3, vI 1, vU, vU], [], aq_h m s F c)) rfl rfl ?_
  refine am_E.go (t2 := (17, [vR y, vI 2, vI t, vI num, vR a, vI 0, vI 3, vI 1, vU, vU], [vI 3], aq_h m s F c)) rfl rfl ?_
  refine am_E.go (t2 := (18, [vR y, vI 2, vI t, vI num, vR a, vI 0, vI 3, vI 1, vU, vU], [vI 2, vI 3], aq_h m s F c)) rfl rfl ?_
  refine am_E.go (t2 := (19, [vR y, vI 2, vI t, vI num, vR a, vI 0, vI 3, vI 1, vU, vU], [vI 1, vI 2, vI 3], aq_h m s F c)) rfl rfl ?_
  refine am_E.go (t2 := (20, [vR y, vI 2, vI t, vI num, vR a, vI 0, vI 3, vI 1, vU, vU], [vI 3, vI 3], aq_h m s F c)) rfl rfl ?_
  refine am_E.go (t2 := (21, [vR y, vI 2, vI t, vI num, vR a, vI 0, vI 3, vI 1, vU, vU], [vI 9], aq_h m s F c)) rfl rfl ?_
  refine am_E.go (t2 := (23, [vR y, vI 2, vI t, vI num, vR a, vI 0, vI 9, vI 1, vU, vU], [], aq_h m s F c)) rfl rfl ?_
  refine am_E.go (t2 := (26, [vR y, vI 2, vI t, vI num, vR a, vI 0, vI 9, vI 2, vU, vU], [], aq_h m s F c)) rfl rfl ?_
  refine am_E.go (t2 := (9, [vR y, vI 2, vI t, vI num, vR a, vI 0, vI 9, vI 2, vU, vU], [], aq_h m s F c)) rfl rfl ?_
  refine am_E.go (t2 := (11, [vR y, vI 2, vI t, vI num, vR a, vI 0, vI 9, vI 2, vU, vU], [vI 2], aq_h m s F c)) rfl rfl ?_
  refine am_E.go (t2 := (12, [vR y, vI 2, vI t, vI num, vR a, vI 0, vI 9, vI 2, vU, vU], [vI 2, vI 2], aq_h m s F c)) rfl rfl ?_
  refine am_E.go (t2 := (29, [vR y, vI 2, vI t, vI num, vR a, vI 0, vI 9, vI 2, vU, vU], [], aq_h m s F c)) rfl rfl ?_
  refine am_E.go (t2 := (30, [vR y, vI 2, vI t, vI num, vR a, vI 0, vI 9, vI 2, vU, vU], [vI 0], aq_h m s F c)) rfl rfl ?_
  refine am_E.go (t2 := (32, [vR y, vI 2, vI t, vI num, vR a, vI 0, vI 9, vI 0, vU, vU], [], aq_h m s F c)) rfl rfl ?_
  exact qm_lay_2 hyy hFy ha hFa 10 0 0 (vU) (vU) c (aq_sm0 (c := c) (S := (fun b => b = a))) (by omega) (by omega) (by omega) (by omega) rfl (by omega)

theorem qm_lay_3 {m s : Nat} {F : aq_F} {c0 : aq_C} {y a : Nat} (hyy : y < m) (hFy : F y = (15, 27, mo_t y)) (ha : a < m) (hFa : F a = (0, 4, fun _ => .inl 0)) {t num : Int} {T : Int × Int} : ∀ (d : Nat) (mn : Int) (code : Int) (v8 : am_V) (v9 : am_V) (c : aq_C) (hs : aq_sm (fun b => b = a) c0 c) (h0 : 0 ≤ code) (h1 : code ≤ 64) (h2 : 0 ≤ mn) (h3 : mn ≤ code) (hl : ly 3 t num 64 d code mn = T) (hd : 64 - code < (d : Int)), am_E ac_X5_lay (32, [vR y, vI 3, vI t, vI num, vR a, vI mn, vI 64, vI code, v8, v9], [], aq_h m s F c) (aq_Z m s F (fun b => b = a) c0 (fun r d => r = some (vI T.1) ∧ (T.2 < 64 → ∀ i, 0 ≤ i → i < 3 → d a i = dg_n 3 T.2 i)))
  | 0, mn, code, v8, v9, c, hs, h0, h1, h2, h3, hl, hd => by exfalso; omega
  | d + 1, mn, code, v8, v9, c, hs, h0, h1, h2, h3, hl, hd => by
    refine am_E.go (t2 := (34, [vR y, vI 3, vI t, vI num, vR a, vI mn, vI 64, vI code, v8, v9], [vI code], aq_h m s F c)) rfl rfl ?_
    refine am_E.go (t2 := (36, [vR y, vI 3, vI t, vI num, vR a, vI mn, vI 64, vI code, v8, v9], [vI 64, vI code], aq_h m s F c)) rfl rfl ?_
    refine ae_icmp rfl (fun (q_1 : 64 ≤ code) => ?_) (fun (q_1 : code < 64) => ?_)
    · refine am_E.go (t2 := (108, [vR y, vI 3, vI t, vI num, vR a, vI mn, vI 64, vI code, v8, v9], [vI mn], aq_h m s F c)) rfl rfl ?_
      refine am_E.ret rfl rfl ?_
      have eT : T = (mn, code) := by rw [← hl, ly, if_neg (by omega)]
      rw [eT]
      exact ⟨_, rfl, hs, rfl, fun h => absurd h (by show ¬ code < 64; omega)⟩
    · refine am_E.go (t2 := (41, [vR y, vI 3, vI t, vI num, vR a, vI mn, vI 64, vI code, v8, v9], [vI code], aq_h m s F c)) rfl rfl ?_
      refine am_E.go (t2 := (43, [vR y, vI 3, vI t, vI num, vR a, vI mn, vI 64, vI code, vI code, v9], [], aq_h m s F c)) rfl rfl ?_
      refine am_E.go (t2 := (44, [vR y, vI 3, vI t, vI num, vR a, vI mn, vI 64, vI code, vI code, v9], [vI 3], aq_h m s F c)) rfl rfl ?_
      refine am_E.go (t2 := (45, [vR y, vI 3, vI t, vI num, vR a, vI mn, vI 64, vI code, vI code, v9], [vI 1, vI 3], aq_h m s F c)) rfl rfl ?_
      refine am_E.go (t2 := (46, [vR y, vI 3, vI t, vI num, vR a, vI mn, vI 64, vI code, vI code, v9], [vI 2], aq_h m s F c)) rfl rfl ?_
      refine am_E.go (t2 := (48, [vR y, vI 3, vI t, vI num, vR a, vI mn, vI 64, vI code, vI code, vI 2], [], aq_h m s F c)) rfl rfl ?_
      refine am_E.go (t2 := (50, [vR y, vI 3, vI t, vI num, vR a, vI mn, vI 64, vI code, vI code, vI 2], [vI 2], aq_h m s F c)) rfl rfl ?_
      refine am_E.go (t2 := (53, [vR y, vI 3, vI t, vI num, vR a, vI mn, vI 64, vI code, vI code, vI 2], [], aq_h m s F c)) rfl rfl ?_
      refine am_E.go (t2 := (55, [vR y, vI 3, vI t, vI num, vR a, vI mn, vI 64, vI code, vI code, vI 2], [vR a], aq_h m s F c)) rfl rfl ?_
      refine am_E.go (t2 := (57, [vR y, vI 3, vI t, vI num, vR a, vI mn, vI 64, vI code, vI code, vI 2], [vI 2, vR a], aq_h m s F c)) rfl rfl ?_
      refine am_E.go (t2 := (59, [vR y, vI 3, vI t, vI num, vR a, vI mn, vI 64, vI code, vI code, vI 2], [vI code, vI 2, vR a], aq_h m s F c)) rfl rfl ?_
      refine am_E.go (t2 := (60, [vR y, vI 3, vI t, vI num, vR a, vI mn, vI 64, vI code, vI code, vI 2], [vI 3, vI code, vI 2, vR a], aq_h m s F c)) rfl rfl ?_
      refine am_E.go (t2 := (61, [vR y, vI 3, vI t, vI num, vR a, vI mn, vI 64, vI code, vI code, vI 2], [vI 1, vI 3, vI code, vI 2, vR a], aq_h m s F c)) rfl rfl ?_
      refine am_E.go (t2 := (62, [vR y, vI 3, vI t, vI num, vR a, vI mn, vI 64, vI code, vI code, vI 2], [vI 4, vI code, vI 2, vR a], aq_h m s F c)) rfl rfl ?_
      refine ae_bin (z := code % 4) rfl rfl (am_rem_e (by omega) (by decide)) ?_
      show am_E _ (63, [vR y, vI 3, vI t, vI num, vR a, vI mn, vI 64, vI code, vI code, vI 2], [vI (code % 4), vI 2, vR a], aq_h m s F c) _
      refine aq_as (kd := 0) rfl rfl ha hFa (by omega) (by omega) rfl rfl ?_
      show am_E _ (64, [vR y, vI 3, vI t, vI num, vR a, vI mn, vI 64, vI code, vI code, vI 2], [], aq_h m s F (aq_u c a 2 (code % 4))) _
      generalize hdc_2 : aq_u c a 2 (code % 4) = c_2
      have sc_2 := aq_smu hs hdc_2 rfl
      refine am_E.go (t2 := (66, [vR y, vI 3, vI t, vI num, vR a, vI mn, vI 64, vI code, vI code, vI 2], [vI code], aq_h m s F c_2)) rfl rfl ?_
      refine am_E.go (t2 := (67, [vR y, vI 3, vI t, vI num, vR a, vI mn, vI 64, vI code, vI code, vI 2], [vI 3, vI code], aq_h m s F c_2)) rfl rfl ?_
      refine am_E.go (t2 := (68, [vR y, vI 3, vI t, vI num, vR a, vI mn, vI 64, vI code, vI code, vI 2], [vI 1, vI 3, vI code], aq_h m s F c_2)) rfl rfl ?_
      refine am_E.go (t2 := (69, [vR y, vI 3, vI t, vI num, vR a, vI mn, vI 64, vI code, vI code, vI 2], [vI 4, vI code], aq_h m s F c_2)) rfl rfl ?_
      refine ae_bin (z := code / 4) rfl rfl (am_div_e (by omega) (by omega) (by decide)) ?_
      show am_E _ (70, [vR y, vI 3, vI t, vI num, vR a, vI mn, vI 64, vI code, vI code, vI 2], [vI (code / 4)], aq_h m s F c_2) _
      refine am_E.go (t2 := (72, [vR y, vI 3, vI t, vI num, vR a, vI mn, vI 64, vI code, vI (code / 4), vI 2], [], aq_h m s F c_2)) rfl rfl ?_
      refine am_E.go (t2 := (75, [vR y, vI 3, vI t, vI num, vR a, vI mn, vI 64, vI code, vI (code / 4), vI 1], [], aq_h m s F c_2)) rfl rfl ?_
      refine am_E.go (t2 := (48, [vR y, vI 3, vI t, vI num, vR a, vI mn, vI 64, vI code, vI (code / 4), vI 1], [], aq_h m s F c_2)) rfl rfl ?_
      refine am_E.go (t2 := (50, [vR y, vI 3, vI t, vI num, vR a, vI mn, vI 64, vI code, vI (code / 4), vI 1], [vI 1], aq_h m s F c_2)) rfl rfl ?_
      refine am_E.go (t2 := (53, [vR y, vI 3, vI t, vI num, vR a, vI mn, vI 64, vI code, vI (code / 4), vI 1], [], aq_h m s F c_2)) rfl rfl ?_
      refine am_E.go (t2 := (55, [vR y, vI 3, vI t, vI num, vR a, vI mn, vI 64, vI code, vI (code / 4), vI 1], [vR a], aq_h m s F c_2)) rfl rfl ?_
      refine am_E.go (t2 := (57, [vR y, vI 3, vI t, vI num, vR a, vI mn, vI 64, vI code, vI (code / 4), vI 1], [vI 1, vR a], aq_h m s F c_2)) rfl rfl ?_
      refine am_E.go (t2 := (59, [vR y, vI 3, vI t, vI num, vR a, vI mn, vI 64, vI code, vI (code / 4), vI 1], [vI (code / 4), vI 1, vR a], aq_h m s F c_2)) rfl rfl ?_
      refine am_E.go (t2 := (60, [vR y, vI 3, vI t, vI num, vR a, vI mn, vI 64, vI code, vI (code / 4), vI 1], [vI 3, vI (code / 4), vI 1, vR a], aq_h m s F c_2)) rfl rfl ?_
      refine am_E.go (t2 := (61, [vR y, vI 3, vI t, vI num, vR a, vI mn, vI 64, vI code, vI (code / 4), vI 1], [vI 1, vI 3, vI (code / 4), vI 1, vR a], aq_h m s F c_2)) rfl rfl ?_
      refine am_E.go (t2 := (62, [vR y, vI 3, vI t, vI num, vR a, vI mn, vI 64, vI code, vI (code / 4), vI 1], [vI 4, vI (code / 4), vI 1, vR a], aq_h m s F c_2)) rfl rfl ?_
      refine ae_bin (z := (code / 4) % 4) rfl rfl (am_rem_e (by omega) (by decide)) ?_
      show am_E _ (63, [vR y, vI 3, vI t, vI num, vR a, vI mn, vI 64, vI code, vI (code / 4), vI 1], [vI ((code / 4) % 4), vI 1, vR a], aq_h m s F c_2) _
      refine aq_as (kd := 0) rfl rfl ha hFa (by omega) (by omega) rfl rfl ?_
      show am_E _ (64, [vR y, vI 3, vI t, vI num, vR a, vI mn, vI 64, vI code, vI (code / 4), vI 1], [], aq_h m s F (aq_u c_2 a 1 ((code / 4) % 4))) _
      generalize hdc_3 : aq_u c_2 a 1 ((code / 4) % 4) = c_3
      have sc_3 := aq_smu sc_2 hdc_3 rfl
      refine am_E.go (t2 := (66, [vR y, vI 3, vI t, vI num, vR a, vI mn, vI 64, vI code, vI (code / 4), vI 1], [vI (code / 4)], aq_h m s F c_3)) rfl rfl ?_
      refine am_E.go (t2 := (67, [vR y, vI 3, vI t, vI num, vR a, vI mn, vI 64, vI code, vI (code / 4), vI 1], [vI 3, vI (code / 4)], aq_h m s F c_3)) rfl rfl ?_
      refine am_E.go (t2 := (68, [vR y, vI 3, vI t, vI num, vR a, vI mn, vI 64, vI code, vI (code / 4), vI 1], [vI 1, vI 3, vI (code / 4)], aq_h m s F c_3)) rfl rfl ?_
      refine am_E.go (t2 := (69, [vR y, vI 3, vI t, vI num, vR a, vI mn, vI 64, vI code, vI (code / 4), vI 1], [vI 4, vI (code / 4)], aq_h m s F c_3)) rfl rfl ?_
      refine ae_bin (z := (code / 4) / 4) rfl rfl (am_div_e (by omega) (by omega) (by decide)) ?_
      show am_E _ (70, [vR y, vI 3, vI t, vI num, vR a, vI mn, vI 64, vI code, vI (code / 4), vI 1], [vI ((code / 4) / 4)], aq_h m s F c_3) _
      refine am_E.go (t2 := (72, [vR y, vI 3, vI t, vI num, vR a, vI mn, vI 64, vI code, vI ((code / 4) / 4), vI 1], [], aq_h m s F c_3)) rfl rfl ?_
      refine am_E.go (t2 := (75, [vR y, vI 3, vI t, vI num, vR a, vI mn, vI 64, vI code, vI ((code / 4) / 4), vI 0], [], aq_h m s F c_3)) rfl rfl ?_
      refine am_E.go (t2 := (48, [vR y, vI 3, vI t, vI num, vR a, vI mn, vI 64, vI code, vI ((code / 4) / 4), vI 0], [], aq_h m s F c_3)) rfl rfl ?_
      refine am_E.go (t2 := (50, [vR y, vI 3, vI t, vI num, vR a, vI mn, vI 64, vI code, vI ((code / 4) / 4), vI 0], [vI 0], aq_h m s F c_3)) rfl rfl ?_
      refine am_E.go (t2 := (53, [vR y, vI 3, vI t, vI num, vR a, vI mn, vI 64, vI code, vI ((code / 4) / 4), vI 0], [], aq_h m s F c_3)) rfl rfl ?_
      refine am_E.go (t2 := (55, [vR y, vI 3, vI t, vI num, vR a, vI mn, vI 64, vI code, vI ((code / 4) / 4), vI 0], [vR a], aq_h m s F c_3)) rfl rfl ?_
      refine am_E.go (t2 := (57, [vR y, vI 3, vI t, vI num, vR a, vI mn, vI 64, vI code, vI ((code / 4) / 4), vI 0], [vI 0, vR a], aq_h m s F c_3)) rfl rfl ?_
      refine am_E.go (t2 := (59, [vR y, vI 3, vI t, vI num, vR a, vI mn, vI 64, vI code, vI ((code / 4) / 4), vI 0], [vI ((code / 4) / 4), vI 0, vR a], aq_h m s F c_3)) rfl rfl ?_
      refine am_E.go (t2 := (60, [vR y, vI 3, vI t, vI num, vR a, vI mn, vI 64, vI code, vI ((code / 4) / 4), vI 0], [vI 3, vI ((code / 4) / 4), vI 0, vR a], aq_h m s F c_3)) rfl rfl ?_
      refine am_E.go (t2 := (61, [vR y, vI 3, vI t, vI num, vR a, vI mn, vI 64, vI code, vI ((code / 4) / 4), vI 0], [vI 1, vI 3, vI ((code / 4) / 4), vI 0, vR a], aq_h m s F c_3)) rfl rfl ?_
      refine am_E.go (t2 := (62, [vR y, vI 3, vI t, vI num, vR a, vI mn, vI 64, vI code, vI ((code / 4) / 4), vI 0], [vI 4, vI ((code / 4) / 4), vI 0, vR a], aq_h m s F c_3)) rfl rfl ?_
      refine ae_bin (z := ((code / 4) / 4) % 4) rfl rfl (am_rem_e (by omega) (by decide)) ?_
      show am_E _ (63, [vR y, vI 3, vI t, vI num, vR a, vI mn, vI 64, vI code, vI ((code / 4) / 4), vI 0], [vI (((code / 4) / 4) % 4), vI 0, vR a], aq_h m s F c_3) _
      refine aq_as (kd := 0) rfl rfl ha hFa (by omega) (by omega) rfl rfl ?_
      show am_E _ (64, [vR y, vI 3, vI t, vI num, vR a, vI mn, vI 64, vI code, vI ((code / 4) / 4), vI 0], [], aq_h m s F (aq_u c_3 a 0 (((code / 4) / 4) % 4))) _
      generalize hdc_4 : aq_u c_3 a 0 (((code / 4) / 4) % 4) = c_4
      have sc_4 := aq_smu sc_3 hdc_4 rfl
      refine am_E.go (t2 := (66, [vR y, vI 3, vI t, vI num, vR a, vI mn, vI 64, vI code, vI ((code / 4) / 4), vI 0], [vI ((code / 4) / 4)], aq_h m s F c_4)) rfl rfl ?_
      refine am_E.go (t2 := (67, [vR y, vI 3, vI t, vI num, vR a, vI mn, vI 64, vI code, vI ((code / 4) / 4), vI 0], [vI 3, vI ((code / 4) / 4)], aq_h m s F c_4)) rfl rfl ?_
      refine am_E.go (t2 := (68, [vR y, vI 3, vI t, vI num, vR a, vI mn, vI 64, vI code, vI ((code / 4) / 4), vI 0], [vI 1, vI 3, vI ((code / 4) / 4)], aq_h m s F c_4)) rfl rfl ?_
      refine am_E.go (t2 := (69, [vR y, vI 3, vI t, vI num, vR a, vI mn, vI 64, vI code, vI ((code / 4) / 4), vI 0], [vI 4, vI ((code / 4) / 4)], aq_h m s F c_4)) rfl rfl ?_
      refine ae_bin (z := ((code / 4) / 4) / 4) rfl rfl (am_div_e (by omega) (by omega) (by decide)) ?_
      show am_E _ (70, [vR y, vI 3, vI t, vI num, vR a, vI mn, vI 64, vI code, vI ((code / 4) / 4), vI 0], [vI (((code / 4) / 4) / 4)], aq_h m s F c_4) _
      refine am_E.go (t2 := (72, [vR y, vI 3, vI t, vI num, vR a, vI mn, vI 64, vI code, vI (((code / 4) / 4) / 4), vI 0], [], aq_h m s F c_4)) rfl rfl ?_
      refine am_E.go (t2 := (75, [vR y, vI 3, vI t, vI num, vR a, vI mn, vI 64, vI code, vI (((code / 4) / 4) / 4), vI (-1)], [], aq_h m s F c_4)) rfl rfl ?_
      refine am_E.go (t2 := (48, [vR y, vI 3, vI t, vI num, vR a, vI mn, vI 64, vI code, vI (((code / 4) / 4) / 4), vI (-1)], [], aq_h m s F c_4)) rfl rfl ?_
      refine am_E.go (t2 := (50, [vR y, vI 3, vI t, vI num, vR a, vI mn, vI 64, vI code, vI (((code / 4) / 4) / 4), vI (-1)], [vI (-1)], aq_h m s F c_4)) rfl rfl ?_
      refine am_E.go (t2 := (78, [vR y, vI 3, vI t, vI num, vR a, vI mn, vI 64, vI code, vI (((code / 4) / 4) / 4), vI (-1)], [], aq_h m s F c_4)) rfl rfl ?_
      refine am_E.go (t2 := (79, [vR y, vI 3, vI t, vI num, vR a, vI mn, vI 64, vI code, vI (((code / 4) / 4) / 4), vI (-1)], [vI 3], aq_h m s F c_4)) rfl rfl ?_
      refine am_E.go (t2 := (80, [vR y, vI 3, vI t, vI num, vR a, vI mn, vI 64, vI code, vI (((code / 4) / 4) / 4), vI (-1)], [vI t, vI 3], aq_h m s F c_4)) rfl rfl ?_
      refine am_E.go (t2 := (82, [vR y, vI 3, vI t, vI num, vR a, vI mn, vI 64, vI code, vI (((code / 4) / 4) / 4), vI (-1)], [vR a, vI t, vI 3], aq_h m s F c_4)) rfl rfl ?_
      have hz : ∀ i, 0 ≤ i → i < 3 → c_4 a i = dg_n 3 code i := by
        intro i h5 h6
        have h7 : i = 0 ∨ i = 1 ∨ i = 2 := by omega
        rcases h7 with h7 | h7 | h7
        · rw [h7, ← hdc_4, aq_us]
          rfl
        · rw [h7, ← hdc_4, aq_un (Or.inr (by decide)), ← hdc_3, aq_us]
          rfl
        · rw [h7, ← hdc_4, aq_un (Or.inr (by decide)), ← hdc_3, aq_un (Or.inr (by decide)), ← hdc_2, aq_us]
          rfl
      have hd5 : ∀ i, 0 ≤ i → i < 3 → 0 ≤ dg_n 3 code i ∧ dg_n 3 code i < 4 := by
        intro i h5 h6
        have h7 : i = 0 ∨ i = 1 ∨ i = 2 := by omega
        rcases h7 with h7 | h7 | h7
        · rw [h7]
          show 0 ≤ code / 4 / 4 % 4 ∧ code / 4 / 4 % 4 < 4
          omega
        · rw [h7]
          show 0 ≤ code / 4 % 4 ∧ code / 4 % 4 < 4
          omega
        · rw [h7]
          show 0 ≤ code % 4 ∧ code % 4 < 4
          omega
      have hrg : aq_rg a 3 0 (3 + 1) c_4 := fun i h5 h6 => by rw [hz i h5 h6]; exact hd5 i h5 h6
      have hoc := hf_oc (n := 3) (t := t) hz (fun i h5 h6 => by have := hrg i h5 h6; omega) 6 0 0 1 (by decide)
      refine am_E.call rfl rfl rfl (Nat.le_of_ble_eq_true rfl) (qm_isHalf (n := 3) (t := t) ha hFa (by decide) (by decide) hrg) ?_
      rintro r5 h5 ⟨rfl, rfl⟩
      rw [hoc]
      show am_E _ (85, [vR y, vI 3, vI t, vI num, vR a, vI mn, vI 64, vI code, vI (((code / 4) / 4) / 4), vI (-1)], [vI (hf_o 3 t (dg_n 3 code) 6 0 0 1)], aq_h m s F c_4) _
      refine ae_if0 rfl (fun (q_5 : (hf_o 3 t (dg_n 3 code) 6 0 0 1) = 0) => ?_) (fun (q_5 : (hf_o 3 t (dg_n 3 code) 6 0 0 1) ≠ 0) => ?_)
      · have hq_h := q_5
        refine ae_iinc rfl rfl (am_ri (by omega) (by omega)) ?_
        show am_E _ (103, [vR y, vI 3, vI t, vI num, vR a, vI mn, vI 64, vI (code + 1), vI (((code / 4) / 4) / 4), vI (-1)], [], aq_h m s F c_4) _
        refine am_E.go (t2 := (32, [vR y, vI 3, vI t, vI num, vR a, vI mn, vI 64, vI (code + 1), vI (((code / 4) / 4) / 4), vI (-1)], [], aq_h m s F c_4)) rfl rfl ?_
        exact qm_lay_3 hyy hFy ha hFa d mn (code + 1) (vI (((code / 4) / 4) / 4)) (vI (-1)) c_4 sc_4 (by omega) (by omega) (by omega) (by omega) (by rw [← hl, ly, if_pos (by omega)]; first | (rw [if_pos hq_h]) | (rw [if_neg hq_h, if_neg (by omega)])) (by omega)
      · have hq_h := q_5
        refine am_E.go (t2 := (90, [vR y, vI 3, vI t, vI num, vR a, vI mn, vI 64, vI code, vI (((code / 4) / 4) / 4), vI (-1)], [vI mn], aq_h m s F c_4)) rfl rfl ?_
        refine am_E.go (t2 := (91, [vR y, vI 3, vI t, vI num, vR a, vI mn, vI 64, vI code, vI (((code / 4) / 4) / 4), vI (-1)], [vI num, vI mn], aq_h m s F c_4)) rfl rfl ?_
        refine ae_icmp rfl (fun (q_6 : mn ≠ num) => ?_) (fun (q_6 : mn = num) => ?_)
        · refine ae_iinc rfl rfl (am_ri (by omega) (by omega)) ?_
          show am_E _ (100, [vR y, vI 3, vI t, vI num, vR a, vI (mn + 1), vI 64, vI code, vI (((code / 4) / 4) / 4), vI (-1)], [], aq_h m s F c_4) _
          refine ae_iinc rfl rfl (am_ri (by omega) (by omega)) ?_
          show am_E _ (103, [vR y, vI 3, vI t, vI num, vR a, vI (mn + 1), vI 64, vI (code + 1), vI (((code / 4) / 4) / 4), vI (-1)], [], aq_h m s F c_4) _
          refine am_E.go (t2 := (32, [vR y, vI 3, vI t, vI num, vR a, vI (mn + 1), vI 64, vI (code + 1), vI (((code / 4) / 4) / 4), vI (-1)], [], aq_h m s F c_4)) rfl rfl ?_
          exact qm_lay_3 hyy hFy ha hFa d (mn + 1) (code + 1) (vI (((code / 4) / 4) / 4)) (vI (-1)) c_4 sc_4 (by omega) (by omega) (by omega) (by omega) (by rw [← hl, ly, if_pos (by omega)]; first | (rw [if_pos hq_h]) | (rw [if_neg hq_h, if_neg (by omega)])) (by omega)
        · refine am_E.go (t2 := (96, [vR y, vI 3, vI t, vI num, vR a, vI mn, vI 64, vI code, vI (((code / 4) / 4) / 4), vI (-1)], [vI mn], aq_h m s F c_4)) rfl rfl ?_
          refine am_E.ret rfl rfl ?_
          have eT : T = (mn, code) := by rw [← hl, ly, if_pos (by omega), if_neg hq_h, if_pos (by omega)]
          rw [eT]
          exact ⟨_, rfl, sc_4, rfl, fun _ => hz⟩

theorem qm_lay3 {m s : Nat} {F : aq_F} {c : aq_C} {y a : Nat} (hyy : y < m) (hFy : F y = (15, 27, mo_t y)) (ha : a < m) (hFa : F a = (0, 4, fun _ => .inl 0)) {t num : Int} : am_E ac_X5_lay (0, [vR y, vI 3, vI t, vI num, vR a, vU, vU, vU, vU, vU], [], aq_h m s F c) (aq_Z m s F (fun b => b = a) c (fun r d => r = some (vI (ly 3 t num 64 65 0 0).1) ∧ ((ly 3 t num 64 65 0 0).2 < 64 → ∀ i, 0 ≤ i → i < 3 → d a i = dg_n 3 (ly 3 t num 64 65 0 0).2 i))) := by
  refine am_E.go (t2 := (1, [vR y, vI 3, vI t, vI num, vR a, vU, vU, vU, vU, vU], [vI 0], aq_h m s F c)) rfl rfl ?_
  refine am_E.go (t2 := (3, [vR y, vI 3, vI t, vI num, vR a, vI 0, vU, vU, vU, vU], [], aq_h m s F c)) rfl rfl ?_
  refine am_E.go (t2 := (4, [vR y, vI 3, vI t, vI num, vR a, vI 0, vU, vU, vU, vU], [vI 1], aq_h m s F c)) rfl rfl ?_
  refine am_E.go (t2 := (6, [vR y, vI 3, vI t, vI num, vR a, vI 0, vI 1, vU, vU, vU], [], aq_h m s F c)) rfl rfl ?_
  refine am_E.go (t2 := (7, [vR y, vI 3, vI t, vI num, vR a, vI 0, vI 1, vU, vU, vU], [vI 0], aq_h m s F c)) rfl rfl ?_
  refine am_E.go (t2 := (9, [vR y, vI 3, vI t, vI num, vR a, vI 0, vI 1, vI 0, vU, vU], [], aq_h m s F c)) rfl rfl ?_
  refine am_E.go (t2 := (11, [vR y, vI 3, vI t, vI num, vR a, vI 0, vI 1, vI 0, vU, vU], [vI 0], aq_h m s F c)) rfl rfl ?_
  refine am_E.go (t2 := (12, [vR y, vI 3, vI t, vI num, vR a, vI 0, vI 1, vI 0, vU, vU], [vI 3, vI 0], aq_h m s F c)) rfl rfl ?_
  refine am_E.go (t2 := (15, [vR y, vI 3, vI t, vI num, vR a, vI 0, vI 1, vI 0, vU, vU], [], aq_h m s F c)) rfl rfl ?_
  refine am_E.go (t2 := (17, [vR y, vI 3, vI t, vI num, vR a, vI 0, vI 1, vI 0, vU, vU], [vI 1], aq_h m s F c)) rfl rfl ?_
  refine am_E.go (t2 := (18, [vR y, vI 3, vI t, vI num, vR a, vI 0, vI 1, vI 0, vU, vU], [vI 3, vI 1], aq_h m s F c)) rfl rfl ?_
  refine am_E.go (t2 := (19, [vR y, vI 3, vI t, vI num, vR a, vI 0, vI 1, vI 0, vU, vU], [vI 1, vI 3, vI 1], aq_h m s F c)) rfl rfl ?_
  refine am_E.go (t2 := (20, [vR y, vI 3, vI t, vI num, vR a, vI 0, vI 1, vI 0, vU, vU], [vI 4, vI 1], aq_h m s F c)) rfl rfl ?_
  refine am_E.go (t2 := (21, [vR y, vI 3, vI t, vI num, vR a, vI 0, vI 1, vI 0, vU, vU], [vI 4], aq_h m s F c)) rfl rfl ?_
  refine am_E.go (t2 := (23, [vR y, vI 3, vI t, vI num, vR a, vI 0, vI 4, vI 0, vU, vU], [], aq_h m s F c)) rfl rfl ?_
  refine am_E.go (t2 := (26, [vR y, vI 3, vI t, vI num, vR a, vI 0, vI 4, vI 1, vU, vU], [], aq_h m s F c)) rfl rfl ?_
  refine am_E.go (t2 := (9, [vR y, vI 3, vI t, vI num, vR a, vI 0, vI 4, vI 1, vU, vU], [], aq_h m s F c)) rfl rfl ?_
  refine am_E.go (t2 := (11, [vR y, vI 3, vI t, vI num, vR a, vI 0, vI 4, vI 1, vU, vU], [vI 1], aq_h m s F c)) rfl rfl ?_
  refine am_E.go (t2 := (12, [vR y, vI 3, vI t, vI num, vR a, vI 0, vI 4, vI 1, vU, vU], [vI 3, vI 1], aq_h m s F c)) rfl rfl ?_
  refine am_E.go (t2 := (15, [vR y, vI 3, vI t, vI num, vR a, vI 0, vI 4, vI 1, vU, vU], [], aq_h m s F c)) rfl rfl ?_
  refine am_E.go (t2 := (17, [vR y, vI 3, vI t, vI num, vR a, vI 0, vI 4, vI 1, vU, vU], [vI 4], aq_h m s F c)) rfl rfl ?_
  refine am_E.go (t2 := (18, [vR y, vI 3, vI t, vI num, vR a, vI 0, vI 4, vI 1, vU, vU], [vI 3, vI 4], aq_h m s F c)) rfl rfl ?_
  refine am_E.go (t2 := (19, [vR y, vI 3, vI t, vI num, vR a, vI 0, vI 4, vI 1, vU, vU], [vI 1, vI 3, vI 4], aq_h m s F c)) rfl rfl ?_
  refine am_E.go (t2 := (20, [vR y, vI 3, vI t, vI num, vR a, vI 0, vI 4, vI 1, vU, vU], [vI 4, vI 4], aq_h m s F c)) rfl rfl ?_
  refine am_E.go (t2 := (21, [vR y, vI 3, vI t, vI num, vR a, vI 0, vI 4, vI 1, vU, vU], [vI 16], aq_h m s F c)) rfl rfl ?_
  refine am_E.go (t2 := (23, [vR y, vI 3, vI t, vI num, vR a, vI 0, vI 16, vI 1, vU, vU], [], aq_h m s F c)) rfl rfl ?_
  refine am_E.go (t2 := (26, [vR y, vI 3, vI t, vI num, vR a, vI 0, vI 16, vI 2, vU, vU], [], aq_h m s F c)) rfl rfl ?_
  refine am_E.go (t2 := (9, [vR y, vI 3, vI t, vI num, vR a, vI 0, vI 16, vI 2, vU, vU], [], aq_h m s F c)) rfl rfl ?_
  refine am_E.go (t2 := (11, [vR y, vI 3, vI t, vI num, vR a, vI 0, vI 16, vI 2, vU, vU], [vI 2], aq_h m s F c)) rfl rfl ?_
  refine am_E.go (t2 := (12, [vR y, vI 3, vI t, vI num, vR a, vI 0, vI 16, vI 2, vU, vU], [vI 3, vI 2], aq_h m s F c)) rfl rfl ?_
  refine am_E.go (t2 := (15, [vR y, vI 3, vI t, vI num, vR a, vI 0, vI 16, vI 2, vU, vU], [], aq_h m s F c)) rfl rfl ?_
  refine am_E.go (t2 := (17, [vR y, vI 3, vI t, vI num, vR a, vI 0, vI 16, vI 2, vU, vU], [vI 16], aq_h m s F c)) rfl rfl ?_
  refine am_E.go (t2 := (18, [vR y, vI 3, vI t, vI num, vR a, vI 0, vI 16, vI 2, vU, vU], [vI 3, vI 16], aq_h m s F c)) rfl rfl ?_
  refine am_E.go (t2 := (19, [vR y, vI 3, vI t, vI num, vR a, vI 0, vI 16, vI 2, vU, vU], [vI 1, vI 3, vI 16], aq_h m s F c)) rfl rfl ?_
  refine am_E.go (t2 := (20, [vR y, vI 3, vI t, vI num, vR a, vI 0, vI 16, vI 2, vU, vU], [vI 4, vI 16], aq_h m s F c)) rfl rfl ?_
  refine am_E.go (t2 := (21, [vR y, vI 3, vI t, vI num, vR a, vI 0, vI 16, vI 2, vU, vU], [vI 64], aq_h m s F c)) rfl rfl ?_
  refine am_E.go (t2 := (23, [vR y, vI 3, vI t, vI num, vR a, vI 0, vI 64, vI 2, vU, vU], [], aq_h m s F c)) rfl rfl ?_
  refine am_E.go (t2 := (26, [vR y, vI 3, vI t, vI num, vR a, vI 0, vI 64, vI 3, vU, vU], [], aq_h m s F c)) rfl rfl ?_
  refine am_E.go (t2 := (9, [vR y, vI 3, vI t, vI num, vR a, vI 0, vI 64, vI 3, vU, vU], [], aq_h m s F c)) rfl rfl ?_
  refine am_E.go (t2 := (11, [vR y, vI 3, vI t, vI num, vR a, vI 0, vI 64, vI 3, vU, vU], [vI 3], aq_h m s F c)) rfl rfl ?_
  refine am_E.go (t2 := (12, [vR y, vI 3, vI t, vI num, vR a, vI 0, vI 64, vI 3, vU, vU], [vI 3, vI 3], aq_h m s F c)) rfl rfl ?_
  refine am_E.go (t2 := (29, [vR y, vI 3, vI t, vI num, vR a, vI 0, vI 64, vI 3, vU, vU], [], aq_h m s F c)) rfl rfl ?_
  refine am_E.go (t2 := (30, [vR y, vI 3, vI t, vI num, vR a, vI 0, vI 64, vI 3, vU, vU], [vI 0], aq_h m s F c)) rfl rfl ?_
  refine am_E.go (t2 := (32, [vR y, vI 3, vI t, vI num, vR a, vI 0, vI 64, vI 0, vU, vU], [], aq_h m s F c)) rfl rfl ?_
  exact qm_lay_3 hyy hFy ha hFa 65 0 0 (vU) (vU) c (aq_sm0 (c := c) (S := (fun b => b = a))) (by omega) (by omega) (by omega) (by omega) rfl (by omega)

theorem qm_lay_4 {m s : Nat} {F : aq_F} {c0 : aq_C} {y a : Nat} (hyy : y < m) (hFy : F y = (15, 27, mo_t y)) (ha : a < m) (hFa : F a = (0, 4, fun _ => .inl 0)) {t num : Int} {T : Int × Int} : ∀ (d : Nat) (mn : Int) (code : Int) (v8 : am_V) (v9 : am_V) (c : aq_C) (hs : aq_sm (fun b => b = a) c0 c) (h0 : 0 ≤ code) (h1 : code ≤ 625) (h2 : 0 ≤ mn) (h3 : mn ≤ code) (hl : ly 4 t num 625 d code mn = T) (hd : 625 - code < (d : Int)), am_E ac_X5_lay (32, [vR y, vI 4, vI t, vI num, vR a, vI mn, vI 625, vI code, v8, v9], [], aq_h m s F c) (aq_Z m s F (fun b => b = a) c0 (fun r d => r = some (vI T.1) ∧ (T.2 < 625 → ∀ i, 0 ≤ i → i < 4 → d a i = dg_n 4 T.2 i)))
  | 0, mn, code, v8, v9, c, hs, h0, h1, h2, h3, hl, hd => by exfalso; omega
  | d + 1, mn, code, v8, v9, c, hs, h0, h1, h2, h3, hl, hd => by
    refine am_E.go (t2 := (34, [vR y, vI 4, vI t, vI num, vR a, vI mn, vI 625, vI code, v8, v9], [vI code], aq_h m s F c)) rfl rfl ?_
    refine am_E.go (t2 := (36, [vR y, vI 4, vI t, vI num, vR a, vI mn, vI 625, vI code, v8, v9], [vI 625, vI code], aq_h m s F c)) rfl rfl ?_
    refine ae_icmp rfl (fun (q_1 : 625 ≤ code) => ?_) (fun (q_1 : code < 625) => ?_)
    · refine am_E.go (t2 := (108, [vR y, vI 4, vI t, vI num, vR a, vI mn, vI 625, vI code, v8, v9], [vI mn], aq_h m s F c)) rfl rfl ?_
      refine am_E.ret rfl rfl ?_
      have eT : T = (mn, code) := by rw [← hl, ly, if_neg (by omega)]
      rw [eT]
      exact ⟨_, rfl, hs, rfl, fun h => absurd h (by show ¬ code < 625; omega)⟩
    · refine am_E.go (t2 := (41, [vR y, vI 4, vI t, vI num, vR a, vI mn, vI 625, vI code, v8, v9], [vI code], aq_h m s F c)) rfl rfl ?_
      refine am_E.go (t2 := (43, [vR y, vI 4, vI t, vI num, vR a, vI mn, vI 625, vI code, vI code, v9], [], aq_h m s F c)) rfl rfl ?_
      refine am_E.go (t2 := (44, [vR y, vI 4, vI t, vI num, vR a, vI mn, vI 625, vI code, vI code, v9], [vI 4], aq_h m s F c)) rfl rfl ?_
      refine am_E.go (t2 := (45, [vR y, vI 4, vI t, vI num, vR a, vI mn, vI 625, vI code, vI code, v9], [vI 1, vI 4], aq_h m s F c)) rfl rfl ?_
      refine am_E.go (t2 := (46, [vR y, vI 4, vI t, vI num, vR a, vI mn, vI 625, vI code, vI code, v9], [vI 3], aq_h m s F c)) rfl rfl ?_
      refine am_E.go (t2 := (48, [vR y, vI 4, vI t, vI num, vR a, vI mn, vI 625, vI code, vI code, vI 3], [], aq_h m s F c)) rfl rfl ?_
      refine am_E.go (t2 := (50, [vR y, vI 4, vI t, vI num, vR a, vI mn, vI 625, vI code, vI code, vI 3], [vI 3], aq_h m s F c)) rfl rfl ?_
      refine am_E.go (t2 := (53, [vR y, vI 4, vI t, vI num, vR a, vI mn, vI 625, vI code, vI code, vI 3], [], aq_h m s F c)) rfl rfl ?_
      refine am_E.go (t2 := (55, [vR y, vI 4, vI t, vI num, vR a, vI mn, vI 625, vI code, vI code, vI 3], [vR a], aq_h m s F c)) rfl rfl ?_
      refine am_E.go (t2 := (57, [vR y, vI 4, vI t, vI num, vR a, vI mn, vI 625, vI code, vI code, vI 3], [vI 3, vR a], aq_h m s F c)) rfl rfl ?_
      refine am_E.go (t2 := (59, [vR y, vI 4, vI t, vI num, vR a, vI mn, vI 625, vI code, vI code, vI 3], [vI code, vI 3, vR a], aq_h m s F c)) rfl rfl ?_
      refine am_E.go (t2 := (60, [vR y, vI 4, vI t, vI num, vR a, vI mn, vI 625, vI code, vI code, vI 3], [vI 4, vI code, vI 3, vR a], aq_h m s F c)) rfl rfl ?_
      refine am_E.go (t2 := (61, [vR y, vI 4, vI t, vI num, vR a, vI mn, vI 625, vI code, vI code, vI 3], [vI 1, vI 4, vI code, vI 3, vR a], aq_h m s F c)) rfl rfl ?_
      refine am_E.go (t2 := (62, [vR y, vI 4, vI t, vI num, vR a, vI mn, vI 625, vI code, vI code, vI 3], [vI 5, vI code, vI 3, vR a], aq_h m s F c)) rfl rfl ?_
      refine ae_bin (z := code % 5) rfl rfl (am_rem_e (by omega) (by decide)) ?_
      show am_E _ (63, [vR y, vI 4, vI t, vI num, vR a, vI mn, vI 625, vI code, vI code, vI 3], [vI (code % 5), vI 3, vR a], aq_h m s F c) _
      refine aq_as (kd := 0) rfl rfl ha hFa (by omega) (by omega) rfl rfl ?_
      show am_E _ (64, [vR y, vI 4, vI t, vI num, vR a, vI mn, vI 625, vI code, vI code, vI 3], [], aq_h m s F (aq_u c a 3 (code % 5))) _
      generalize hdc_2 : aq_u c a 3 (code % 5) = c_2
      have sc_2 := aq_smu hs hdc_2 rfl
      refine am_E.go (t2 := (66, [vR y, vI 4, vI t, vI num, vR a, vI mn, vI 625, vI code, vI code, vI 3], [vI code], aq_h m s F c_2)) rfl rfl ?_
      refine am_E.go (t2 := (67, [vR y, vI 4, vI t, vI num, vR a, vI mn, vI 625, vI code, vI code, vI 3], [vI 4, vI code], aq_h m s F c_2)) rfl rfl ?_
      refine am_E.go (t2 := (68, [vR y, vI 4, vI t, vI num, vR a, vI mn, vI 625, vI code, vI code, vI 3], [vI 1, vI 4, vI code], aq_h m s F c_2)) rfl rfl ?_
      refine am_E.go (t2 := (69, [vR y, vI 4, vI t, vI num, vR a, vI mn, vI 625, vI code, vI code, vI 3], [vI 5, vI code], aq_h m s F c_2)) rfl rfl ?_
      refine ae_bin (z := code / 5) rfl rfl (am_div_e (by omega) (by omega) (by decide)) ?_
      show am_E _ (70, [vR y, vI 4, vI t, vI num, vR a, vI mn, vI 625, vI code, vI code, vI 3], [vI (code / 5)], aq_h m s F c_2) _
      refine am_E.go (t2 := (72, [vR y, vI 4, vI t, vI num, vR a, vI mn, vI 625, vI code, vI (code / 5), vI 3], [], aq_h m s F c_2)) rfl rfl ?_
      refine am_E.go (t2 := (75, [vR y, vI 4, vI t, vI num, vR a, vI mn, vI 625, vI code, vI (code / 5), vI 2], [], aq_h m s F c_2)) rfl rfl ?_
      refine am_E.go (t2 := (48, [vR y, vI 4, vI t, vI num, vR a, vI mn, vI 625, vI code, vI (code / 5), vI 2], [], aq_h m s F c_2)) rfl rfl ?_
      refine am_E.go (t2 := (50, [vR y, vI 4, vI t, vI num, vR a, vI mn, vI 625, vI code, vI (code / 5), vI 2], [vI 2], aq_h m s F c_2)) rfl rfl ?_
      refine am_E.go (t2 := (53, [vR y, vI 4, vI t, vI num, vR a, vI mn, vI 625, vI code, vI (code / 5), vI 2], [], aq_h m s F c_2)) rfl rfl ?_
      refine am_E.go (t2 := (55, [vR y, vI 4, vI t, vI num, vR a, vI mn, vI 625, vI code, vI (code / 5), vI 2], [vR a], aq_h m s F c_2)) rfl rfl ?_
      refine am_E.go (t2 := (57, [vR y, vI 4, vI t, vI num, vR a, vI mn, vI 625, vI code, vI (code / 5), vI 2], [vI 2, vR a], aq_h m s F c_2)) rfl rfl ?_
      refine am_E.go (t2 := (59, [vR y, vI 4, vI t, vI num, vR a, vI mn, vI 625, vI code, vI (code / 5), vI 2], [vI (code / 5), vI 2, vR a], aq_h m s F c_2)) rfl rfl ?_
      refine am_E.go (t2 := (60, [vR y, vI 4, vI t, vI num, vR a, vI mn, vI 625, vI code, vI (code / 5), vI 2], [vI 4, vI (code / 5), vI 2, vR a], aq_h m s F c_2)) rfl rfl ?_
      refine am_E.go (t2 := (61, [vR y, vI 4, vI t, vI num, vR a, vI mn, vI 625, vI code, vI (code / 5), vI 2], [vI 1, vI 4, vI (code / 5), vI 2, vR a], aq_h m s F c_2)) rfl rfl ?_
      refine am_E.go (t2 := (62, [vR y, vI 4, vI t, vI num, vR a, vI mn, vI 625, vI code, vI (code / 5), vI 2], [vI 5, vI (code / 5), vI 2, vR a], aq_h m s F c_2)) rfl rfl ?_
      refine ae_bin (z := (code / 5) % 5) rfl rfl (am_rem_e (by omega) (by decide)) ?_
      show am_E _ (63, [vR y, vI 4, vI t, vI num, vR a, vI mn, vI 625, vI code, vI (code / 5), vI 2], [vI ((code / 5) % 5), vI 2, vR a], aq_h m s F c_2) _
      refine aq_as (kd := 0) rfl rfl ha hFa (by omega) (by omega) rfl rfl ?_
      show am_E _ (64, [vR y, vI 4, vI t, vI num, vR a, vI mn, vI 625, vI code, vI (code / 5), vI 2], [], aq_h m s F (aq_u c_2 a 2 ((code / 5) % 5))) _
      generalize hdc_3 : aq_u c_2 a 2 ((code / 5) % 5) = c_3
      have sc_3 := aq_smu sc_2 hdc_3 rfl
      refine am_E.go (t2 := (66, [vR y, vI 4, vI t, vI num, vR a, vI mn, vI 625, vI code, vI (code / 5), vI 2], [vI (code / 5)], aq_h m s F c_3)) rfl rfl ?_
      refine am_E.go (t2 := (67, [vR y, vI 4, vI t, vI num, vR a, vI mn, vI 625, vI code, vI (code / 5), vI 2], [vI 4, vI (code / 5)], aq_h m s F c_3)) rfl rfl ?_
      refine am_E.go (t2 := (68, [vR y, vI 4, vI t, vI num, vR a, vI mn, vI 625, vI code, vI (code / 5), vI 2], [vI 1, vI 4, vI (code / 5)], aq_h m s F c_3)) rfl rfl ?_
      refine am_E.go (t2 := (69, [vR y, vI 4, vI t, vI num, vR a, vI mn, vI 625, vI code, vI (code / 5), vI 2], [vI 5, vI (code / 5)], aq_h m s F c_3)) rfl rfl ?_
      refine ae_bin (z := (code / 5) / 5) rfl rfl (am_div_e (by omega) (by omega) (by decide)) ?_
      show am_E _ (70, [vR y, vI 4, vI t, vI num, vR a, vI mn, vI 625, vI code, vI (code / 5), vI 2], [vI ((code / 5) / 5)], aq_h m s F c_3) _
      refine am_E.go (t2 := (72, [vR y, vI 4, vI t, vI num, vR a, vI mn, vI 625, vI code, vI ((code / 5) / 5), vI 2], [], aq_h m s F c_3)) rfl rfl ?_
      refine am_E.go (t2 := (75, [vR y, vI 4, vI t, vI num, vR a, vI mn, vI 625, vI code, vI ((code / 5) / 5), vI 1], [], aq_h m s F c_3)) rfl rfl ?_
      refine am_E.go (t2 := (48, [vR y, vI 4, vI t, vI num, vR a, vI mn, vI 625, vI code, vI ((code / 5) / 5), vI 1], [], aq_h m s F c_3)) rfl rfl ?_
      refine am_E.go (t2 := (50, [vR y, vI 4, vI t, vI num, vR a, vI mn, vI 625, vI code, vI ((code / 5) / 5), vI 1], [vI 1], aq_h m s F c_3)) rfl rfl ?_
      refine am_E.go (t2 := (53, [vR y, vI 4, vI t, vI num, vR a, vI mn, vI 625, vI code, vI ((code / 5) / 5), vI 1], [], aq_h m s F c_3)) rfl rfl ?_
      refine am_E.go (t2 := (55, [vR y, vI 4, vI t, vI num, vR a, vI mn, vI 625, vI code, vI ((code / 5) / 5), vI 1], [vR a], aq_h m s F c_3)) rfl rfl ?_
      refine am_E.go (t2 := (57, [vR y, vI 4, vI t, vI num, vR a, vI mn, vI 625, vI code, vI ((code / 5) / 5), vI 1], [vI 1, vR a], aq_h m s F c_3)) rfl rfl ?_
      refine am_E.go (t2 := (59, [vR y, vI 4, vI t, vI num, vR a, vI mn, vI 625, vI code, vI ((code / 5) / 5), vI 1], [vI ((code / 5) / 5), vI 1, vR a], aq_h m s F c_3)) rfl rfl ?_
      refine am_E.go (t2 := (60, [vR y, vI 4, vI t, vI num, vR a, vI mn, vI 625, vI code, vI ((code / 5) / 5), vI 1], [vI 4, vI ((code / 5) / 5), vI 1, vR a], aq_h m s F c_3)) rfl rfl ?_
      refine am_E.go (t2 := (61, [vR y, vI 4, vI t, vI num, vR a, vI mn, vI 625, vI code, vI ((code / 5) / 5), vI 1], [vI 1, vI 4, vI ((code / 5) / 5), vI 1, vR a], aq_h m s F c_3)) rfl rfl ?_
      refine am_E.go (t2 := (62, [vR y, vI 4, vI t, vI num, vR a, vI mn, vI 625, vI code, vI ((code / 5) / 5), vI 1], [vI 5, vI ((code / 5) / 5), vI 1, vR a], aq_h m s F c_3)) rfl rfl ?_
      refine ae_bin (z := ((code / 5) / 5) % 5) rfl rfl (am_rem_e (by omega) (by decide)) ?_
      show am_E _ (63, [vR y, vI 4, vI t, vI num, vR a, vI mn, vI 625, vI code, vI ((code / 5) / 5), vI 1], [vI (((code / 5) / 5) % 5), vI 1, vR a], aq_h m s F c_3) _
      refine aq_as (kd := 0) rfl rfl ha hFa (by omega) (by omega) rfl rfl ?_
      show am_E _ (64, [vR y, vI 4, vI t, vI num, vR a, vI mn, vI 625, vI code, vI ((code / 5) / 5), vI 1], [], aq_h m s F (aq_u c_3 a 1 (((code / 5) / 5) % 5))) _
      generalize hdc_4 : aq_u c_3 a 1 (((code / 5) / 5) % 5) = c_4
      have sc_4 := aq_smu sc_3 hdc_4 rfl
      refine am_E.go (t2 := (66, [vR y, vI 4, vI t, vI num, vR a, vI mn, vI 625, vI code, vI ((code / 5) / 5), vI 1], [vI ((code / 5) / 5)], aq_h m s F c_4)) rfl rfl ?_
      refine am_E.go (t2 := (67, [vR y, vI 4, vI t, vI num, vR a, vI mn, vI 625, vI code, vI ((code / 5) / 5), vI 1], [vI 4, vI ((code / 5) / 5)], aq_h m s F c_4)) rfl rfl ?_
      refine am_E.go (t2 := (68, [vR y, vI 4, vI t, vI num, vR a, vI mn, vI 625, vI code, vI ((code / 5) / 5), vI 1], [vI 1, vI 4, vI ((code / 5) / 5)], aq_h m s F c_4)) rfl rfl ?_
      refine am_E.go (t2 := (69, [vR y, vI 4, vI t, vI num, vR a, vI mn, vI 625, vI code, vI ((code / 5) / 5), vI 1], [vI 5, vI ((code / 5) / 5)], aq_h m s F c_4)) rfl rfl ?_
      refine ae_bin (z := ((code / 5) / 5) / 5) rfl rfl (am_div_e (by omega) (by omega) (by decide)) ?_
      show am_E _ (70, [vR y, vI 4, vI t, vI num, vR a, vI mn, vI 625, vI code, vI ((code / 5) / 5), vI 1], [vI (((code / 5) / 5) / 5)], aq_h m s F c_4) _
      refine am_E.go (t2 := (72, [vR y, vI 4, vI t, vI num, vR a, vI mn, vI 625, vI code, vI (((code / 5) / 5) / 5), vI 1], [], aq_h m s F c_4)) rfl rfl ?_
      refine am_E.go (t2 := (75, [vR y, vI 4, vI t, vI num, vR a, vI mn, vI 625, vI code, vI (((code / 5) / 5) / 5), vI 0], [], aq_h m s F c_4)) rfl rfl ?_
      refine am_E.go (t2 := (48, [vR y, vI 4, vI t, vI num, vR a, vI mn, vI 625, vI code, vI (((code / 5) / 5) / 5), vI 0], [], aq_h m s F c_4)) rfl rfl ?_
      refine am_E.go (t2 := (50, [vR y, vI 4, vI t, vI num, vR a, vI mn, vI 625, vI code, vI (((code / 5) / 5) / 5), vI 0], [vI 0], aq_h m s F c_4)) rfl rfl ?_
      refine am_E.go (t2 := (53, [vR y, vI 4, vI t, vI num, vR a, vI mn, vI 625, vI code, vI (((code / 5) / 5) / 5), vI 0], [], aq_h m s F c_4)) rfl rfl ?_
      refine am_E.go (t2 := (55, [vR y, vI 4, vI t, vI num, vR a, vI mn, vI 625, vI code, vI (((code / 5) / 5) / 5), vI 0], [vR a], aq_h m s F c_4)) rfl rfl ?_
      refine am_E.go (t2 := (57, [vR y, vI 4, vI t, vI num, vR a, vI mn, vI 625, vI code, vI (((code / 5) / 5) / 5), vI 0], [vI 0, vR a], aq_h m s F c_4)) rfl rfl ?_
      refine am_E.go (t2 := (59, [vR y, vI 4, vI t, vI num, vR a, vI mn, vI 625, vI code, vI (((code / 5) / 5) / 5), vI 0], [vI (((code / 5) / 5) / 5), vI 0, vR a], aq_h m s F c_4)) rfl rfl ?_
      refine am_E.go (t2 := (60, [vR y, vI 4, vI t, vI num, vR a, vI mn, vI 625, vI code, vI (((code / 5) / 5) / 5), vI 0], [vI 4, vI (((code / 5) / 5) / 5), vI 0, vR a], aq_h m s F c_4)) rfl rfl ?_
      refine am_E.go (t2 := (61, [vR y, vI 4, vI t, vI num, vR a, vI mn, vI 625, vI code, vI (((code / 5) / 5) / 5), vI 0], [vI 1, vI 4, vI (((code / 5) / 5) / 5), vI 0, vR a], aq_h m s F c_4)) rfl rfl ?_
      refine am_E.go (t2 := (62, [vR y, vI 4, vI t, vI num, vR a, vI mn, vI 625, vI code, vI (((code / 5) / 5) / 5), vI 0], [vI 5, vI (((code / 5) / 5) / 5), vI 0, vR a], aq_h m s F c_4)) rfl rfl ?_
      refine ae_bin (z := (((code / 5) / 5) / 5) % 5) rfl rfl (am_rem_e (by omega) (by decide)) ?_
      show am_E _ (63, [vR y, vI 4, vI t, vI num, vR a, vI mn, vI 625, vI code, vI (((code / 5) / 5) / 5), vI 0], [vI ((((code / 5) / 5) / 5) % 5), vI 0, vR a], aq_h m s F c_4) _
      refine aq_as (kd := 0) rfl rfl ha hFa (by omega) (by omega) rfl rfl ?_
      show am_E _ (64, [vR y, vI 4, vI t, vI num, vR a, vI mn, vI 625, vI code, vI (((code / 5) / 5) / 5), vI 0], [], aq_h m s F (aq_u c_4 a 0 ((((code / 5) / 5) / 5) % 5))) _
      generalize hdc_5 : aq_u c_4 a 0 ((((code / 5) / 5) / 5) % 5) = c_5
      have sc_5 := aq_smu sc_4 hdc_5 rfl
      refine am_E.go (t2 := (66, [vR y, vI 4, vI t, vI num, vR a, vI mn, vI 625, vI code, vI (((code / 5) / 5) / 5), vI 0], [vI (((code / 5) / 5) / 5)], aq_h m s F c_5)) rfl rfl ?_
      refine am_E.go (t2 := (67, [vR y, vI 4, vI t, vI num, vR a, vI mn, vI 625, vI code, vI (((code / 5) / 5) / 5), vI 0], [vI 4, vI (((code / 5) / 5) / 5)], aq_h m s F c_5)) rfl rfl ?_
      refine am_E.go (t2 := (68, [vR y, vI 4, vI t, vI num, vR a, vI mn, vI 625, vI code, vI (((code / 5) / 5) / 5), vI 0], [vI 1, vI 4, vI (((code / 5) / 5) / 5)], aq_h m s F c_5)) rfl rfl ?_
      refine am_E.go (t2 := (69, [vR y, vI 4, vI t, vI num, vR a, vI mn, vI 625, vI code, vI (((code / 5) / 5) / 5), vI 0], [vI 5, vI (((code / 5) / 5) / 5)], aq_h m s F c_5)) rfl rfl ?_
      refine ae_bin (z := (((code / 5) / 5) / 5) / 5) rfl rfl (am_div_e (by omega) (by omega) (by decide)) ?_
      show am_E _ (70, [vR y, vI 4, vI t, vI num, vR a, vI mn, vI 625, vI code, vI (((code / 5) / 5) / 5), vI 0], [vI ((((code / 5) / 5) / 5) / 5)], aq_h m s F c_5) _
      refine am_E.go (t2 := (72, [vR y, vI 4, vI t, vI num, vR a, vI mn, vI 625, vI code, vI ((((code / 5) / 5) / 5) / 5), vI 0], [], aq_h m s F c_5)) rfl rfl ?_
      refine am_E.go (t2 := (75, [vR y, vI 4, vI t, vI num, vR a, vI mn, vI 625, vI code, vI ((((code / 5) / 5) / 5) / 5), vI (-1)], [], aq_h m s F c_5)) rfl rfl ?_
      refine am_E.go (t2 := (48, [vR y, vI 4, vI t, vI num, vR a, vI mn, vI 625, vI code, vI ((((code / 5) / 5) / 5) / 5), vI (-1)], [], aq_h m s F c_5)) rfl rfl ?_
      refine am_E.go (t2 := (50, [vR y, vI 4, vI t, vI num, vR a, vI mn, vI 625, vI code, vI ((((code / 5) / 5) / 5) / 5), vI (-1)], [vI (-1)], aq_h m s F c_5)) rfl rfl ?_
      refine am_E.go (t2 := (78, [vR y, vI 4, vI t, vI num, vR a, vI mn, vI 625, vI code, vI ((((code / 5) / 5) / 5) / 5), vI (-1)], [], aq_h m s F c_5)) rfl rfl ?_
      refine am_E.go (t2 := (79, [vR y, vI 4, vI t, vI num, vR a, vI mn, vI 625, vI code, vI ((((code / 5) / 5) / 5) / 5), vI (-1)], [vI 4], aq_h m s F c_5)) rfl rfl ?_
      refine am_E.go (t2 := (80, [vR y, vI 4, vI t, vI num, vR a, vI mn, vI 625, vI code, vI ((((code / 5) / 5) / 5) / 5), vI (-1)], [vI t, vI 4], aq_h m s F c_5)) rfl rfl ?_
      refine am_E.go (t2 := (82, [vR y, vI 4, vI t, vI num, vR a, vI mn, vI 625, vI code, vI ((((code / 5) / 5) / 5) / 5), vI (-1)], [vR a, vI t, vI 4], aq_h m s F c_5)) rfl rfl ?_
      have hz : ∀ i, 0 ≤ i → i < 4 → c_5 a i = dg_n 4 code i := by
        intro i h5 h6
        have h7 : i = 0 ∨ i = 1 ∨ i = 2 ∨ i = 3 := by omega
        rcases h7 with h7 | h7 | h7 | h7
        · rw [h7, ← hdc_5, aq_us]
          rfl
        · rw [h7, ← hdc_5, aq_un (Or.inr (by decide)), ← hdc_4, aq_us]
          rfl
        · rw [h7, ← hdc_5, aq_un (Or.inr (by decide)), ← hdc_4, aq_un (Or.inr (by decide)), ← hdc_3, aq_us]
          rfl
        · rw [h7, ← hdc_5, aq_un (Or.inr (by decide)), ← hdc_4, aq_un (Or.inr (by decide)), ← hdc_3, aq_un (Or.inr (by decide)), ← hdc_2, aq_us]
          rfl
      have hd5 : ∀ i, 0 ≤ i → i < 4 → 0 ≤ dg_n 4 code i ∧ dg_n 4 code i < 5 := by
        intro i h5 h6
        have h7 : i = 0 ∨ i = 1 ∨ i = 2 ∨ i = 3 := by omega
        rcases h7 with h7 | h7 | h7 | h7
        · rw [h7]
          show 0 ≤ code / 5 / 5 / 5 % 5 ∧ code / 5 / 5 / 5 % 5 < 5
          omega
        · rw [h7]
          show 0 ≤ code / 5 / 5 % 5 ∧ code / 5 / 5 % 5 < 5
          omega
        · rw [h7]
          show 0 ≤ code / 5 % 5 ∧ code / 5 % 5 < 5
          omega
        · rw [h7]
          show 0 ≤ code % 5 ∧ code % 5 < 5
          omega
      have hrg : aq_rg a 4 0 (4 + 1) c_5 := fun i h5 h6 => by rw [hz i h5 h6]; exact hd5 i h5 h6
      have hoc := hf_oc (n := 4) (t := t) hz (fun i h5 h6 => by have := hrg i h5 h6; omega) 6 0 0 1 (by decide)
      refine am_E.call rfl rfl rfl (Nat.le_of_ble_eq_true rfl) (qm_isHalf (n := 4) (t := t) ha hFa (by decide) (by decide) hrg) ?_
      rintro r5 h5 ⟨rfl, rfl⟩
      rw [hoc]
      show am_E _ (85, [vR y, vI 4, vI t, vI num, vR a, vI mn, vI 625, vI code, vI ((((code / 5) / 5) / 5) / 5), vI (-1)], [vI (hf_o 4 t (dg_n 4 code) 6 0 0 1)], aq_h m s F c_5) _
      refine ae_if0 rfl (fun (q_6 : (hf_o 4 t (dg_n 4 code) 6 0 0 1) = 0) => ?_) (fun (q_6 : (hf_o 4 t (dg_n 4 code) 6 0 0 1) ≠ 0) => ?_)
      · have hq_h := q_6
        refine ae_iinc rfl rfl (am_ri (by omega) (by omega)) ?_
        show am_E _ (103, [vR y, vI 4, vI t, vI num, vR a, vI mn, vI 625, vI (code + 1), vI ((((code / 5) / 5) / 5) / 5), vI (-1)], [], aq_h m s F c_5) _
        refine am_E.go (t2 := (32, [vR y, vI 4, vI t, vI num, vR a, vI mn, vI 625, vI (code + 1), vI ((((code / 5) / 5) / 5) / 5), vI (-1)], [], aq_h m s F c_5)) rfl rfl ?_
        exact qm_lay_4 hyy hFy ha hFa d mn (code + 1) (vI ((((code / 5) / 5) / 5) / 5)) (vI (-1)) c_5 sc_5 (by omega) (by omega) (by omega) (by omega) (by rw [← hl, ly, if_pos (by omega)]; first | (rw [if_pos hq_h]) | (rw [if_neg hq_h, if_neg (by omega)])) (by omega)
      · have hq_h := q_6
        refine am_E.go (t2 := (90, [vR y, vI 4, vI t, vI num, vR a, vI mn, vI 625, vI code, vI ((((code / 5) / 5) / 5) / 5), vI (-1)], [vI mn], aq_h m s F c_5)) rfl rfl ?_
        refine am_E.go (t2 := (91, [vR y, vI 4, vI t, vI num, vR a, vI mn, vI 625, vI code, vI ((((code / 5) / 5) / 5) / 5), vI (-1)], [vI num, vI mn], aq_h m s F c_5)) rfl rfl ?_
        refine ae_icmp rfl (fun (q_7 : mn ≠ num) => ?_) (fun (q_7 : mn = num) => ?_)
        · refine ae_iinc rfl rfl (am_ri (by omega) (by omega)) ?_
          show am_E _ (100, [vR y, vI 4, vI t, vI num, vR a, vI (mn + 1), vI 625, vI code, vI ((((code / 5) / 5) / 5) / 5), vI (-1)], [], aq_h m s F c_5) _
          refine ae_iinc rfl rfl (am_ri (by omega) (by omega)) ?_
          show am_E _ (103, [vR y, vI 4, vI t, vI num, vR a, vI (mn + 1), vI 625, vI (code + 1), vI ((((code / 5) / 5) / 5) / 5), vI (-1)], [], aq_h m s F c_5) _
          refine am_E.go (t2 := (32, [vR y, vI 4, vI t, vI num, vR a, vI (mn + 1), vI 625, vI (code + 1), vI ((((code / 5) / 5) / 5) / 5), vI (-1)], [], aq_h m s F c_5)) rfl rfl ?_
          exact qm_lay_4 hyy hFy ha hFa d (mn + 1) (code + 1) (vI ((((code / 5) / 5) / 5) / 5)) (vI (-1)) c_5 sc_5 (by omega) (by omega) (by omega) (by omega) (by rw [← hl, ly, if_pos (by omega)]; first | (rw [if_pos hq_h]) | (rw [if_neg hq_h, if_neg (by omega)])) (by omega)
        · refine am_E.go (t2 := (96, [vR y, vI 4, vI t, vI num, vR a, vI mn, vI 625, vI code, vI ((((code / 5) / 5) / 5) / 5), vI (-1)], [vI mn], aq_h m s F c_5)) rfl rfl ?_
          refine am_E.ret rfl rfl ?_
          have eT : T = (mn, code) := by rw [← hl, ly, if_pos (by omega), if_neg hq_h, if_pos (by omega)]
          rw [eT]
          exact ⟨_, rfl, sc_5, rfl, fun _ => hz⟩

theorem qm_lay4 {m s : Nat} {F : aq_F} {c : aq_C} {y a : Nat} (hyy : y < m) (hFy : F y = (15, 27, mo_t y)) (ha : a < m) (hFa : F a = (0, 4, fun _ => .inl 0)) {t num : Int} : am_E ac_X5_lay (0, [vR y, vI 4, vI t, vI num, vR a, vU, vU, vU, vU, vU], [], aq_h m s F c) (aq_Z m s F (fun b => b = a) c (fun r d => r = some (vI (ly 4 t num 625 626 0 0).1) ∧ ((ly 4 t num 625 626 0 0).2 < 625 → ∀ i, 0 ≤ i → i < 4 → d a i = dg_n 4 (ly 4 t num 625 626 0 0).2 i))) := by
  refine am_E.go (t2 := (1, [vR y, vI 4, vI t, vI num, vR a, vU, vU, vU, vU, vU], [vI 0], aq_h m s F c)) rfl rfl ?_
  refine am_E.go (t2 := (3, [vR y, vI 4, vI t, vI num, vR a, vI 0, vU, vU, vU, vU], [], aq_h m s F c)) rfl rfl ?_
  refine am_E.go (t2 := (4, [vR y, vI 4, vI t, vI num, vR a, vI 0, vU, vU, vU, vU], [vI 1], aq_h m s F c)) rfl rfl ?_
  refine am_E.go (t2 := (6, [vR y, vI 4, vI t, vI num, vR a, vI 0, vI 1, vU, vU, vU], [], aq_h m s F c)) rfl rfl ?_
  refine am_E.go (t2 := (7, [vR y, vI 4, vI t, vI num, vR a, vI 0, vI 1, vU, vU, vU], [vI 0], aq_h m s F c)) rfl rfl ?_
  refine am_E.go (t2 := (9, [vR y, vI 4, vI t, vI num, vR a, vI 0, vI 1, vI 0, vU, vU], [], aq_h m s F c)) rfl rfl ?_
  refine am_E.go (t2 := (11, [vR y, vI 4, vI t, vI num, vR a, vI 0, vI 1, vI 0, vU, vU], [vI 0], aq_h m s F c)) rfl rfl ?_
  refine am_E.go (t2 := (12, [vR y, vI 4, vI t, vI num, vR a, vI 0, vI 1, vI 0, vU, vU], [vI 4, vI 0], aq_h m s F c)) rfl rfl ?_
  refine am_E.go (t2 := (15, [vR y, vI 4, vI t, vI num, vR a, vI 0, vI 1, vI 0, vU, vU], [], aq_h m s F c)) rfl rfl ?_
  refine am_E.go (t2 := (17, [vR y, vI 4, vI t, vI num, vR a, vI 0, vI 1, vI 0, vU, vU], [vI 1], aq_h m s F c)) rfl rfl ?_
  refine am_E.go (t2 := (18, [vR y, vI 4, vI t, vI num, vR a, vI 0, vI 1, vI 0, vU, vU], [vI 4, vI 1], aq_h m s F c)) rfl rfl ?_
  refine am_E.go (t2 := (19, [vR y, vI 4, vI t, vI num, vR a, vI 0, vI 1, vI 0, vU, vU], [vI 1, vI 4, vI 1], aq_h m s F c)) rfl rfl ?_
  refine am_E.go (t2 := (20, [vR y, vI 4, vI t, vI num, vR a, vI 0, vI 1, vI 0, vU, vU], [vI 5, vI 1], aq_h m s F c)) rfl rfl ?_
  refine am_E.go (t2 := (21, [vR y, vI 4, vI t, vI num, vR a, vI 0, vI 1, vI 0, vU, vU], [vI 5], aq_h m s F c)) rfl rfl ?_
  refine am_E.go (t2 := (23, [vR y, vI 4, vI t, vI num, vR a, vI 0, vI 5, vI 0, vU, vU], [], aq_h m s F c)) rfl rfl ?_
  refine am_E.go (t2 := (26, [vR y, vI 4, vI t, vI num, vR a, vI 0, vI 5, vI 1, vU, vU], [], aq_h m s F c)) rfl rfl ?_
  refine am_E.go (t2 := (9, [vR y, vI 4, vI t, vI num, vR a, vI 0, vI 5, vI 1, vU, vU], [], aq_h m s F c)) rfl rfl ?_
  refine am_E.go (t2 := (11, [vR y, vI 4, vI t, vI num, vR a, vI 0, vI 5, vI 1, vU, vU], [vI 1], aq_h m s F c)) rfl rfl ?_
  refine am_E.go (t2 := (12, [vR y, vI 4, vI t, vI num, vR a, vI 0, vI 5, vI 1, vU, vU], [vI 4, vI 1], aq_h m s F c)) rfl rfl ?_
  refine am_E.go (t2 := (15, [vR y, vI 4, vI t, vI num, vR a, vI 0, vI 5, vI 1, vU, vU], [], aq_h m s F c)) rfl rfl ?_
  refine am_E.go (t2 := (17, [vR y, vI 4, vI t, vI num, vR a, vI 0, vI 5, vI 1, vU, vU], [vI 5], aq_h m s F c)) rfl rfl ?_
  refine am_E.go (t2 := (18, [vR y, vI 4, vI t, vI num, vR a, vI 0, vI 5, vI 1, vU, vU], [vI 4, vI 5], aq_h m s F c)) rfl rfl ?_
  refine am_E.go (t2 := (19, [vR y, vI 4, vI t, vI num, vR a, vI 0, vI 5, vI 1, vU, vU], [vI 1, vI 4, vI 5], aq_h m s F c)) rfl rfl ?_
  refine am_E.go (t2 := (20, [vR y, vI 4, vI t, vI num, vR a, vI 0, vI 5, vI 1, vU, vU], [vI 5, vI 5], aq_h m s F c)) rfl rfl ?_
  refine am_E.go (t2 := (21, [vR y, vI 4, vI t, vI num, vR a, vI 0, vI 5, vI 1, vU, vU], [vI 25], aq_h m s F c)) rfl rfl ?_
  refine am_E.go (t2 := (23, [vR y, vI 4, vI t, vI num, vR a, vI 0, vI 25, vI 1, vU, vU], [], aq_h m s F c)) rfl rfl ?_
  refine am_E.go (t2 := (26, [vR y, vI 4, vI t, vI num, vR a, vI 0, vI 25, vI 2, vU, vU], [], aq_h m s F c)) rfl rfl ?_
  refine am_E.go (t2 := (9, [vR y, vI 4, vI t, vI num, vR a, vI 0, vI 25, vI 2, vU, vU], [], aq_h m s F c)) rfl rfl ?_
  refine am_E.go (t2 := (11, [vR y, vI 4, vI t, vI num, vR a, vI 0, vI 25, vI 2, vU, vU], [vI 2], aq_h m s F c)) rfl rfl ?_
  refine am_E.go (t2 := (12, [vR y, vI 4, vI t, vI num, vR a, vI 0, vI 25, vI 2, vU, vU], [vI 4, vI 2], aq_h m s F c)) rfl rfl ?_
  refine am_E.go (t2 := (15, [vR y, vI 4, vI t, vI num, vR a, vI 0, vI 25, vI 2, vU, vU], [], aq_h m s F c)) rfl rfl ?_
  refine am_E.go (t2 := (17, [vR y, vI 4, vI t, vI num, vR a, vI 0, vI 25, vI 2, vU, vU], [vI 25], aq_h m s F c)) rfl rfl ?_
  refine am_E.go (t2 := (18, [vR y, vI 4, vI t, vI num, vR a, vI 0, vI 25, vI 2, vU, vU], [vI 4, vI 25], aq_h m s F c)) rfl rfl ?_
  refine am_E.go (t2 := (19, [vR y, vI 4, vI t, vI num, vR a, vI 0, vI 25, vI 2, vU, vU], [vI 1, vI 4, vI 25], aq_h m s F c)) rfl rfl ?_
  refine am_E.go (t2 := (20, [vR y, vI 4, vI t, vI num, vR a, vI 0, vI 25, vI 2, vU, vU], [vI 5, vI 25], aq_h m s F c)) rfl rfl ?_
  refine am_E.go (t2 := (21, [vR y, vI 4, vI t, vI num, vR a, vI 0, vI 25, vI 2, vU, vU], [vI 125], aq_h m s F c)) rfl rfl ?_
  refine am_E.go (t2 := (23, [vR y, vI 4, vI t, vI num, vR a, vI 0, vI 125, vI 2, vU, vU], [], aq_h m s F c)) rfl rfl ?_
  refine am_E.go (t2 := (26, [vR y, vI 4, vI t, vI num, vR a, vI 0, vI 125, vI 3, vU, vU], [], aq_h m s F c)) rfl rfl ?_
  refine am_E.go (t2 := (9, [vR y, vI 4, vI t, vI num, vR a, vI 0, vI 125, vI 3, vU, vU], [], aq_h m s F c)) rfl rfl ?_
  refine am_E.go (t2 := (11, [vR y, vI 4, vI t, vI num, vR a, vI 0, vI 125, vI 3, vU, vU], [vI 3], aq_h m s F c)) rfl rfl ?_
  refine am_E.go (t2 := (12, [vR y, vI 4, vI t, vI num, vR a, vI 0, vI 125, vI 3, vU, vU], [vI 4, vI 3], aq_h m s F c)) rfl rfl ?_
  refine am_E.go (t2 := (15, [vR y, vI 4, vI t, vI num, vR a, vI 0, vI 125, vI 3, vU, vU], [], aq_h m s F c)) rfl rfl ?_
  refine am_E.go (t2 := (17, [vR y, vI 4, vI t, vI num, vR a, vI 0, vI 125, vI 3, vU, vU], [vI 125], aq_h m s F c)) rfl rfl ?_
  refine am_E.go (t2 := (18, [vR y, vI 4, vI t, vI num, vR a, vI 0, vI 125, vI 3, vU, vU], [vI 4, vI 125], aq_h m s F c)) rfl rfl ?_
  refine am_E.go (t2 := (19, [vR y, vI 4, vI t, vI num, vR a, vI 0, vI 125, vI 3, vU, vU], [vI 1, vI 4, vI 125], aq_h m s F c)) rfl rfl ?_
  refine am_E.go (t2 := (20, [vR y, vI 4, vI t, vI num, vR a, vI 0, vI 125, vI 3, vU, vU], [vI 5, vI 125], aq_h m s F c)) rfl rfl ?_
  refine am_E.go (t2 := (21, [vR y, vI 4, vI t, vI num, vR a, vI 0, vI 125, vI 3, vU, vU], [vI 625], aq_h m s F c)) rfl rfl ?_
  refine am_E.go (t2 := (23, [vR y, vI 4, vI t, vI num, vR a, vI 0, vI 625, vI 3, vU, vU], [], aq_h m s F c)) rfl rfl ?_
  refine am_E.go (t2 := (26, [vR y, vI 4, vI t, vI num, vR a, vI 0, vI 625, vI 4, vU, vU], [], aq_h m s F c)) rfl rfl ?_
  refine am_E.go (t2 := (9, [vR y, vI 4, vI t, vI num, vR a, vI 0, vI 625, vI 4, vU, vU], [], aq_h m s F c)) rfl rfl ?_
  refine am_E.go (t2 := (11, [vR y, vI 4, vI t, vI num, vR a, vI 0, vI 625, vI 4, vU, vU], [vI 4], aq_h m s F c)) rfl rfl ?_
  refine am_E.go (t2 := (12, [vR y, vI 4, vI t, vI num, vR a, vI 0, vI 625, vI 4, vU, vU], [vI 4, vI 4], aq_h m s F c)) rfl rfl ?_
  refine am_E.go (t2 := (29, [vR y, vI 4, vI t, vI num, vR a, vI 0, vI 625, vI 4, vU, vU], [], aq_h m s F c)) rfl rfl ?_
  refine am_E.go (t2 := (30, [vR y, vI 4, vI t, vI num, vR a, vI 0, vI 625, vI 4, vU, vU], [vI 0], aq_h m s F c)) rfl rfl ?_
  refine am_E.go (t2 := (32, [vR y, vI 4, vI t, vI num, vR a, vI 0, vI 625, vI 0, vU, vU], [], aq_h m s F c)) rfl rfl ?_
  exact qm_lay_4 hyy hFy ha hFa 626 0 0 (vU) (vU) c (aq_sm0 (c := c) (S := (fun b => b = a))) (by omega) (by omega) (by omega) (by omega) rfl (by omega)

theorem ly_10_m : (ly 1 0 (-1) 2 3 0 0).1 = 0 := by decide +kernel
theorem ly_11_m : (ly 1 1 (-1) 2 3 0 0).1 = 1 := by decide +kernel
theorem ly_11_0 : ly 1 1 0 2 3 0 0 = (0, 1) := by decide +kernel
theorem ly_20_m : (ly 2 0 (-1) 9 10 0 0).1 = 1 := by decide +kernel
theorem ly_20_0 : ly 2 0 0 9 10 0 0 = (0, 3) := by decide +kernel
theorem ly_21_m : (ly 2 1 (-1) 9 10 0 0).1 = 0 := by decide +kernel
theorem ly_22_m : (ly 2 2 (-1) 9 10 0 0).1 = 1 := by decide +kernel
theorem ly_22_0 : ly 2 2 0 9 10 0 0 = (0, 8) := by decide +kernel
theorem ly_30_m : (ly 3 0 (-1) 64 65 0 0).1 = 0 := by decide +kernel
theorem ly_31_m : (ly 3 1 (-1) 64 65 0 0).1 = 2 := by decide +kernel
theorem ly_31_0 : ly 3 1 0 64 65 0 0 = (0, 19) := by decide +kernel
theorem ly_31_1 : ly 3 1 1 64 65 0 0 = (1, 57) := by decide +kernel
theorem ly_32_m : (ly 3 2 (-1) 64 65 0 0).1 = 0 := by decide +kernel
theorem ly_33_m : (ly 3 3 (-1) 64 65 0 0).1 = 1 := by decide +kernel
theorem ly_33_0 : ly 3 3 0 64 65 0 0 = (0, 63) := by decide +kernel
theorem ly_40_m : (ly 4 0 (-1) 625 626 0 0).1 = 2 := by decide +kernel
theorem ly_40_0 : ly 4 0 0 625 626 0 0 = (0, 142) := by decide +kernel
theorem ly_40_1 : ly 4 0 1 625 626 0 0 = (1, 430) := by decide +kernel
theorem ly_41_m : (ly 4 1 (-1) 625 626 0 0).1 = 0 := by decide +kernel
theorem ly_42_m : (ly 4 2 (-1) 625 626 0 0).1 = 3 := by decide +kernel
theorem ly_42_0 : ly 4 2 0 625 626 0 0 = (0, 149) := by decide +kernel
theorem ly_42_1 : ly 4 2 1 625 626 0 0 = (1, 559) := by decide +kernel
theorem ly_42_2 : ly 4 2 2 625 626 0 0 = (2, 617) := by decide +kernel
theorem ly_43_m : (ly 4 3 (-1) 625 626 0 0).1 = 0 := by decide +kernel
theorem ly_44_m : (ly 4 4 (-1) 625 626 0 0).1 = 1 := by decide +kernel
theorem ly_44_0 : ly 4 4 0 625 626 0 0 = (0, 624) := by decide +kernel
theorem qm_lay {m s : Nat} {F : aq_F} {c : aq_C} {y a : Nat} (hyy : y < m) (hFy : F y = (15, 27, mo_t y)) (ha : a < m) (hFa : F a = (0, 4, fun _ => .inl 0)) {n t num : Int} (hn1 : 1 ≤ n) (hn4 : n ≤ 4) (ht0 : 0 ≤ t) (ht1 : t ≤ n) (hnum : num = -1 ∨ (0 ≤ num ∧ num < hv_N n t)) : am_E ac_X5_lay (0, [vR y, vI n, vI t, vI num, vR a, vU, vU, vU, vU, vU], [], aq_h m s F c) (aq_Z m s F (fun b => b = a) c (fun r d => ∃ v, r = some (vI v) ∧ (num = -1 → v = hv_N n t) ∧ (0 ≤ num → ∀ i, 0 ≤ i → i < n → d a i = hv_d n t num i))) := by
  have h : n = 1 ∨ n = 2 ∨ n = 3 ∨ n = 4 := by omega
  rcases h with h | h | h | h <;> subst h
  · have h : t = 0 ∨ t = 1 := by omega
    rcases h with h | h <;> subst h
    · have hN : hv_N 1 0 = 0 := rfl
      have h : num = -1 := by omega
      subst h
      refine (qm_lay1 hyy hFy ha hFa).imp ?_
      rintro r h2 ⟨d, rfl, hs, rfl, hz⟩
      exact ⟨d, rfl, hs, _, rfl, fun _ => ly_10_m, fun h => absurd h (by decide)⟩
    · have hN : hv_N 1 1 = 1 := rfl
      have h : num = -1 ∨ num = 0 := by omega
      rcases h with h | h <;> subst h
      · refine (qm_lay1 hyy hFy ha hFa).imp ?_
        rintro r h2 ⟨d, rfl, hs, rfl, hz⟩
        exact ⟨d, rfl, hs, _, rfl, fun _ => ly_11_m, fun h => absurd h (by decide)⟩
      · refine (qm_lay1 hyy hFy ha hFa).imp ?_
        rintro r h2 ⟨d, rfl, hs, rfl, hz⟩
        rw [ly_11_0] at hz ⊢
        refine ⟨d, rfl, hs, _, rfl, fun h => absurd h (by decide), fun _ i h5 h6 => ?_⟩
        rw [hz (by decide) i h5 h6]
        have h7 : i = 0 := by omega
        subst h7
        rfl
  · have h : t = 0 ∨ t = 1 ∨ t = 2 := by omega
    rcases h with h | h | h <;> subst h
    · have hN : hv_N 2 0 = 1 := rfl
      have h : num = -1 ∨ num = 0 := by omega
      rcases h with h | h <;> subst h
      · refine (qm_lay2 hyy hFy ha hFa).imp ?_
        rintro r h2 ⟨d, rfl, hs, rfl, hz⟩
        exact ⟨d, rfl, hs, _, rfl, fun _ => ly_20_m, fun h => absurd h (by decide)⟩
      · refine (qm_lay2 hyy hFy ha hFa).imp ?_
        rintro r h2 ⟨d, rfl, hs, rfl, hz⟩
        rw [ly_20_0] at hz ⊢
        refine ⟨d, rfl, hs, _, rfl, fun h => absurd h (by decide), fun _ i h5 h6 => ?_⟩
        rw [hz (by decide) i h5 h6]
        have h7 : i = 0 ∨ i = 1 := by omega
        rcases h7 with h7 | h7 <;> subst h7 <;> rfl
    · have hN : hv_N 2 1 = 0 := rfl
      have h : num = -1 := by omega
      subst h
      refine (qm_lay2 hyy hFy ha hFa).imp ?_
      rintro r h2 ⟨d, rfl, hs, rfl, hz⟩
      exact ⟨d, rfl, hs, _, rfl, fun _ => ly_21_m, fun h => absurd h (by decide)⟩
    · have hN : hv_N 2 2 = 1 := rfl
      have h : num = -1 ∨ num = 0 := by omega
      rcases h with h | h <;> subst h
      · refine (qm_lay2 hyy hFy ha hFa).imp ?_
        rintro r h2 ⟨d, rfl, hs, rfl, hz⟩
        exact ⟨d, rfl, hs, _, rfl, fun _ => ly_22_m, fun h => absurd h (by decide)⟩
      · refine (qm_lay2 hyy hFy ha hFa).imp ?_
        rintro r h2 ⟨d, rfl, hs, rfl, hz⟩
        rw [ly_22_0] at hz ⊢
        refine ⟨d, rfl, hs, _, rfl, fun h => absurd h (by decide), fun _ i h5 h6 => ?_⟩
        rw [hz (by decide) i h5 h6]
        have h7 : i = 0 ∨ i = 1 := by omega
        rcases h7 with h7 | h7 <;> subst h7 <;> rfl
  · have h : t = 0 ∨ t = 1 ∨ t = 2 ∨ t = 3 := by omega
    rcases h with h | h | h | h <;> subst h
    · have hN : hv_N 3 0 = 0 := rfl
      have h : num = -1 := by omega
      subst h
      refine (qm_lay3 hyy hFy ha hFa).imp ?_
      rintro r h2 ⟨d, rfl, hs, rfl, hz⟩
      exact ⟨d, rfl, hs, _, rfl, fun _ => ly_30_m, fun h => absurd h (by decide)⟩
    · have hN : hv_N 3 1 = 2 := rfl
      have h : num = -1 ∨ num = 0 ∨ num = 1 := by omega
      rcases h with h | h | h <;> subst h
      · refine (qm_lay3 hyy hFy ha hFa).imp ?_
        rintro r h2 ⟨d, rfl, hs, rfl, hz⟩
        exact ⟨d, rfl, hs, _, rfl, fun _ => ly_31_m, fun h => absurd h (by decide)⟩
      · refine (qm_lay3 hyy hFy ha hFa).imp ?_
        rintro r h2 ⟨d, rfl, hs, rfl, hz⟩
        rw [ly_31_0] at hz ⊢
        refine ⟨d, rfl, hs, _, rfl, fun h => absurd h (by decide), fun _ i h5 h6 => ?_⟩
        rw [hz (by decide) i h5 h6]
        have h7 : i = 0 ∨ i = 1 ∨ i = 2 := by omega
        rcases h7 with h7 | h7 | h7 <;> subst h7 <;> rfl
      · refine (qm_lay3 hyy hFy ha hFa).imp ?_
        rintro r h2 ⟨d, rfl, hs, rfl, hz⟩
        rw [ly_31_1] at hz ⊢
        refine ⟨d, rfl, hs, _, rfl, fun h => absurd h (by decide), fun _ i h5 h6 => ?_⟩
        rw [hz (by decide) i h5 h6]
        have h7 : i = 0 ∨ i = 1 ∨ i = 2 := by omega
        rcases h7 with h7 | h7 | h7 <;> subst h7 <;> rfl
    · have hN : hv_N 3 2 = 0 := rfl
      have h : num = -1 := by omega
      subst h
      refine (qm_lay3 hyy hFy ha hFa).imp ?_
      rintro r h2 ⟨d, rfl, hs, rfl, hz⟩
      exact ⟨d, rfl, hs, _, rfl, fun _ => ly_32_m, fun h => absurd h (by decide)⟩
    · have hN : hv_N 3 3 = 1 := rfl
      have h : num = -1 ∨ num = 0 := by omega
      rcases h with h | h <;> subst h
      · refine (qm_lay3 hyy hFy ha hFa).imp ?_
        rintro r h2 ⟨d, rfl, hs, rfl, hz⟩
        exact ⟨d, rfl, hs, _, rfl, fun _ => ly_33_m, fun h => absurd h (by decide)⟩
      · refine (qm_lay3 hyy hFy ha hFa).imp ?_
        rintro r h2 ⟨d, rfl, hs, rfl, hz⟩
        rw [ly_33_0] at hz ⊢
        refine ⟨d, rfl, hs, _, rfl, fun h => absurd h (by decide), fun _ i h5 h6 => ?_⟩
        rw [hz (by decide) i h5 h6]
        have h7 : i = 0 ∨ i = 1 ∨ i = 2 := by omega
        rcases h7 with h7 | h7 | h7 <;> subst h7 <;> rfl
  · have h : t = 0 ∨ t = 1 ∨ t = 2 ∨ t = 3 ∨ t = 4 := by omega
    rcases h with h | h | h | h | h <;> subst h
    · have hN : hv_N 4 0 = 2 := rfl
      have h : num = -1 ∨ num = 0 ∨ num = 1 := by omega
      rcases h with h | h | h <;> subst h
      · refine (qm_lay4 hyy hFy ha hFa).imp ?_
        rintro r h2 ⟨d, rfl, hs, rfl, hz⟩
        exact ⟨d, rfl, hs, _, rfl, fun _ => ly_40_m, fun h => absurd h (by decide)⟩
      · refine (qm_lay4 hyy hFy ha hFa).imp ?_
        rintro r h2 ⟨d, rfl, hs, rfl, hz⟩
        rw [ly_40_0] at hz ⊢
        refine ⟨d, rfl, hs, _, rfl, fun h => absurd h (by decide), fun _ i h5 h6 => ?_⟩
        rw [hz (by decide) i h5 h6]
        have h7 : i = 0 ∨ i = 1 ∨ i = 2 ∨ i = 3 := by omega
        rcases h7 with h7 | h7 | h7 | h7 <;> subst h7 <;> rfl
      · refine (qm_lay4 hyy hFy ha hFa).imp ?_
        rintro r h2 ⟨d, rfl, hs, rfl, hz⟩
        rw [ly_40_1] at hz ⊢
        refine ⟨d, rfl, hs, _, rfl, fun h => absurd h (by decide), fun _ i h5 h6 => ?_⟩
        rw [hz (by decide) i h5 h6]
        have h7 : i = 0 ∨ i = 1 ∨ i = 2 ∨ i = 3 := by omega
        rcases h7 with h7 | h7 | h7 | h7 <;> subst h7 <;> rfl
    · have hN : hv_N 4 1 = 0 := rfl
      have h : num = -1 := by omega
      subst h
      refine (qm_lay4 hyy hFy ha hFa).imp ?_
      rintro r h2 ⟨d, rfl, hs, rfl, hz⟩
      exact ⟨d, rfl, hs, _, rfl, fun _ => ly_41_m, fun h => absurd h (by decide)⟩
    · have hN : hv_N 4 2 = 3 := rfl
      have h : num = -1 ∨ num = 0 ∨ num = 1 ∨ num = 2 := by omega
      rcases h with h | h | h | h <;> subst h
      · refine (qm_lay4 hyy hFy ha hFa).imp ?_
        rintro r h2 ⟨d, rfl, hs, rfl, hz⟩
        exact ⟨d, rfl, hs, _, rfl, fun _ => ly_42_m, fun h => absurd h (by decide)⟩
      · refine (qm_lay4 hyy hFy ha hFa).imp ?_
        rintro r h2 ⟨d, rfl, hs, rfl, hz⟩
        rw [ly_42_0] at hz ⊢
        refine ⟨d, rfl, hs, _, rfl, fun h => absurd h (by decide), fun _ i h5 h6 => ?_⟩
        rw [hz (by decide) i h5 h6]
        have h7 : i = 0 ∨ i = 1 ∨ i = 2 ∨ i = 3 := by omega
        rcases h7 with h7 | h7 | h7 | h7 <;> subst h7 <;> rfl
      · refine (qm_lay4 hyy hFy ha hFa).imp ?_
        rintro r h2 ⟨d, rfl, hs, rfl, hz⟩
        rw [ly_42_1] at hz ⊢
        refine ⟨d, rfl, hs, _, rfl, fun h => absurd h (by decide), fun _ i h5 h6 => ?_⟩
        rw [hz (by decide) i h5 h6]
        have h7 : i = 0 ∨ i = 1 ∨ i = 2 ∨ i = 3 := by omega
        rcases h7 with h7 | h7 | h7 | h7 <;> subst h7 <;> rfl
      · refine (qm_lay4 hyy hFy ha hFa).imp ?_
        rintro r h2 ⟨d, rfl, hs, rfl, hz⟩
        rw [ly_42_2] at hz ⊢
        refine ⟨d, rfl, hs, _, rfl, fun h => absurd h (by decide), fun _ i h5 h6 => ?_⟩
        rw [hz (by decide) i h5 h6]
        have h7 : i = 0 ∨ i = 1 ∨ i = 2 ∨ i = 3 := by omega
        rcases h7 with h7 | h7 | h7 | h7 <;> subst h7 <;> rfl
    · have hN : hv_N 4 3 = 0 := rfl
      have h : num = -1 := by omega
      subst h
      refine (qm_lay4 hyy hFy ha hFa).imp ?_
      rintro r h2 ⟨d, rfl, hs, rfl, hz⟩
      exact ⟨d, rfl, hs, _, rfl, fun _ => ly_43_m, fun h => absurd h (by decide)⟩
    · have hN : hv_N 4 4 = 1 := rfl
      have h : num = -1 ∨ num = 0 := by omega
      rcases h with h | h <;> subst h
      · refine (qm_lay4 hyy hFy ha hFa).imp ?_
        rintro r h2 ⟨d, rfl, hs, rfl, hz⟩
        exact ⟨d, rfl, hs, _, rfl, fun _ => ly_44_m, fun h => absurd h (by decide)⟩
      · refine (qm_lay4 hyy hFy ha hFa).imp ?_
        rintro r h2 ⟨d, rfl, hs, rfl, hz⟩
        rw [ly_44_0] at hz ⊢
        refine ⟨d, rfl, hs, _, rfl, fun h => absurd h (by decide), fun _ i h5 h6 => ?_⟩
        rw [hz (by decide) i h5 h6]
        have h7 : i = 0 ∨ i = 1 ∨ i = 2 ∨ i = 3 := by omega
        rcases h7 with h7 | h7 | h7 | h7 <;> subst h7 <;> rfl
