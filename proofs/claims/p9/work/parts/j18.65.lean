
/-- isHalf: the points between p and q -/
def hf_i (n p q : Int) (h : Int → Int) : Nat → Int → Int → Int
  | 0, _, is => is
  | d + 1, r, is => if r < n then (if is = 0 then is else hf_i n p q h d (r + 1) (if q = n ∨ ¬ (p < r ∧ r < q) ∨ (p < h r ∧ h r < q) then 1 else 0)) else is
def hf_o (n t : Int) (h : Int → Int) : Nat → Int → Int → Int → Int
  | 0, _, _, _ => 0
  | d + 1, p, left, is => if p < n then (if is = 0 then 0 else hf_o n t h d (p + 1) (am_w (left + if h p = n then 1 else 0)) (hf_i n p (h p) h 6 0 (if h p = n ∨ (h p ≠ p ∧ h (h p) = p) then 1 else 0))) else (if is = 0 then 0 else if left = t then 1 else 0)

def hv_10 : List (List Int) := []
def hv_11 : List (List Int) := [[1]]
def hv_20 : List (List Int) := [[1, 0]]
def hv_21 : List (List Int) := []
def hv_22 : List (List Int) := [[2, 2]]
def hv_30 : List (List Int) := []
def hv_31 : List (List Int) := [[1, 0, 3], [3, 2, 1]]
def hv_32 : List (List Int) := []
def hv_33 : List (List Int) := [[3, 3, 3]]
def hv_40 : List (List Int) := [[1, 0, 3, 2], [3, 2, 1, 0]]
def hv_41 : List (List Int) := []
def hv_42 : List (List Int) := [[1, 0, 4, 4], [4, 2, 1, 4], [4, 4, 3, 2]]
def hv_43 : List (List Int) := []
def hv_44 : List (List Int) := [[4, 4, 4, 4]]
/-- the halves of n points with t left, in order -/
def hv_l (n t : Int) : List (List Int) := if n = 1 then (if t = 0 then hv_10 else hv_11) else if n = 2 then (if t = 0 then hv_20 else if t = 1 then hv_21 else hv_22) else if n = 3 then (if t = 0 then hv_30 else if t = 1 then hv_31 else if t = 2 then hv_32 else hv_33) else (if t = 0 then hv_40 else if t = 1 then hv_41 else if t = 2 then hv_42 else if t = 3 then hv_43 else hv_44)
def hv_N (n t : Int) : Int := ((hv_l n t).length : Int)
def hv_d (n t k p : Int) : Int := ((hv_l n t).getD k.toNat []).getD p.toNat 0

theorem qm_isHalf_in {m s : Nat} {F : aq_F} {c : aq_C} {a : Nat} (ha : a < m) (hFa : F a = (0, 4, fun _ => .inl 0)) {n t : Int} (hn1 : 1 ≤ n) (hn4 : n ≤ 4) (hr : aq_rg a n 0 (n + 1) c) {T : Int} {T2 : Int} : ∀ (d : Nat) (lf : Int) (is : Int) (p : Int) (q : Int) (r : Int) (h0 : 0 ≤ r) (h1 : r ≤ n) (hi : hf_i n p q (c a) d r is = T2) (hd : n - r < (d : Int)) (K0 : ∀ (is2 : Int) (r2 : Int) (ht : is2 = T2), am_E ac_X5_isHalf (133, [vI n, vI t, vR a, vI lf, vI is2, vI p, vI q, vI r2], [], aq_h m s F c) (aq_P m s F c (fun r => r = some (vI T)))), am_E ac_X5_isHalf (71, [vI n, vI t, vR a, vI lf, vI is, vI p, vI q, vI r], [], aq_h m s F c) (aq_P m s F c (fun r => r = some (vI T)))
  | 0, lf, is, p, q, r, h0, h1, hi, hd, K0 => by exfalso; omega
  | d + 1, lf, is, p, q, r, h0, h1, hi, hd, K0 => by
    refine am_E.go (t2 := (73, [vI n, vI t, vR a, vI lf, vI is, vI p, vI q, vI r], [vI r], aq_h m s F c)) rfl rfl ?_
    refine am_E.go (t2 := (74, [vI n, vI t, vR a, vI lf, vI is, vI p, vI q, vI r], [vI n, vI r], aq_h m s F c)) rfl rfl ?_
    refine ae_icmp rfl (fun (q_1 : n ≤ r) => ?_) (fun (q_1 : r < n) => ?_)
    · exact K0 is r (by rw [← hi, hf_i]; first | (rw [if_neg (by omega)]) | (rw [if_pos (by omega), if_pos (by omega)]))
    · refine am_E.go (t2 := (79, [vI n, vI t, vR a, vI lf, vI is, vI p, vI q, vI r], [vI is], aq_h m s F c)) rfl rfl ?_
      refine ae_if0 rfl (fun (q_2 : is = 0) => ?_) (fun (q_2 : is ≠ 0) => ?_)
      · exact K0 is r (by rw [← hi, hf_i]; first | (rw [if_neg (by omega)]) | (rw [if_pos (by omega), if_pos (by omega)]))
      · refine am_E.go (t2 := (84, [vI n, vI t, vR a, vI lf, vI is, vI p, vI q, vI r], [vI q], aq_h m s F c)) rfl rfl ?_
        refine am_E.go (t2 := (85, [vI n, vI t, vR a, vI lf, vI is, vI p, vI q, vI r], [vI n, vI q], aq_h m s F c)) rfl rfl ?_
        refine ae_icmp rfl (fun (q_3 : q = n) => ?_) (fun (q_3 : q ≠ n) => ?_)
        · refine am_E.go (t2 := (121, [vI n, vI t, vR a, vI lf, vI is, vI p, vI q, vI r], [vI 1], aq_h m s F c)) rfl rfl ?_
          refine am_E.go (t2 := (125, [vI n, vI t, vR a, vI lf, vI is, vI p, vI q, vI r], [vI 1], aq_h m s F c)) rfl rfl ?_
          refine am_E.go (t2 := (127, [vI n, vI t, vR a, vI lf, vI 1, vI p, vI q, vI r], [], aq_h m s F c)) rfl rfl ?_
          refine ae_iinc rfl rfl (am_ri (by omega) (by omega)) ?_
          show am_E _ (130, [vI n, vI t, vR a, vI lf, vI 1, vI p, vI q, vI (r + 1)], [], aq_h m s F c) _
          refine am_E.go (t2 := (71, [vI n, vI t, vR a, vI lf, vI 1, vI p, vI q, vI (r + 1)], [], aq_h m s F c)) rfl rfl ?_
          exact qm_isHalf_in ha hFa hn1 hn4 hr d lf 1 p q (r + 1) (by omega) (by omega) (by rw [← hi, hf_i, if_pos (by omega), if_neg (by omega)]; first | rw [if_pos (by omega)] | rw [if_neg (by omega)]) (by omega) K0
        · refine am_E.go (t2 := (90, [vI n, vI t, vR a, vI lf, vI is, vI p, vI q, vI r], [vI p], aq_h m s F c)) rfl rfl ?_
          refine am_E.go (t2 := (92, [vI n, vI t, vR a, vI lf, vI is, vI p, vI q, vI r], [vI r, vI p], aq_h m s F c)) rfl rfl ?_
          refine ae_icmp rfl (fun (q_4 : r ≤ p) => ?_) (fun (q_4 : p < r) => ?_)
          · refine am_E.go (t2 := (121, [vI n, vI t, vR a, vI lf, vI is, vI p, vI q, vI r], [vI 1], aq_h m s F c)) rfl rfl ?_
            refine am_E.go (t2 := (125, [vI n, vI t, vR a, vI lf, vI is, vI p, vI q, vI r], [vI 1], aq_h m s F c)) rfl rfl ?_
            refine am_E.go (t2 := (127, [vI n, vI t, vR a, vI lf, vI 1, vI p, vI q, vI r], [], aq_h m s F c)) rfl rfl ?_
            refine ae_iinc rfl rfl (am_ri (by omega) (by omega)) ?_
            show am_E _ (130, [vI n, vI t, vR a, vI lf, vI 1, vI p, vI q, vI (r + 1)], [], aq_h m s F c) _
            refine am_E.go (t2 := (71, [vI n, vI t, vR a, vI lf, vI 1, vI p, vI q, vI (r + 1)], [], aq_h m s F c)) rfl rfl ?_
            exact qm_isHalf_in ha hFa hn1 hn4 hr d lf 1 p q (r + 1) (by omega) (by omega) (by rw [← hi, hf_i, if_pos (by omega), if_neg (by omega)]; first | rw [if_pos (by omega)] | rw [if_neg (by omega)]) (by omega) K0
          · refine am_E.go (t2 := (97, [vI n, vI t, vR a, vI lf, vI is, vI p, vI q, vI r], [vI r], aq_h m s F c)) rfl rfl ?_
            refine am_E.go (t2 := (99, [vI n, vI t, vR a, vI lf, vI is, vI p, vI q, vI r], [vI q, vI r], aq_h m s F c)) rfl rfl ?_
            refine ae_icmp rfl (fun (q_5 : q ≤ r) => ?_) (fun (q_5 : r < q) => ?_)
            · refine am_E.go (t2 := (121, [vI n, vI t, vR a, vI lf, vI is, vI p, vI q, vI r], [vI 1], aq_h m s F c)) rfl rfl ?_
              refine am_E.go (t2 := (125, [vI n, vI t, vR a, vI lf, vI is, vI p, vI q, vI r], [vI 1], aq_h m s F c)) rfl rfl ?_
              refine am_E.go (t2 := (127, [vI n, vI t, vR a, vI lf, vI 1, vI p, vI q, vI r], [], aq_h m s F c)) rfl rfl ?_
              refine ae_iinc rfl rfl (am_ri (by omega) (by omega)) ?_
              show am_E _ (130, [vI n, vI t, vR a, vI lf, vI 1, vI p, vI q, vI (r + 1)], [], aq_h m s F c) _
              refine am_E.go (t2 := (71, [vI n, vI t, vR a, vI lf, vI 1, vI p, vI q, vI (r + 1)], [], aq_h m s F c)) rfl rfl ?_
              exact qm_isHalf_in ha hFa hn1 hn4 hr d lf 1 p q (r + 1) (by omega) (by omega) (by rw [← hi, hf_i, if_pos (by omega), if_neg (by omega)]; first | rw [if_pos (by omega)] | rw [if_neg (by omega)]) (by omega) K0
            · refine am_E.go (t2 := (103, [vI n, vI t, vR a, vI lf, vI is, vI p, vI q, vI r], [vR a], aq_h m s F c)) rfl rfl ?_
              refine am_E.go (t2 := (105, [vI n, vI t, vR a, vI lf, vI is, vI p, vI q, vI r], [vI r, vR a], aq_h m s F c)) rfl rfl ?_
              refine aq_al (ok := fun k => k == 0) (v := vI (c a r)) rfl rfl ha hFa rfl (by omega) (by omega) rfl ?_
              show am_E _ (106, [vI n, vI t, vR a, vI lf, vI is, vI p, vI q, vI r], [vI (c a r)], aq_h m s F c) _
              have f_6 := hr r (by omega) (by omega)
              refine am_E.go (t2 := (108, [vI n, vI t, vR a, vI lf, vI is, vI p, vI q, vI r], [vI p, vI (c a r)], aq_h m s F c)) rfl rfl ?_
              refine ae_icmp rfl (fun (q_7 : (c a r) ≤ p) => ?_) (fun (q_7 : p < (c a r)) => ?_)
              · refine am_E.go (t2 := (125, [vI n, vI t, vR a, vI lf, vI is, vI p, vI q, vI r], [vI 0], aq_h m s F c)) rfl rfl ?_
                refine am_E.go (t2 := (127, [vI n, vI t, vR a, vI lf, vI 0, vI p, vI q, vI r], [], aq_h m s F c)) rfl rfl ?_
                refine ae_iinc rfl rfl (am_ri (by omega) (by omega)) ?_
                show am_E _ (130, [vI n, vI t, vR a, vI lf, vI 0, vI p, vI q, vI (r + 1)], [], aq_h m s F c) _
                refine am_E.go (t2 := (71, [vI n, vI t, vR a, vI lf, vI 0, vI p, vI q, vI (r + 1)], [], aq_h m s F c)) rfl rfl ?_
                exact qm_isHalf_in ha hFa hn1 hn4 hr d lf 0 p q (r + 1) (by omega) (by omega) (by rw [← hi, hf_i, if_pos (by omega), if_neg (by omega)]; first | rw [if_pos (by omega)] | rw [if_neg (by omega)]) (by omega) K0
              · refine am_E.go (t2 := (112, [vI n, vI t, vR a, vI lf, vI is, vI p, vI q, vI r], [vR a], aq_h m s F c)) rfl rfl ?_
                refine am_E.go (t2 := (114, [vI n, vI t, vR a, vI lf, vI is, vI p, vI q, vI r], [vI r, vR a], aq_h m s F c)) rfl rfl ?_
                refine aq_al (ok := fun k => k == 0) (v := vI (c a r)) rfl rfl ha hFa rfl (by omega) (by omega) rfl ?_
                show am_E _ (115, [vI n, vI t, vR a, vI lf, vI is, vI p, vI q, vI r], [vI (c a r)], aq_h m s F c) _
                have f_8 := hr r (by omega) (by omega)
                refine am_E.go (t2 := (117, [vI n, vI t, vR a, vI lf, vI is, vI p, vI q, vI r], [vI q, vI (c a r)], aq_h m s F c)) rfl rfl ?_
                refine ae_icmp rfl (fun (q_9 : q ≤ (c a r)) => ?_) (fun (q_9 : (c a r) < q) => ?_)
                · refine am_E.go (t2 := (125, [vI n, vI t, vR a, vI lf, vI is, vI p, vI q, vI r], [vI 0], aq_h m s F c)) rfl rfl ?_
                  refine am_E.go (t2 := (127, [vI n, vI t, vR a, vI lf, vI 0, vI p, vI q, vI r], [], aq_h m s F c)) rfl rfl ?_
                  refine ae_iinc rfl rfl (am_ri (by omega) (by omega)) ?_
                  show am_E _ (130, [vI n, vI t, vR a, vI lf, vI 0, vI p, vI q, vI (r + 1)], [], aq_h m s F c) _
                  refine am_E.go (t2 := (71, [vI n, vI t, vR a, vI lf, vI 0, vI p, vI q, vI (r + 1)], [], aq_h m s F c)) rfl rfl ?_
                  exact qm_isHalf_in ha hFa hn1 hn4 hr d lf 0 p q (r + 1) (by omega) (by omega) (by rw [← hi, hf_i, if_pos (by omega), if_neg (by omega)]; first | rw [if_pos (by omega)] | rw [if_neg (by omega)]) (by omega) K0
                · refine am_E.go (t2 := (121, [vI n, vI t, vR a, vI lf, vI is, vI p, vI q, vI r], [vI 1], aq_h m s F c)) rfl rfl ?_
                  refine am_E.go (t2 := (125, [vI n, vI t, vR a, vI lf, vI is, vI p, vI q, vI r], [vI 1], aq_h m s F c)) rfl rfl ?_
                  refine am_E.go (t2 := (127, [vI n, vI t, vR a, vI lf, vI 1, vI p, vI q, vI r], [], aq_h m s F c)) rfl rfl ?_
                  refine ae_iinc rfl rfl (am_ri (by omega) (by omega)) ?_
                  show am_E _ (130, [vI n, vI t, vR a, vI lf, vI 1, vI p, vI q, vI (r + 1)], [], aq_h m s F c) _
                  refine am_E.go (t2 := (71, [vI n, vI t, vR a, vI lf, vI 1, vI p, vI q, vI (r + 1)], [], aq_h m s F c)) rfl rfl ?_
                  exact qm_isHalf_in ha hFa hn1 hn4 hr d lf 1 p q (r + 1) (by omega) (by omega) (by rw [← hi, hf_i, if_pos (by omega), if_neg (by omega)]; first | rw [if_pos (by omega)] | rw [if_neg (by omega)]) (by omega) K0

theorem qm_isHalf_out {m s : Nat} {F : aq_F} {c : aq_C} {a : Nat} (ha : a < m) (hFa : F a = (0, 4, fun _ => .inl 0)) {n t : Int} (hn1 : 1 ≤ n) (hn4 : n ≤ 4) (hr : aq_rg a n 0 (n + 1) c) {T : Int} : ∀ (d : Nat) (lf : Int) (is : Int) (p : Int) (v6 : am_V) (v7 : am_V) (h0 : 0 ≤ p) (h1 : p ≤ n) (ho : hf_o n t (c a) d p lf is = T) (hd : n - p < (d : Int)), am_E ac_X5_isHalf (8, [vI n, vI t, vR a, vI lf, vI is, vI p, v6, v7], [], aq_h m s F c) (aq_P m s F c (fun r => r = some (vI T)))
  | 0, lf, is, p, v6, v7, h0, h1, ho, hd => by exfalso; omega
  | d + 1, lf, is, p, v6, v7, h0, h1, ho, hd => by
    refine am_E.go (t2 := (10, [vI n, vI t, vR a, vI lf, vI is, vI p, v6, v7], [vI p], aq_h m s F c)) rfl rfl ?_
    refine am_E.go (t2 := (11, [vI n, vI t, vR a, vI lf, vI is, vI p, v6, v7], [vI n, vI p], aq_h m s F c)) rfl rfl ?_
    refine ae_icmp rfl (fun (q_1 : n ≤ p) => ?_) (fun (q_1 : p < n) => ?_)
    · refine am_E.go (t2 := (141, [vI n, vI t, vR a, vI lf, vI is, vI p, v6, v7], [vI is], aq_h m s F c)) rfl rfl ?_
      refine ae_if0 rfl (fun (q_2 : is = 0) => ?_) (fun (q_2 : is ≠ 0) => ?_)
      · refine am_E.go (t2 := (154, [vI n, vI t, vR a, vI lf, vI is, vI p, v6, v7], [vI 0], aq_h m s F c)) rfl rfl ?_
        refine am_E.ret rfl rfl ?_
        refine ⟨rfl, ?_⟩
        first | (exfalso; omega) | (rw [← ho, hf_o]; first | (rw [if_neg (by omega), if_neg (by omega), if_pos (by omega)]) | (rw [if_neg (by omega), if_neg (by omega), if_neg (by omega)]) | (rw [if_neg (by omega), if_pos (by omega)]) | (rw [if_pos (by omega), if_pos (by omega)]))
      · refine am_E.go (t2 := (145, [vI n, vI t, vR a, vI lf, vI is, vI p, v6, v7], [vI lf], aq_h m s F c)) rfl rfl ?_
        refine am_E.go (t2 := (146, [vI n, vI t, vR a, vI lf, vI is, vI p, v6, v7], [vI t, vI lf], aq_h m s F c)) rfl rfl ?_
        refine ae_icmp rfl (fun (q_3 : lf ≠ t) => ?_) (fun (q_3 : lf = t) => ?_)
        · refine am_E.go (t2 := (154, [vI n, vI t, vR a, vI lf, vI is, vI p, v6, v7], [vI 0], aq_h m s F c)) rfl rfl ?_
          refine am_E.ret rfl rfl ?_
          refine ⟨rfl, ?_⟩
          first | (exfalso; omega) | (rw [← ho, hf_o]; first | (rw [if_neg (by omega), if_neg (by omega), if_pos (by omega)]) | (rw [if_neg (by omega), if_neg (by omega), if_neg (by omega)]) | (rw [if_neg (by omega), if_pos (by omega)]) | (rw [if_pos (by omega), if_pos (by omega)]))
        · refine am_E.go (t2 := (150, [vI n, vI t, vR a, vI lf, vI is, vI p, v6, v7], [vI 1], aq_h m s F c)) rfl rfl ?_
          refine am_E.go (t2 := (154, [vI n, vI t, vR a, vI lf, vI is, vI p, v6, v7], [vI 1], aq_h m s F c)) rfl rfl ?_
          refine am_E.ret rfl rfl ?_
          refine ⟨rfl, ?_⟩
          first | (exfalso; omega) | (rw [← ho, hf_o]; first | (rw [if_neg (by omega), if_neg (by omega), if_pos (by omega)]) | (rw [if_neg (by omega), if_neg (by omega), if_neg (by omega)]) | (rw [if_neg (by omega), if_pos (by omega)]) | (rw [if_pos (by omega), if_pos (by omega)]))
    · refine am_E.go (t2 := (16, [vI n, vI t, vR a, vI lf, vI is, vI p, v6, v7], [vI is], aq_h m s F c)) rfl rfl ?_
      refine ae_if0 rfl (fun (q_4 : is = 0) => ?_) (fun (q_4 : is ≠ 0) => ?_)
      · refine am_E.go (t2 := (141, [vI n, vI t, vR a, vI lf, vI is, vI p, v6, v7], [vI is], aq_h m s F c)) rfl rfl ?_
        refine ae_if0 rfl (fun (q_5 : is = 0) => ?_) (fun (q_5 : is ≠ 0) => ?_)
        · refine am_E.go (t2 := (154, [vI n, vI t, vR a, vI lf, vI is, vI p, v6, v7], [vI 0], aq_h m s F c)) rfl rfl ?_
          refine am_E.ret rfl rfl ?_
          refine ⟨rfl, ?_⟩
          first | (exfalso; omega) | (rw [← ho, hf_o]; first | (rw [if_neg (by omega), if_neg (by omega), if_pos (by omega)]) | (rw [if_neg (by omega), if_neg (by omega), if_neg (by omega)]) | (rw [if_neg (by omega), if_pos (by omega)]) | (rw [if_pos (by omega), if_pos (by omega)]))
        · refine am_E.go (t2 := (145, [vI n, vI t, vR a, vI lf, vI is, vI p, v6, v7], [vI lf], aq_h m s F c)) rfl rfl ?_
          refine am_E.go (t2 := (146, [vI n, vI t, vR a, vI lf, vI is, vI p, v6, v7], [vI t, vI lf], aq_h m s F c)) rfl rfl ?_
          refine ae_icmp rfl (fun (q_6 : lf ≠ t) => ?_) (fun (q_6 : lf = t) => ?_)
          · refine am_E.go (t2 := (154, [vI n, vI t, vR a, vI lf, vI is, vI p, v6, v7], [vI 0], aq_h m s F c)) rfl rfl ?_
            refine am_E.ret rfl rfl ?_
            refine ⟨rfl, ?_⟩
            first | (exfalso; omega) | (rw [← ho, hf_o]; first | (rw [if_neg (by omega), if_neg (by omega), if_pos (by omega)]) | (rw [if_neg (by omega), if_neg (by omega), if_neg (by omega)]) | (rw [if_neg (by omega), if_pos (by omega)]) | (rw [if_pos (by omega), if_pos (by omega)]))
          · refine am_E.go (t2 := (150, [vI n, vI t, vR a, vI lf, vI is, vI p, v6, v7], [vI 1], aq_h m s F c)) rfl rfl ?_
            refine am_E.go (t2 := (154, [vI n, vI t, vR a, vI lf, vI is, vI p, v6, v7], [vI 1], aq_h m s F c)) rfl rfl ?_
            refine am_E.ret rfl rfl ?_
            refine ⟨rfl, ?_⟩
            first | (exfalso; omega) | (rw [← ho, hf_o]; first | (rw [if_neg (by omega), if_neg (by omega), if_pos (by omega)]) | (rw [if_neg (by omega), if_neg (by omega), if_neg (by omega)]) | (rw [if_neg (by omega), if_pos (by omega)]) | (rw [if_pos (by omega), if_pos (by omega)]))
      · refine am_E.go (t2 := (20, [vI n, vI t, vR a, vI lf, vI is, vI p, v6, v7], [vR a], aq_h m s F c)) rfl rfl ?_
        refine am_E.go (t2 := (22, [vI n, vI t, vR a, vI lf, vI is, vI p, v6, v7], [vI p, vR a], aq_h m s F c)) rfl rfl ?_
        refine aq_al (ok := fun k => k == 0) (v := vI (c a p)) rfl rfl ha hFa rfl (by omega) (by omega) rfl ?_
        show am_E _ (23, [vI n, vI t, vR a, vI lf, vI is, vI p, v6, v7], [vI (c a p)], aq_h m s F c) _
        have f_7 := hr p (by omega) (by omega)
        refine am_E.go (t2 := (25, [vI n, vI t, vR a, vI lf, vI is, vI p, vI (c a p), v7], [], aq_h m s F c)) rfl rfl ?_
        refine am_E.go (t2 := (26, [vI n, vI t, vR a, vI lf, vI is, vI p, vI (c a p), v7], [vI lf], aq_h m s F c)) rfl rfl ?_
        refine am_E.go (t2 := (28, [vI n, vI t, vR a, vI lf, vI is, vI p, vI (c a p), v7], [vI (c a p), vI lf], aq_h m s F c)) rfl rfl ?_
        refine am_E.go (t2 := (29, [vI n, vI t, vR a, vI lf, vI is, vI p, vI (c a p), v7], [vI n, vI (c a p), vI lf], aq_h m s F c)) rfl rfl ?_
        refine ae_icmp rfl (fun (q_8 : (c a p) ≠ n) => ?_) (fun (q_8 : (c a p) = n) => ?_)
        · refine am_E.go (t2 := (37, [vI n, vI t, vR a, vI lf, vI is, vI p, vI (c a p), v7], [vI 0, vI lf], aq_h m s F c)) rfl rfl ?_
          refine am_E.go (t2 := (38, [vI n, vI t, vR a, vI lf, vI is, vI p, vI (c a p), v7], [vI (am_w (lf + 0))], aq_h m s F c)) rfl rfl ?_
          refine am_E.go (t2 := (39, [vI n, vI t, vR a, vI (am_w (lf + 0)), vI is, vI p, vI (c a p), v7], [], aq_h m s F c)) rfl rfl ?_
          refine am_E.go (t2 := (41, [vI n, vI t, vR a, vI (am_w (lf + 0)), vI is, vI p, vI (c a p), v7], [vI (c a p)], aq_h m s F c)) rfl rfl ?_
          refine am_E.go (t2 := (42, [vI n, vI t, vR a, vI (am_w (lf + 0)), vI is, vI p, vI (c a p), v7], [vI n, vI (c a p)], aq_h m s F c)) rfl rfl ?_
          refine ae_icmp rfl (fun (q_9 : (c a p) = n) => ?_) (fun (q_9 : (c a p) ≠ n) => ?_)
          · refine am_E.go (t2 := (62, [vI n, vI t, vR a, vI (am_w (lf + 0)), vI is, vI p, vI (c a p), v7], [vI 1], aq_h m s F c)) rfl rfl ?_
            refine am_E.go (t2 := (66, [vI n, vI t, vR a, vI (am_w (lf + 0)), vI is, vI p, vI (c a p), v7], [vI 1], aq_h m s F c)) rfl rfl ?_
            refine am_E.go (t2 := (68, [vI n, vI t, vR a, vI (am_w (lf + 0)), vI 1, vI p, vI (c a p), v7], [], aq_h m s F c)) rfl rfl ?_
            refine am_E.go (t2 := (69, [vI n, vI t, vR a, vI (am_w (lf + 0)), vI 1, vI p, vI (c a p), v7], [vI 0], aq_h m s F c)) rfl rfl ?_
            refine am_E.go (t2 := (71, [vI n, vI t, vR a, vI (am_w (lf + 0)), vI 1, vI p, vI (c a p), vI 0], [], aq_h m s F c)) rfl rfl ?_
            refine qm_isHalf_in ha hFa hn1 hn4 hr 6 (am_w (lf + 0)) 1 p (c a p) 0 (by omega) (by omega) rfl (by omega) ?_
            · intro is2_71 r2_71 ht_71
              refine ae_iinc rfl rfl (am_ri (by omega) (by omega)) ?_
              show am_E _ (136, [vI n, vI t, vR a, vI (am_w (lf + 0)), vI is2_71, vI (p + 1), vI (c a p), vI r2_71], [], aq_h m s F c) _
              refine am_E.go (t2 := (8, [vI n, vI t, vR a, vI (am_w (lf + 0)), vI is2_71, vI (p + 1), vI (c a p), vI r2_71], [], aq_h m s F c)) rfl rfl ?_
              exact qm_isHalf_out ha hFa hn1 hn4 hr d (am_w (lf + 0)) is2_71 (p + 1) (vI (c a p)) (vI r2_71) (by omega) (by omega) (by first | (exfalso; omega) | (rw [← ho, hf_o, if_pos (by omega), if_neg (by omega), ht_71]; first | (rw [if_pos (by omega), if_pos (by omega)]) | (rw [if_pos (by omega), if_neg (by omega)]) | (rw [if_neg (by omega), if_pos (by omega)]) | (rw [if_neg (by omega), if_neg (by omega)]))) (by omega)
          · refine am_E.go (t2 := (47, [vI n, vI t, vR a, vI (am_w (lf + 0)), vI is, vI p, vI (c a p), v7], [vI (c a p)], aq_h m s F c)) rfl rfl ?_
            refine am_E.go (t2 := (49, [vI n, vI t, vR a, vI (am_w (lf + 0)), vI is, vI p, vI (c a p), v7], [vI p, vI (c a p)], aq_h m s F c)) rfl rfl ?_
            refine ae_icmp rfl (fun (q_11 : (c a p) = p) => ?_) (fun (q_11 : (c a p) ≠ p) => ?_)
            · refine am_E.go (t2 := (66, [vI n, vI t, vR a, vI (am_w (lf + 0)), vI is, vI p, vI (c a p), v7], [vI 0], aq_h m s F c)) rfl rfl ?_
              refine am_E.go (t2 := (68, [vI n, vI t, vR a, vI (am_w (lf + 0)), vI 0, vI p, vI (c a p), v7], [], aq_h m s F c)) rfl rfl ?_
              refine am_E.go (t2 := (69, [vI n, vI t, vR a, vI (am_w (lf + 0)), vI 0, vI p, vI (c a p), v7], [vI 0], aq_h m s F c)) rfl rfl ?_
              refine am_E.go (t2 := (71, [vI n, vI t, vR a, vI (am_w (lf + 0)), vI 0, vI p, vI (c a p), vI 0], [], aq_h m s F c)) rfl rfl ?_
              refine qm_isHalf_in ha hFa hn1 hn4 hr 6 (am_w (lf + 0)) 0 p (c a p) 0 (by omega) (by omega) rfl (by omega) ?_
              · intro is2_71 r2_71 ht_71
                refine ae_iinc rfl rfl (am_ri (by omega) (by omega)) ?_
                show am_E _ (136, [vI n, vI t, vR a, vI (am_w (lf + 0)), vI is2_71, vI (p + 1), vI (c a p), vI r2_71], [], aq_h m s F c) _
                refine am_E.go (t2 := (8, [vI n, vI t, vR a, vI (am_w (lf + 0)), vI is2_71, vI (p + 1), vI (c a p), vI r2_71], [], aq_h m s F c)) rfl rfl ?_
                exact qm_isHalf_out ha hFa hn1 hn4 hr d (am_w (lf + 0)) is2_71 (p + 1) (vI (c a p)) (vI r2_71) (by omega) (by omega) (by first | (exfalso; omega) | (rw [← ho, hf_o, if_pos (by omega), if_neg (by omega), ht_71]; first | (rw [if_pos (by omega), if_pos (by omega)]) | (rw [if_pos (by omega), if_neg (by omega)]) | (rw [if_neg (by omega), if_pos (by omega)]) | (rw [if_neg (by omega), if_neg (by omega)]))) (by omega)
            · refine am_E.go (t2 := (53, [vI n, vI t, vR a, vI (am_w (lf + 0)), vI is, vI p, vI (c a p), v7], [vR a], aq_h m s F c)) rfl rfl ?_
              refine am_E.go (t2 := (55, [vI n, vI t, vR a, vI (am_w (lf + 0)), vI is, vI p, vI (c a p), v7], [vI (c a p), vR a], aq_h m s F c)) rfl rfl ?_
              refine aq_al (ok := fun k => k == 0) (v := vI (c a (c a p))) rfl rfl ha hFa rfl (by omega) (by omega) rfl ?_
              show am_E _ (56, [vI n, vI t, vR a, vI (am_w (lf + 0)), vI is, vI p, vI (c a p), v7], [vI (c a (c a p))], aq_h m s F c) _
              have f_13 := hr (c a p) (by omega) (by omega)
              refine am_E.go (t2 := (58, [vI n, vI t, vR a, vI (am_w (lf + 0)), vI is, vI p, vI (c a p), v7], [vI p, vI (c a (c a p))], aq_h m s F c)) rfl rfl ?_
              refine ae_icmp rfl (fun (q_14 : (c a (c a p)) ≠ p) => ?_) (fun (q_14 : (c a (c a p)) = p) => ?_)
              · refine am_E.go (t2 := (66, [vI n, vI t, vR a, vI (am_w (lf + 0)), vI is, vI p, vI (c a p), v7], [vI 0], aq_h m s F c)) rfl rfl ?_
                refine am_E.go (t2 := (68, [vI n, vI t, vR a, vI (am_w (lf + 0)), vI 0, vI p, vI (c a p), v7], [], aq_h m s F c)) rfl rfl ?_
                refine am_E.go (t2 := (69, [vI n, vI t, vR a, vI (am_w (lf + 0)), vI 0, vI p, vI (c a p), v7], [vI 0], aq_h m s F c)) rfl rfl ?_
                refine am_E.go (t2 := (71, [vI n, vI t, vR a, vI (am_w (lf + 0)), vI 0, vI p, vI (c a p), vI 0], [], aq_h m s F c)) rfl rfl ?_
                refine qm_isHalf_in ha hFa hn1 hn4 hr 6 (am_w (lf + 0)) 0 p (c a p) 0 (by omega) (by omega) rfl (by omega) ?_
                · intro is2_71 r2_71 ht_71
                  refine ae_iinc rfl rfl (am_ri (by omega) (by omega)) ?_
                  show am_E _ (136, [vI n, vI t, vR a, vI (am_w (lf + 0)), vI is2_71, vI (p + 1), vI (c a p), vI r2_71], [], aq_h m s F c) _
                  refine am_E.go (t2 := (8, [vI n, vI t, vR a, vI (am_w (lf + 0)), vI is2_71, vI (p + 1), vI (c a p), vI r2_71], [], aq_h m s F c)) rfl rfl ?_
                  exact qm_isHalf_out ha hFa hn1 hn4 hr d (am_w (lf + 0)) is2_71 (p + 1) (vI (c a p)) (vI r2_71) (by omega) (by omega) (by first | (exfalso; omega) | (rw [← ho, hf_o, if_pos (by omega), if_neg (by omega), ht_71]; first | (rw [if_pos (by omega), if_pos (by omega)]) | (rw [if_pos (by omega), if_neg (by omega)]) | (rw [if_neg (by omega), if_pos (by omega)]) | (rw [if_neg (by omega), if_neg (by omega)]))) (by omega)
              · refine am_E.go (t2 := (62, [vI n, vI t, vR a, vI (am_w (lf + 0)), vI is, vI p, vI (c a p), v7], [vI 1], aq_h m s F c)) rfl rfl ?_
                refine am_E.go (t2 := (66, [vI n, vI t, vR a, vI (am_w (lf + 0)), vI is, vI p, vI (c a p), v7], [vI 1], aq_h m s F c)) rfl rfl ?_
                refine am_E.go (t2 := (68, [vI n, vI t, vR a, vI (am_w (lf + 0)), vI 1, vI p, vI (c a p), v7], [], aq_h m s F c)) rfl rfl ?_
                refine am_E.go (t2 := (69, [vI n, vI t, vR a, vI (am_w (lf + 0)), vI 1, vI p, vI (c a p), v7], [vI 0], aq_h m s F c)) rfl rfl ?_
                refine am_E.go (t2 := (71, [vI n, vI t, vR a, vI (am_w (lf + 0)), vI 1, vI p, vI (c a p), vI 0], [], aq_h m s F c)) rfl rfl ?_
                refine qm_isHalf_in ha hFa hn1 hn4 hr 6 (am_w (lf + 0)) 1 p (c a p) 0 (by omega) (by omega) rfl (by omega) ?_
                · intro is2_71 r2_71 ht_71
                  refine ae_iinc rfl rfl (am_ri (by omega) (by omega)) ?_
                  show am_E _ (136, [vI n, vI t, vR a, vI (am_w (lf + 0)), vI is2_71, vI (p + 1), vI (c a p), vI r2_71], [], aq_h m s F c) _
                  refine am_E.go (t2 := (8, [vI n, vI t, vR a, vI (am_w (lf + 0)), vI is2_71, vI (p + 1), vI (c a p), vI r2_71], [], aq_h m s F c)) rfl rfl ?_
                  exact qm_isHalf_out ha hFa hn1 hn4 hr d (am_w (lf + 0)) is2_71 (p + 1) (vI (c a p)) (vI r2_71) (by omega) (by omega) (by first | (exfalso; omega) | (rw [← ho, hf_o, if_pos (by omega), if_neg (by omega), ht_71]; first | (rw [if_pos (by omega), if_pos (by omega)]) | (rw [if_pos (by omega), if_neg (by omega)]) | (rw [if_neg (by omega), if_pos (by omega)]) | (rw [if_neg (by omega), if_neg (by omega)]))) (by omega)
        · refine am_E.go (t2 := (33, [vI n, vI t, vR a, vI lf, vI is, vI p, vI (c a p), v7], [vI 1, vI lf], aq_h m s F c)) rfl rfl ?_
          refine am_E.go (t2 := (37, [vI n, vI t, vR a, vI lf, vI is, vI p, vI (c a p), v7], [vI 1, vI lf], aq_h m s F c)) rfl rfl ?_
          refine am_E.go (t2 := (38, [vI n, vI t, vR a, vI lf, vI is, vI p, vI (c a p), v7], [vI (am_w (lf + 1))], aq_h m s F c)) rfl rfl ?_
          refine am_E.go (t2 := (39, [vI n, vI t, vR a, vI (am_w (lf + 1)), vI is, vI p, vI (c a p), v7], [], aq_h m s F c)) rfl rfl ?_
          refine am_E.go (t2 := (41, [vI n, vI t, vR a, vI (am_w (lf + 1)), vI is, vI p, vI (c a p), v7], [vI (c a p)], aq_h m s F c)) rfl rfl ?_
          refine am_E.go (t2 := (42, [vI n, vI t, vR a, vI (am_w (lf + 1)), vI is, vI p, vI (c a p), v7], [vI n, vI (c a p)], aq_h m s F c)) rfl rfl ?_
          refine ae_icmp rfl (fun (q_17 : (c a p) = n) => ?_) (fun (q_17 : (c a p) ≠ n) => ?_)
          · refine am_E.go (t2 := (62, [vI n, vI t, vR a, vI (am_w (lf + 1)), vI is, vI p, vI (c a p), v7], [vI 1], aq_h m s F c)) rfl rfl ?_
            refine am_E.go (t2 := (66, [vI n, vI t, vR a, vI (am_w (lf + 1)), vI is, vI p, vI (c a p), v7], [vI 1], aq_h m s F c)) rfl rfl ?_
            refine am_E.go (t2 := (68, [vI n, vI t, vR a, vI (am_w (lf + 1)), vI 1, vI p, vI (c a p), v7], [], aq_h m s F c)) rfl rfl ?_
            refine am_E.go (t2 := (69, [vI n, vI t, vR a, vI (am_w (lf + 1)), vI 1, vI p, vI (c a p), v7], [vI 0], aq_h m s F c)) rfl rfl ?_
            refine am_E.go (t2 := (71, [vI n, vI t, vR a, vI (am_w (lf + 1)), vI 1, vI p, vI (c a p), vI 0], [], aq_h m s F c)) rfl rfl ?_
            refine qm_isHalf_in ha hFa hn1 hn4 hr 6 (am_w (lf + 1)) 1 p (c a p) 0 (by omega) (by omega) rfl (by omega) ?_
            · intro is2_71 r2_71 ht_71
              refine ae_iinc rfl rfl (am_ri (by omega) (by omega)) ?_
              show am_E _ (136, [vI n, vI t, vR a, vI (am_w (lf + 1)), vI is2_71, vI (p + 1), vI (c a p), vI r2_71], [], aq_h m s F c) _
              refine am_E.go (t2 := (8, [vI n, vI t, vR a, vI (am_w (lf + 1)), vI is2_71, vI (p + 1), vI (c a p), vI r2_71], [], aq_h m s F c)) rfl rfl ?_
              exact qm_isHalf_out ha hFa hn1 hn4 hr d (am_w (lf + 1)) is2_71 (p + 1) (vI (c a p)) (vI r2_71) (by omega) (by omega) (by first | (exfalso; omega) | (rw [← ho, hf_o, if_pos (by omega), if_neg (by omega), ht_71]; first | (rw [if_pos (by omega), if_pos (by omega)]) | (rw [if_pos (by omega), if_neg (by omega)]) | (rw [if_neg (by omega), if_pos (by omega)]) | (rw [if_neg (by omega), if_neg (by omega)]))) (by omega)
          · refine am_E.go (t2 := (47, [vI n, vI t, vR a, vI (am_w (lf + 1)), vI is, vI p, vI (c a p), v7], [vI (c a p)], aq_h m s F c)) rfl rfl ?_
            refine am_E.go (t2 := (49, [vI n, vI t, vR a, vI (am_w (lf + 1)), vI is, vI p, vI (c a p), v7], [vI p, vI (c a p)], aq_h m s F c)) rfl rfl ?_
            refine ae_icmp rfl (fun (q_19 : (c a p) = p) => ?_) (fun (q_19 : (c a p) ≠ p) => ?_)
            · refine am_E.go (t2 := (66, [vI n, vI t, vR a, vI (am_w (lf + 1)), vI is, vI p, vI (c a p), v7], [vI 0], aq_h m s F c)) rfl rfl ?_
              refine am_E.go (t2 := (68, [vI n, vI t, vR a, vI (am_w (lf + 1)), vI 0, vI p, vI (c a p), v7], [], aq_h m s F c)) rfl rfl ?_
              refine am_E.go (t2 := (69, [vI n, vI t, vR a, vI (am_w (lf + 1)), vI 0, vI p, vI (c a p), v7], [vI 0], aq_h m s F c)) rfl rfl ?_
              refine am_E.go (t2 := (71, [vI n, vI t, vR a, vI (am_w (lf + 1)), vI 0, vI p, vI (c a p), vI 0], [], aq_h m s F c)) rfl rfl ?_
              refine qm_isHalf_in ha hFa hn1 hn4 hr 6 (am_w (lf + 1)) 0 p (c a p) 0 (by omega) (by omega) rfl (by omega) ?_
              · intro is2_71 r2_71 ht_71
                refine ae_iinc rfl rfl (am_ri (by omega) (by omega)) ?_
                show am_E _ (136, [vI n, vI t, vR a, vI (am_w (lf + 1)), vI is2_71, vI (p + 1), vI (c a p), vI r2_71], [], aq_h m s F c) _
                refine am_E.go (t2 := (8, [vI n, vI t, vR a, vI (am_w (lf + 1)), vI is2_71, vI (p + 1), vI (c a p), vI r2_71], [], aq_h m s F c)) rfl rfl ?_
                exact qm_isHalf_out ha hFa hn1 hn4 hr d (am_w (lf + 1)) is2_71 (p + 1) (vI (c a p)) (vI r2_71) (by omega) (by omega) (by first | (exfalso; omega) | (rw [← ho, hf_o, if_pos (by omega), if_neg (by omega), ht_71]; first | (rw [if_pos (by omega), if_pos (by omega)]) | (rw [if_pos (by omega), if_neg (by omega)]) | (rw [if_neg (by omega), if_pos (by omega)]) | (rw [if_neg (by omega), if_neg (by omega)]))) (by omega)
            · refine am_E.go (t2 := (53, [vI n, vI t, vR a, vI (am_w (lf + 1)), vI is, vI p, vI (c a p), v7], [vR a], aq_h m s F c)) rfl rfl ?_
              refine am_E.go (t2 := (55, [vI n, vI t, vR a, vI (am_w (lf + 1)), vI is, vI p, vI (c a p), v7], [vI (c a p), vR a], aq_h m s F c)) rfl rfl ?_
              refine aq_al (ok := fun k => k == 0) (v := vI (c a (c a p))) rfl rfl ha hFa rfl (by omega) (by omega) rfl ?_
              show am_E _ (56, [vI n, vI t, vR a, vI (am_w (lf + 1)), vI is, vI p, vI (c a p), v7], [vI (c a (c a p))], aq_h m s F c) _
              have f_21 := hr (c a p) (by omega) (by omega)
              refine am_E.go (t2 := (58, [vI n, vI t, vR a, vI (am_w (lf + 1)), vI is, vI p, vI (c a p), v7], [vI p, vI (c a (c a p))], aq_h m s F c)) rfl rfl ?_
              refine ae_icmp rfl (fun (q_22 : (c a (c a p)) ≠ p) => ?_) (fun (q_22 : (c a (c a p)) = p) => ?_)
              · refine am_E.go (t2 := (66, [vI n, vI t, vR a, vI (am_w (lf + 1)), vI is, vI p, vI (c a p), v7], [vI 0], aq_h m s F c)) rfl rfl ?_
                refine am_E.go (t2 := (68, [vI n, vI t, vR a, vI (am_w (lf + 1)), vI 0, vI p, vI (c a p), v7], [], aq_h m s F c)) rfl rfl ?_
                refine am_E.go (t2 := (69, [vI n, vI t, vR a, vI (am_w (lf + 1)), vI 0, vI p, vI (c a p), v7], [vI 0], aq_h m s F c)) rfl rfl ?_
                refine am_E.go (t2 := (71, [vI n, vI t, vR a, vI (am_w (lf + 1)), vI 0, vI p, vI (c a p), vI 0], [], aq_h m s F c)) rfl rfl ?_
                refine qm_isHalf_in ha hFa hn1 hn4 hr 6 (am_w (lf + 1)) 0 p (c a p) 0 (by omega) (by omega) rfl (by omega) ?_
                · intro is2_71 r2_71 ht_71
                  refine ae_iinc rfl rfl (am_ri (by omega) (by omega)) ?_
                  show am_E _ (136, [vI n, vI t, vR a, vI (am_w (lf + 1)), vI is2_71, vI (p + 1), vI (c a p), vI r2_71], [], aq_h m s F c) _
                  refine am_E.go (t2 := (8, [vI n, vI t, vR a, vI (am_w (lf + 1)), vI is2_71, vI (p + 1), vI (c a p), vI r2_71], [], aq_h m s F c)) rfl rfl ?_
                  exact qm_isHalf_out ha hFa hn1 hn4 hr d (am_w (lf + 1)) is2_71 (p + 1) (vI (c a p)) (vI r2_71) (by omega) (by omega) (by first | (exfalso; omega) | (rw [← ho, hf_o, if_pos (by omega), if_neg (by omega), ht_71]; first | (rw [if_pos (by omega), if_pos (by omega)]) | (rw [if_pos (by omega), if_neg (by omega)]) | (rw [if_neg (by omega), if_pos (by omega)]) | (rw [if_neg (by omega), if_neg (by omega)]))) (by omega)
              · refine am_E.go (t2 := (62, [vI n, vI t, vR a, vI (am_w (lf + 1)), vI is, vI p, vI (c a p), v7], [vI 1], aq_h m s F c)) rfl rfl ?_
                refine am_E.go (t2 := (66, [vI n, vI t, vR a, vI (am_w (lf + 1)), vI is, vI p, vI (c a p), v7], [vI 1], aq_h m s F c)) rfl rfl ?_
                refine am_E.go (t2 := (68, [vI n, vI t, vR a, vI (am_w (lf + 1)), vI 1, vI p, vI (c a p), v7], [], aq_h m s F c)) rfl rfl ?_
                refine am_E.go (t2 := (69, [vI n, vI t, vR a, vI (am_w (lf + 1)), vI 1, vI p, vI (c a p), v7], [vI 0], aq_h m s F c)) rfl rfl ?_
                refine am_E.go (t2 := (71, [vI n, vI t, vR a, vI (am_w (lf + 1)), vI 1, vI p, vI (c a p), vI 0], [], aq_h m s F c)) rfl rfl ?_
                refine qm_isHalf_in ha hFa hn1 hn4 hr 6 (am_w (lf + 1)) 1 p (c a p) 0 (by omega) (by omega) rfl (by omega) ?_
                · intro is2_71 r2_71 ht_71
                  refine ae_iinc rfl rfl (am_ri (by omega) (by omega)) ?_
                  show am_E _ (136, [vI n, vI t, vR a, vI (am_w (lf + 1)), vI is2_71, vI (p + 1), vI (c a p), vI r2_71], [], aq_h m s F c) _
                  refine am_E.go (t2 := (8, [vI n, vI t, vR a, vI (am_w (lf + 1)), vI is2_71, vI (p + 1), vI (c a p), vI r2_71], [], aq_h m s F c)) rfl rfl ?_
                  exact qm_isHalf_out ha hFa hn1 hn4 hr d (am_w (lf + 1)) is2_71 (p + 1) (vI (c a p)) (vI r2_71) (by omega) (by omega) (by first | (exfalso; omega) | (rw [← ho, hf_o, if_pos (by omega), if_neg (by omega), ht_71]; first | (rw [if_pos (by omega), if_pos (by omega)]) | (rw [if_pos (by omega), if_neg (by omega)]) | (rw [if_neg (by omega), if_pos (by omega)]) | (rw [if_neg (by omega), if_neg (by omega)]))) (by omega)

theorem qm_isHalf {m s : Nat} {F : aq_F} {c : aq_C} {a : Nat} (ha : a < m) (hFa : F a = (0, 4, fun _ => .inl 0)) {n t : Int} (hn1 : 1 ≤ n) (hn4 : n ≤ 4) (hr : aq_rg a n 0 (n + 1) c) : am_E ac_X5_isHalf (0, [vI n, vI t, vR a, vU, vU, vU, vU, vU], [], aq_h m s F c) (aq_P m s F c (fun r => r = some (vI (hf_o n t (c a) 6 0 0 1)))) := by
  refine am_E.go (t2 := (1, [vI n, vI t, vR a, vU, vU, vU, vU, vU], [vI 0], aq_h m s F c)) rfl rfl ?_
  refine am_E.go (t2 := (2, [vI n, vI t, vR a, vI 0, vU, vU, vU, vU], [], aq_h m s F c)) rfl rfl ?_
  refine am_E.go (t2 := (3, [vI n, vI t, vR a, vI 0, vU, vU, vU, vU], [vI 1], aq_h m s F c)) rfl rfl ?_
  refine am_E.go (t2 := (5, [vI n, vI t, vR a, vI 0, vI 1, vU, vU, vU], [], aq_h m s F c)) rfl rfl ?_
  refine am_E.go (t2 := (6, [vI n, vI t, vR a, vI 0, vI 1, vU, vU, vU], [vI 0], aq_h m s F c)) rfl rfl ?_
  refine am_E.go (t2 := (8, [vI n, vI t, vR a, vI 0, vI 1, vI 0, vU, vU], [], aq_h m s F c)) rfl rfl ?_
  exact qm_isHalf_out ha hFa hn1 hn4 hr 6 0 1 0 (vU) (vU) (by omega) (by omega) rfl (by omega)

theorem hf_ic {n p q : Int} {f g : Int → Int} (h : ∀ i, 0 ≤ i → i < n → f i = g i) : ∀ (d : Nat) (r is : Int), 0 ≤ r → hf_i n p q f d r is = hf_i n p q g d r is
  | 0, _, _, _ => rfl
  | d + 1, r, is, hr => by
    rw [hf_i, hf_i]
    by_cases e : r < n
    · rw [if_pos e, if_pos e, h r hr e]
      by_cases e2 : is = 0
      · rw [if_pos e2, if_pos e2]
      · rw [if_neg e2, if_neg e2]
        exact hf_ic h d (r + 1) _ (by omega)
    · rw [if_neg e, if_neg e]
theorem hf_oc {n t : Int} {f g : Int → Int} (h : ∀ i, 0 ≤ i → i < n → f i = g i) (hr : ∀ i, 0 ≤ i → i < n → 0 ≤ f i ∧ f i ≤ n) : ∀ (d : Nat) (p l is : Int), 0 ≤ p → hf_o n t f d p l is = hf_o n t g d p l is
  | 0, _, _, _, _ => rfl
  | d + 1, p, l, is, hp => by
    rw [hf_o, hf_o]
    by_cases e : p < n
    · rw [if_pos e, if_pos e]
      by_cases e2 : is = 0
      · rw [if_pos e2, if_pos e2]
      · rw [if_neg e2, if_neg e2, hf_oc h hr d (p + 1) _ _ (by omega), hf_ic h 6 0 _ (by omega), ← h p hp e]
        by_cases e3 : f p = n
        · rw [if_pos (Or.inl e3), if_pos (Or.inl e3)]
        · have k := hr p hp e
          rw [← h (f p) k.1 (by omega)]
    · rw [if_neg e, if_neg e]

/-- the digits of a code, the lowest first -/
def dgt (b : Int) : Nat → Int → Int
  | 0, code => code % b
  | k + 1, code => dgt b k (code / b)
def dg_n (n code p : Int) : Int := dgt (n + 1) (n - 1 - p).toNat code
def ly (n t num C : Int) : Nat → Int → Int → Int × Int
  | 0, code, many => (many, code)
  | d + 1, code, many => if code < C then (if hf_o n t (dg_n n code) 6 0 0 1 = 0 then ly n t num C d (code + 1) many else if many = num then (many, code) else ly n t num C d (code + 1) (many + 1)) else (many, code)

theorem qm_lay_1 {m s : Nat} {F : aq_F} {c0 : aq_C} {y a : Nat} (hyy : y < m) (hFy : F y = (15, 27, mo_t y)) (ha : a < m) (hFa : F a = (0, 4, fun _ => .inl 0)) {t num : Int} {T : Int × Int} : ∀ (d : Nat) (mn : Int) (code : Int) (v8 : am_V) (v9 : am_V) (c : aq_C) (hs : aq_sm (fun b => b = a) c0 c) (h0 : 0 ≤ code) (h1 : code ≤ 2) (h2 : 0 ≤ mn) (h3 : mn ≤ code) (hl : ly 1 t num 2 d code mn = T) (hd : 2 - code < (d : Int)), am_E ac_X5_lay (32, [vR y, vI 1, vI t, vI num, vR a, vI mn, vI 2, vI code, v8, v9], [], aq_h m s F c) (aq_Z m s F (fun b => b = a) c0 (fun r d => r = some (vI T.1) ∧ (T.2 < 2 → ∀ i, 0 ≤ i → i < 1 → d a i = dg_n 1 T.2 i)))
  | 0, mn, code, v8, v9, c, hs, h0, h1, h2, h3, hl, hd => by exfalso; omega
  | d + 1, mn, code, v8, v9, c, hs, h0, h1, h2, h3, hl, hd => by
    refine am_E.go (t2 := (34, [vR y, vI 1, vI t, vI num, vR a, vI mn, vI 2, vI code, v8, v9], [vI code], aq_h m s F c)) rfl rfl ?_
    refine am_E.go (t2 := (36, [vR y, vI 1, vI t, vI num, vR a, vI mn, vI 2, vI code, v8, v9], [vI 2, vI code], aq_h m s F c)) rfl rfl ?_
    refine ae_icmp rfl (fun (q_1 : 2 ≤ code) => ?_) (fun (q_1 : code < 2) => ?_)
    · refine am_E.go (t2 := (108, [vR y, vI 1, vI t, vI num, vR a, vI mn, vI 2, vI code, v8, v9], [vI mn], aq_h m s F c)) rfl rfl ?_
      refine am_E.ret rfl rfl ?_
      have eT : T = (mn, code) := by rw [← hl, ly, if_neg (by omega)]
      rw [eT]
      exact ⟨_, rfl, hs, rfl, fun h => absurd h (by show ¬ code < 2; omega)⟩
    · refine am_E.go (t2 := (41, [vR y, vI 1, vI t, vI num, vR a, vI mn, vI 2, vI code, v8, v9], [vI code], aq_h m s F c)) rfl rfl ?_
      refine am_E.go (t2 := (43, [vR y, vI 1, vI t, vI num, vR a, vI mn, vI 2, vI code, vI code, v9], [], aq_h m s F c)) rfl rfl ?_
      refine am_E.go (t2 := (44, [vR y, vI 1, vI t, vI num, vR a, vI mn, vI 2, vI code, vI code, v9], [vI 1], aq_h m s F c)) rfl rfl ?_
      refine am_E.go (t2 := (45, [vR y, vI 1, vI t, vI num, vR a, vI mn, vI 2, vI code, vI code, v9], [vI 1, vI 1], aq_h m s F c)) rfl rfl ?_
      refine am_E.go (t2 := (46, [vR y, vI 1, vI t, vI num, vR a, vI mn, vI 2, vI code, vI code, v9], [vI 0], aq_h m s F c)) rfl rfl ?_
      refine am_E.go (t2 := (48, [vR y, vI 1, vI t, vI num, vR a, vI mn, vI 2, vI code, vI code, vI 0], [], aq_h m s F c)) rfl rfl ?_
      refine am_E.go (t2 := (50, [vR y, vI 1, vI t, vI num, vR a, vI mn, vI 2, vI code, vI code, vI 0], [vI 0], aq_h m s F c)) rfl rfl ?_
      refine am_E.go (t2 := (53, [vR y, vI 1, vI t, vI num, vR a, vI mn, vI 2, vI code, vI code, vI 0], [], aq_h m s F c)) rfl rfl ?_
      refine am_E.go (t2 := (55, [vR y, vI 1, vI t, vI num, vR a, vI mn, vI 2, vI code, vI code, vI 0], [vR a], aq_h m s F c)) rfl rfl ?_
      refine am_E.go (t2 := (57, [vR y, vI 1, vI t, vI num, vR a, vI mn, vI 2, vI code, vI code, vI 0], [vI 0, vR a], aq_h m s F c)) rfl rfl ?_
      refine am_E.go (t2 := (59, [vR y, vI 1, vI t, vI num, vR a, vI mn, vI 2, vI code, vI code, vI 0], [vI code, vI 0, vR a], aq_h m s F c)) rfl rfl ?_
      refine am_E.go (t2 := (60, [vR y, vI 1, vI t, vI num, vR a, vI mn, vI 2, vI code, vI code, vI 0], [vI 1, vI code, vI 0, vR a], aq_h m s F c)) rfl rfl ?_
      refine am_E.go (t2 := (61, [vR y, vI 1, vI t, vI num, vR a, vI mn, vI 2, vI code, vI code, vI 0], [vI 1, vI 1, vI code, vI 0, vR a], aq_h m s F c)) rfl rfl ?_
      refine am_E.go (t2 := (62, [vR y, vI 1, vI t, vI num, vR a, vI mn, vI 2, vI code, vI code, vI 0], [vI 2, vI code, vI 0, vR a], aq_h m s F c)) rfl rfl ?_
      refine ae_bin (z := code % 2) rfl rfl (am_rem_e (by omega) (by decide)) ?_
      show am_E _ (63, [vR y, vI 1, vI t, vI num, vR a, vI mn, vI 2, vI code, vI code, vI 0], [vI (code % 2), vI 0, vR a], aq_h m s F c) _
      refine aq_as (kd := 0) rfl rfl ha hFa (by omega) (by omega) rfl rfl ?_
      show am_E _ (64, [vR y, vI 1, vI t, vI num, vR a, vI mn, vI 2, vI code, vI code, vI 0], [], aq_h m s F (aq_u c a 0 (code % 2))) _
      generalize hdc_2 : aq_u c a 0 (code % 2) = c_2
      have sc_2 := aq_smu hs hdc_2 rfl
      refine am_E.go (t2 := (66, [vR y, vI 1, vI t, vI num, vR a, vI mn, vI 2, vI code, vI code, vI 0], [vI code], aq_h m s F c_2)) rfl rfl ?_
      refine am_E.go (t2 := (67, [vR y, vI 1, vI t, vI num, vR a, vI mn, vI 2, vI code, vI code, vI 0], [vI 1, vI code], aq_h m s F c_2)) rfl rfl ?_
      refine am_E.go (t2 := (68, [vR y, vI 1, vI t, vI num, vR a, vI mn, vI 2, vI code, vI code, vI 0], [vI 1, vI 1, vI code], aq_h m s F c_2)) rfl rfl ?_
      refine am_E.go (t2 := (69, [vR y, vI 1, vI t, vI num, vR a, vI mn, vI 2, vI code, vI code, vI 0], [vI 2, vI code], aq_h m s F c_2)) rfl rfl ?_
      refine ae_bin (z := code / 2) rfl rfl (am_div_e (by omega) (by omega) (by decide)) ?_
      show am_E _ (70, [vR y, vI 1, vI t, vI num, vR a, vI mn, vI 2, vI code, vI code, vI 0], [vI (code / 2)], aq_h m s F c_2) _
      refine am_E.go (t2 := (72, [vR y, vI 1, vI t, vI num, vR a, vI mn, vI 2, vI code, vI (code / 2), vI 0], [], aq_h m s F c_2)) rfl rfl ?_
      refine am_E.go (t2 := (75, [vR y, vI 1, vI t, vI num, vR a, vI mn, vI 2, vI code, vI (code / 2), vI (-1)], [], aq_h m s F c_2)) rfl rfl ?_
      refine am_E.go (t2 := (48, [vR y, vI 1, vI t, vI num, vR a, vI mn, vI 2, vI code, vI (code / 2), vI (-1)], [], aq_h m s F c_2)) rfl rfl ?_
      refine am_E.go (t2 := (50, [vR y, vI 1, vI t, vI num, vR a, vI mn, vI 2, vI code, vI (code / 2), vI (-1)], [vI (-1)], aq_h m s F c_2)) rfl rfl ?_
      refine am_E.go (t2 := (78, [vR y, vI 1, vI t, vI num, vR a, vI mn, vI 2, vI code, vI (code / 2), vI (-1)], [], aq_h m s F c_2)) rfl rfl ?_
      refine am_E.go (t2 := (79, [vR y, vI 1, vI t, vI num, vR a, vI mn, vI 2, vI code, vI (code / 2), vI (-1)], [vI 1], aq_h m s F c_2)) rfl rfl ?_
      refine am_E.go (t2 := (80, [vR y, vI 1, vI t, vI num, vR a, vI mn, vI 2, vI code, vI (code / 2), vI (-1)], [vI t, vI 1], aq_h m s F c_2)) rfl rfl ?_
      refine am_E.go (t2 := (82, [vR y, vI 1, vI t, vI num, vR a, vI mn, vI 2, vI code, vI (code / 2), vI (-1)], [vR a, vI t, vI 1], aq_h m s F c_2)) rfl rfl ?_
      have hz : ∀ i, 0 ≤ i → i < 1 → c_2 a i = dg_n 1 code i := by
        intro i h5 h6
        have h7 : i = 0 := by omega
        rw [h7, ← hdc_2, aq_us]
        rfl
      have hd5 : ∀ i, 0 ≤ i → i < 1 → 0 ≤ dg_n 1 code i ∧ dg_n 1 code i < 2 := by
        intro i h5 h6
        have h7 : i = 0 := by omega
        rw [h7]
        show 0 ≤ code % 2 ∧ code % 2 < 2
        omega
      have hrg : aq_rg a 1 0 (1 + 1) c_2 := fun i h5 h6 => by rw [hz i h5 h6]; exact hd5 i h5 h6
      have hoc := hf_oc (n := 1) (t := t) hz (fun i h5 h6 => by have := hrg i h5 h6; omega) 6 0 0 1 (by decide)
      refine am_E.call rfl rfl rfl (Nat.le_of_ble_eq_true rfl) (qm_isHalf (n := 1) (t := t) ha hFa (by decide) (by decide) hrg) ?_
      rintro r5 h5 ⟨rfl, rfl⟩
      rw [hoc]
      show am_E _ (85, [vR y, vI 1, vI t, vI num, vR a, vI mn, vI 2, vI code, vI (code / 2), vI (-1)], [vI (hf_o 1 t (dg_n 1 code) 6 0 0 1)], aq_h m s F c_2) _
      refine ae_if0 rfl (fun (q_3 : (hf_o 1 t (dg_n 1 code) 6 0 0 1) = 0) => ?_) (fun (q_3 : (hf_o 1 t (dg_n 1 code) 6 0 0 1) ≠ 0) => ?_)
      · have hq_h := q_3
        refine ae_iinc rfl rfl (am_ri (by omega) (by omega)) ?_
        show am_E _ (103, [vR y, vI 1, vI t, vI num, vR a, vI mn, vI 2, vI (code + 1), vI (code / 2), vI (-1)], [], aq_h m s F c_2) _
        refine am_E.go (t2 := (32, [vR y, vI 1, vI t, vI num, vR a, vI mn, vI 2, vI (code + 1), vI (code / 2), vI (-1)], [], aq_h m s F c_2)) rfl rfl ?_
        exact qm_lay_1 hyy hFy ha hFa d mn (code + 1) (vI (code / 2)) (vI (-1)) c_2 sc_2 (by omega) (by omega) (by omega) (by omega) (by rw [← hl, ly, if_pos (by omega)]; first | (rw [if_pos hq_h]) | (rw [if_neg hq_h, if_neg (by omega)])) (by omega)
      · have hq_h := q_3
        refine am_E.go (t2 := (90, [vR y, vI 1, vI t, vI num, vR a, vI mn, vI 2, vI code, vI (code / 2), vI (-1)], [vI mn], aq_h m s F c_2)) rfl rfl ?_
        refine am_E.go (t2 := (91, [vR y, vI 1, vI t, vI num, vR a, vI mn, vI 2, vI code, vI (code / 2), vI (-1)], [vI num, vI mn], aq_h m s F c_2)) rfl rfl ?_
        refine ae_icmp rfl (fun (q_4 : mn ≠ num) => ?_) (fun (q_4 : mn = num) => ?_)
        · refine ae_iinc rfl rfl (am_ri (by omega) (by omega)) ?_
          show am_E _ (100, [vR y, vI 1, vI t, vI num, vR a, vI (mn + 1), vI 2, vI code, vI (code / 2), vI (-1)], [], aq_h m s F c_2) _
          refine ae_iinc rfl rfl (am_ri (by omega) (by omega)) ?_
          show am_E _ (103, [vR y, vI 1, vI t, vI num, vR a, vI (mn + 1), vI 2, vI (code + 1), vI (code / 2), vI (-1)], [], aq_h m s F c_2) _
          refine am_E.go (t2 := (32, [vR y, vI 1, vI t, vI num, vR a, vI (mn + 1), vI 2, vI (code + 1), vI (code / 2), vI (-1)], [], aq_h m s F c_2)) rfl rfl ?_
          exact qm_lay_1 hyy hFy ha hFa d (mn + 1) (code + 1) (vI (code / 2)) (vI (-1)) c_2 sc_2 (by omega) (by omega) (by omega) (by omega) (by rw [← hl, ly, if_pos (by omega)]; first | (rw [if_pos hq_h]) | (rw [if_neg hq_h, if_neg (by omega)])) (by omega)
        · refine am_E.go (t2 := (96, [vR y, vI 1, vI t, vI num, vR a, vI mn, vI 2, vI code, vI (code / 2), vI (-1)], [vI mn], aq_h m s F c_2)) rfl rfl ?_
          refine am_E.ret rfl rfl ?_
          have eT : T = (mn, code) := by rw [← hl, ly, if_pos (by omega), if_neg hq_h, if_pos (by omega)]
          rw [eT]
          exact ⟨_, rfl, sc_2, rfl, fun _ => hz⟩

theorem qm_lay1 {m s : Nat} {F : aq_F} {c : aq_C} {y a : Nat} (hyy : y < m) (hFy : F y = (15, 27, mo_t y)) (ha : a < m) (hFa : F a = (0, 4, fun _ => .inl 0)) {t num : Int} : am_E ac_X5_lay (0, [vR y, vI 1, vI t, vI num, vR a, vU, vU, vU, vU, vU], [], aq_h m s F c) (aq_Z m s F (fun b => b = a) c (fun r d => r = some (vI (ly 1 t num 2 3 0 0).1) ∧ ((ly 1 t num 2 3 0 0).2 < 2 → ∀ i, 0 ≤ i → i < 1 → d a i = dg_n 1 (ly 1 t num 2 3 0 0).2 i))) := by
  refine am_E.go (t2 := (1, [vR y, vI 1, vI t, vI num, vR a, vU, vU, vU, vU, vU], [vI 0], aq_h m s F c)) rfl rfl ?_
  refine am_E.go (t2 := (3, [vR y, vI 1, vI t, vI num, vR a, vI 0, vU, vU, vU, vU], [], aq_h m s F c)) rfl rfl ?_
  refine am_E.go (t2 := (4, [vR y, vI 1, vI t, vI num, vR a, vI 0, vU, vU, vU, vU], [vI 1], aq_h m s F c)) rfl rfl ?_
  refine am_E.go (t2 := (6, [vR y, vI 1, vI t, vI num, vR a, vI 0, vI 1, vU, vU, vU], [], aq_h m s F c)) rfl rfl ?_
  refine am_E.go (t2 := (7, [vR y, vI 1, vI t, vI num, vR a, vI 0, vI 1, vU, vU, vU], [vI 0], aq_h m s F c)) rfl rfl ?_
  refine am_E.go (t2 := (9, [vR y, vI 1, vI t, vI num, vR a, vI 0, vI 1, vI 0, vU, vU], [], aq_h m s F c)) rfl rfl ?_
  refine am_E.go (t2 := (11, [vR y, vI 1, vI t, vI num, vR a, vI 0, vI 1, vI 0, vU, vU], [vI 0], aq_h m s F c)) rfl rfl ?_
  refine am_E.go (t2 := (12, [vR y, vI 1, vI t, vI num, vR a, vI 0, vI 1, vI 0, vU, vU], [vI 1, vI 0], aq_h m s F c)) rfl rfl ?_
  refine am_E.go (t2 := (15, [vR y, vI 1, vI t, vI num, vR a, vI 0, vI 1, vI 0, vU, vU], [], aq_h m s F c)) rfl rfl ?_
  refine am_E.go (t2 := (17, [vR y, vI 1, vI t, vI num, vR a, vI 0, vI 1, vI 0, vU, vU], [vI 1], aq_h m s F c)) rfl rfl ?_
  refine am_E.go (t2 := (18, [vR y, vI 1, vI t, vI num, vR a, vI 0, vI 1, vI 0, vU, vU], [vI 1, vI 1], aq_h m s F c)) rfl rfl ?_
  refine am_E.go (t2 := (19, [vR y, vI 1, vI t, vI num, vR a, vI 0, vI 1, vI 0, vU, vU], [vI 1, vI 1, vI 1], aq_h m s F c)) rfl rfl ?_
  refine am_E.go (t2 := (20, [vR y, vI 1, vI t, vI num, vR a, vI 0, vI 1, vI 0, vU, vU], [vI 2, vI 1], aq_h m s F c)) rfl rfl ?_
  refine am_E.go (t2 := (21, [vR y, vI 1, vI t, vI num, vR a, vI 0, vI 1, vI 0, vU, vU], [vI 2], aq_h m s F c)) rfl rfl ?_
  refine am_E.go (t2 := (23, [vR y, vI 1, vI t, vI num, vR a, vI 0, vI 2, vI 0, vU, vU], [], aq_h m s F c)) rfl rfl ?_
  refine am_E.go (t2 := (26, [vR y, vI 1, vI t, vI num, vR a, vI 0, vI 2, vI 1, vU, vU], [], aq_h m s F c)) rfl rfl ?_
  refine am_E.go (t2 := (9, [vR y, vI 1, vI t, vI num, vR a, vI 0, vI 2, vI 1, vU, vU], [], aq_h m s F c)) rfl rfl ?_
  refine am_E.go (t2 := (11, [vR y, vI 1, vI t, vI num, vR a, vI 0, vI 2, vI 1, vU, vU], [vI 1], aq_h m s F c)) rfl rfl ?_
  refine am_E.go (t2 := (12, [vR y, vI 1, vI t, vI num, vR a, vI 0, vI 2, vI 1, vU, vU], [vI 1, vI 1], aq_h m s F c)) rfl rfl ?_
  refine am_E.go (t2 := (29, [vR y, vI 1, vI t, vI num, vR a, vI 0, vI 2, vI 1, vU, vU], [], aq_h m s F c)) rfl rfl ?_
  refine am_E.go (t2 := (30, [vR y, vI 1, vI t, vI num, vR a, vI 0, vI 2, vI 1, vU, vU], [vI 0], aq_h m s F c)) rfl rfl ?_
  refine am_E.go (t2 := (32, [vR y, vI 1, vI t, vI num, vR a, vI 0, vI 2, vI 0, vU, vU], [], aq_h m s F c)) rfl rfl ?_
  exact qm_lay_1 hyy hFy ha hFa 3 0 0 (vU) (vU) c (aq_sm0 (c := c) (S := (fun b => b = a))) (by omega) (by omega) (by omega) (by omega) rfl (by omega)

theorem qm_lay_2 {m s : Nat} {F : aq_F} {c0 : aq_C} {y a : Nat} (hyy : y < m) (hFy : F y = (15, 27, mo_t y)) (ha : a < m) (hFa : F a = (0, 4, fun _ => .inl 0)) {t num : Int} {T : Int × Int} : ∀ (d : Nat) (mn : Int) (code : Int) (v8 : am_V) (v9 : am_V) (c : aq_C) (hs : aq_sm (fun b => b = a) c0 c) (h0 : 0 ≤ code) (h1 : code ≤ 9) (h2 : 0 ≤ mn) (h3 : mn ≤ code) (hl : ly 2 t num 9 d code mn = T) (hd : 9 - code < (d : Int)), am_E ac_X5_lay (32, [vR y, vI 2, vI t, vI num, vR a, vI mn, vI 9, vI code, v8, v9], [], aq_h m s F c) (aq_Z m s F (fun b => b = a) c0 (fun r d => r = some (vI T.1) ∧ (T.2 < 9 → ∀ i, 0 ≤ i → i < 2 → d a i = dg_n 2 T.2 i)))
  | 0, mn, code, v8, v9, c, hs, h0, h1, h2, h3, hl, hd => by exfalso; omega
  | d + 1, mn, code, v8, v9, c, hs, h0, h1, h2, h3, hl, hd => by
    refine am_E.go (t2 := (34, [vR y, vI 2, vI t, vI num, vR a, vI mn, vI 9, vI code, v8, v9], [vI code], aq_h m s F c)) rfl rfl ?_
    refine am_E.go (t2 := (36, [vR y, vI 2, vI t, vI num, vR a, vI mn, vI 9, vI code, v8, v9], [vI 9, vI code], aq_h m s F c)) rfl rfl ?_
    refine ae_icmp rfl (fun (q_1 : 9 ≤ code) => ?_) (fun (q_1 : code < 9) => ?_)
    · refine am_E.go (t2 := (108, [vR y, vI 2, vI t, vI num, vR a, vI mn, vI 9, vI code, v8, v9], [vI mn], aq_h m s F c)) rfl rfl ?_
      refine am_E.ret rfl rfl ?_
      have eT : T = (mn, code) := by rw [← hl, ly, if_neg (by omega)]
      rw [eT]
      exact ⟨_, rfl, hs, rfl, fun h => absurd h (by show ¬ code < 9; omega)⟩
    · refine am_E.go (t2 := (41, [vR y, vI 2, vI t, vI num, vR a, vI mn, vI 9, vI code, v8, v9], [vI code], aq_h m s F c)) rfl rfl ?_
      refine am_E.go (t2 := (43, [vR y, vI 2, vI t, vI num, vR a, vI mn, vI 9, vI code, vI code, v9], [], aq_h m s F c)) rfl rfl ?_
      refine am_E.go (t2 := (44, [vR y, vI 2, vI t, vI num, vR a, vI mn, vI 9, vI code, vI code, v9], [vI 2], aq_h m s F c)) rfl rfl ?_
      refine am_E.go (t2 := (45, [vR y, vI 2, vI t, vI num, vR a, vI mn, vI 9, vI code, vI code, v9], [vI 1, vI 2], aq_h m s F c)) rfl rfl ?_
      refine am_E.go (t2 := (46, [vR y, vI 2, vI t, vI num, vR a, vI mn, vI 9, vI code, vI code, v9], [vI 1], aq_h m s F c)) rfl rfl ?_
      refine am_E.go (t2 := (48, [vR y, vI 2, vI t, vI num, vR a, vI mn, vI 9, vI code, vI code, vI 1], [], aq_h m s F c)) rfl rfl ?_
      refine am_E.go (t2 := (50, [vR y, vI 2, vI t, vI num, vR a, vI mn, vI 9, vI code, vI code, vI 1], [vI 1], aq_h m s F c)) rfl rfl ?_
      refine am_E.go (t2 := (53, [vR y, vI 2, vI t, vI num, vR a, vI mn, vI 9, vI code, vI code, vI 1], [], aq_h m s F c)) rfl rfl ?_
      refine am_E.go (t2 := (55, [vR y, vI 2, vI t, vI num, vR a, vI mn, vI 9, vI code, vI code, vI 1], [vR a], aq_h m s F c)) rfl rfl ?_
      refine am_E.go (t2 := (57, [vR y, vI 2, vI t, vI num, vR a, vI mn, vI 9, vI code, vI code, vI 1], [vI 1, vR a], aq_h m s F c)) rfl rfl ?_
      refine am_E.go (t2 := (59, [vR y, vI 2, vI t, vI num, vR a, vI mn, vI 9, vI code, vI code, vI 1], [vI code, vI 1, vR a], aq_h m s F c)) rfl rfl ?_
      refine am_E.go (t2 := (60, [vR y, vI 2, vI t, vI num, vR a, vI mn, vI 9, vI code, vI code, vI 1], [vI 2, vI code, vI 1, vR a], aq_h m s F c)) rfl rfl ?_
      refine am_E.go (t2 := (61, [vR y, vI 2, vI t, vI num, vR a, vI mn, vI 9, vI code, vI code, vI 1], [vI 1, vI 2, vI code, vI 1, vR a], aq_h m s F c)) rfl rfl ?_
      refine am_E.go (t2 := (62, [vR y, vI 2, vI t, vI num, vR a, vI mn, vI 9, vI code, vI code, vI 1], [vI 3, vI code, vI 1, vR a], aq_h m s F c)) rfl rfl ?_
      refine ae_bin (z := code % 3) rfl rfl (am_rem_e (by omega) (by decide)) ?_
      show am_E _ (63, [vR y, vI 2, vI t, vI num, vR a, vI mn, vI 9, vI code, vI code, vI 1], [vI (code % 3), vI 1, vR a], aq_h m s F c) _
      refine aq_as (kd := 0) rfl rfl ha hFa (by omega) (by omega) rfl rfl ?_
      show am_E _ (64, [vR y, vI 2, vI t, vI num, vR a, vI mn, vI 9, vI code, vI code, vI 1], [], aq_h m s F (aq_u c a 1 (code % 3))) _
      generalize hdc_2 : aq_u c a 1 (code % 3) = c_2
      have sc_2 := aq_smu hs hdc_2 rfl
      refine am_E.go (t2 := (66, [vR y, vI 2, vI t, vI num, vR a, vI mn, vI 9, vI code, vI code, vI 1], [vI code], aq_h m s F c_2)) rfl rfl ?_
      refine am_E.go (t2 := (67, [vR y, vI 2, vI t, vI num, vR a, vI mn, vI 9, vI code, vI code, vI 1], [vI 2, vI code], aq_h m s F c_2)) rfl rfl ?_
      refine am_E.go (t2 := (68, [vR y, vI 2, vI t, vI num, vR a, vI mn, vI 9, vI code, vI code, vI 1], [vI 1, vI 2, vI code], aq_h m s F c_2)) rfl rfl ?_
      refine am_E.go (t2 := (69, [vR y, vI 2, vI t, vI num, vR a, vI mn, vI 9, vI code, vI code, vI 1], [vI 3, vI code], aq_h m s F c_2)) rfl rfl ?_
      refine ae_bin (z := code / 3) rfl rfl (am_div_e (by omega) (by omega) (by decide)) ?_
      show am_E _ (70, [vR y, vI 2, vI t, vI num, vR a, vI mn, vI 9, vI code, vI code, vI 1], [vI (code / 3)], aq_h m s F c_2) _
      refine am_E.go (t2 := (72, [vR y, vI 2, vI t, vI num, vR a, vI mn, vI 9, vI code, vI (code / 3), vI 1], [], aq_h m s F c_2)) rfl rfl ?_
      refine am_E.go (t2 := (75, [vR y, vI 2, vI t, vI num, vR a, vI mn, vI 9, vI code, vI (code / 3), vI 0], [], aq_h m s F c_2)) rfl rfl ?_
      refine am_E.go (t2 := (48, [vR y, vI 2, vI t, vI num, vR a, vI mn, vI 9, vI code, vI (code / 3), vI 0], [], aq_h m s F c_2)) rfl rfl ?_
      refine am_E.go (t2 := (50, [vR y, vI 2, vI t, vI num, vR a, vI mn, vI 9, vI code, vI (code / 3), vI 0], [vI 0], aq_h m s F c_2)) rfl rfl ?_
      refine am_E.go (t2 := (53, [vR y, vI 2, vI t, vI num, vR a, vI mn, vI 9, vI code, vI (code / 3), vI 0], [], aq_h m s F c_2)) rfl rfl ?_
      refine am_E.go (t2 := (55, [vR y, vI 2, vI t, vI num, vR a, vI mn, vI 9, vI code, vI (code / 3), vI 0], [vR a], aq_h m s F c_2)) rfl rfl ?_
      refine am_E.go (t2 := (57, [vR y, vI 2, vI t, vI num, vR a, vI mn, vI 9, vI code, vI (code / 3), vI 0], [vI 0, vR a], aq_h m s F c_2)) rfl rfl ?_
      refine am_E.go (t2 := (59, [vR y, vI 2, vI t, vI num, vR a, vI mn, vI 9, vI code, vI (code / 3), vI 0], [vI (code / 3), vI 0, vR a], aq_h m s F c_2)) rfl rfl ?_
      refine am_E.go (t2 := (60, [vR y, vI 2, vI t, vI num, vR a, vI mn, vI 9, vI code, vI (code / 3), vI 0], [vI 2, vI (code / 3), vI 0, vR a], aq_h m s F c_2)) rfl rfl ?_
      refine am_E.go (t2 := (61, [vR y, vI 2, vI t, vI num, vR a, vI mn, vI 9, vI code, vI (code / 3), vI 0], [vI 1, vI 2, vI (code / 3), vI 0, vR a], aq_h m s F c_2)) rfl rfl ?_
      refine am_E.go (t2 := (62, [vR y, vI 2, vI t, vI num, vR a, vI mn, vI 9, vI code, vI (code / 3), vI 0], [vI 3, vI (code / 3), vI 0, vR a], aq_h m s F c_2)) rfl rfl ?_
      refine ae_bin (z := (code / 3) % 3) rfl rfl (am_rem_e (by omega) (by decide)) ?_
      show am_E _ (63, [vR y, vI 2, vI t, vI num, vR a, vI mn, vI 9, vI code, vI (code / 3), vI 0], [vI ((code / 3) % 3), vI 0, vR a], aq_h m s F c_2) _
      refine aq_as (kd := 0) rfl rfl ha hFa (by omega) (by omega) rfl rfl ?_
      show am_E _ (64, [vR y, vI 2, vI t, vI num, vR a, vI mn, vI 9, vI code, vI (code / 3), vI 0], [], aq_h m s F (aq_u c_2 a 0 ((code / 3) % 3))) _
      generalize hdc_3 : aq_u c_2 a 0 ((code / 3) % 3) = c_3
      have sc_3 := aq_smu sc_2 hdc_3 rfl
      refine am_E.go (t2 := (66, [vR y, vI 2, vI t, vI num, vR a, vI mn, vI 9, vI code, vI (code / 3), vI 0], [vI (code / 3)], aq_h m s F c_3)) rfl rfl ?_
      refine am_E.go (t2 := (67, [vR y, vI 2, vI t, vI num, vR a, vI mn, vI 9, vI code, vI (code / 3), vI 0], [vI 2, vI (code / 3)], aq_h m s F c_3)) rfl rfl ?_
      refine am_E.go (t2 := (68, [vR y, vI 2, vI t, vI num, vR a, vI mn, vI 9, vI code, vI (code / 3), vI 0], [vI 1, vI 2, vI (code / 3)], aq_h m s F c_3)) rfl rfl ?_
      refine am_E.go (t2 := (69, [vR y, vI 2, vI t, vI num, vR a, vI mn, vI 9, vI code, vI (code / 3), vI 0], [vI 3, vI (code / 3)], aq_h m s F c_3)) rfl rfl ?_
      refine ae_bin (z := (code / 3) / 3) rfl rfl (am_div_e (by omega) (by omega) (by decide)) ?_
      show am_E _ (70, [vR y, vI 2, vI t, vI num, vR a, vI mn, vI 9, vI code, vI (code / 3), vI 0], [vI ((code / 3) / 3)], aq_h m s F c_3) _
      refine am_E.go (t2 := (72, [vR y, vI 2, vI t, vI num, vR a, vI mn, vI 9, vI code, vI ((code / 3) / 3), vI 0], [], aq_h m s F c_3)) rfl rfl ?_
      refine am_E.go (t2 := (75, [vR y, vI 2, vI t, vI num, vR a, vI mn, vI 9, vI code, vI ((code / 3) / 3), vI (-1)], [], aq_h m s F c_3)) rfl rfl ?_
      refine am_E.go (t2 := (48, [vR y, vI 2, vI t, vI num, vR a, vI mn, vI 9, vI code, vI ((code / 3) / 3), vI (-1)], [], aq_h m s F c_3)) rfl rfl ?_
      refine am_E.go (t2 := (50, [vR y, vI 2, vI t, vI num, vR a, vI mn, vI 9, vI code, vI ((code / 3) / 3), vI (-1)], [vI (-1)], aq_h m s F c_3)) rfl rfl ?_
      refine am_E.go (t2 := (78, [vR y, vI 2, vI t, vI num, vR a, vI mn, vI 9, vI code, vI ((code / 3) / 3), vI (-1)], [], aq_h m s F c_3)) rfl rfl ?_
      refine am_E.go (t2 := (79, [vR y, vI 2, vI t, vI num, vR a, vI mn, vI 9, vI code, vI ((code / 3) / 3), vI (-1)], [vI 2], aq_h m s F c_3)) rfl rfl ?_
      refine am_E.go (t2 := (80, [vR y, vI 2, vI t, vI num, vR a, vI mn, vI 9, vI code, vI ((code / 3) / 3), vI (-1)], [vI t, vI 2], aq_h m s F c_3)) rfl rfl ?_
      refine am_E.go (t2 := (82, [vR y, vI 2, vI t, vI num, vR a, vI mn, vI 9, vI code, vI ((code / 3) / 3), vI (-1)], [vR a, vI t, vI 2], aq_h m s F c_3)) rfl rfl ?_
      have hz : ∀ i, 0 ≤ i → i < 2 → c_3 a i = dg_n 2 code i := by
        intro i h5 h6
        have h7 : i = 0 ∨ i = 1 := by omega
        rcases h7 with h7 | h7
        · rw [h7, ← hdc_3, aq_us]
          rfl
        · rw [h7, ← hdc_3, aq_un (Or.inr (by decide)), ← hdc_2, aq_us]
          rfl
      have hd5 : ∀ i, 0 ≤ i → i < 2 → 0 ≤ dg_n 2 code i ∧ dg_n 2 code i < 3 := by
        intro i h5 h6
        have h7 : i = 0 ∨ i = 1 := by omega
        rcases h7 with h7 | h7
        · rw [h7]
          show 0 ≤ code / 3 % 3 ∧ code / 3 % 3 < 3
          omega
        · rw [h7]
          show 0 ≤ code % 3 ∧ code % 3 < 3
          omega
      have hrg : aq_rg a 2 0 (2 + 1) c_3 := fun i h5 h6 => by rw [hz i h5 h6]; exact hd5 i h5 h6
      have hoc := hf_oc (n := 2) (t := t) hz (fun i h5 h6 => by have := hrg i h5 h6; omega) 6 0 0 1 (by decide)
      refine am_E.call rfl rfl rfl (Nat.le_of_ble_eq_true rfl) (qm_isHalf (n := 2) (t := t) ha hFa (by decide) (by decide) hrg) ?_
      rintro r5 h5 ⟨rfl, rfl⟩
      rw [hoc]
      show am_E _ (85, [vR y, vI 2, vI t, vI num, vR a, vI mn, vI 9, vI code, vI ((code / 3) / 3), vI (-1)], [vI (hf_o 2 t (dg_n 2 code) 6 0 0 1)], aq_h m s F c_3) _
      refine ae_if0 rfl (fun (q_4 : (hf_o 2 t (dg_n 2 code) 6 0 0 1) = 0) => ?_) (fun (q_4 : (hf_o 2 t (dg_n 2 code) 6 0 0 1) ≠ 0) => ?_)
      · have hq_h := q_4
        refine ae_iinc rfl rfl (am_ri (by omega) (by omega)) ?_
        show am_E _ (103, [vR y, vI 2, vI t, vI num, vR a, vI mn, vI 9, vI (code + 1), vI ((code / 3) / 3), vI (-1)], [], aq_h m s F c_3) _
        refine am_E.go (t2 := (32, [vR y, vI 2, vI t, vI num, vR a, vI mn, vI 9, vI (code + 1), vI ((code / 3) / 3), vI (-1)], [], aq_h m s F c_3)) rfl rfl ?_
        exact qm_lay_2 hyy hFy ha hFa d mn (code + 1) (vI ((code / 3) / 3)) (vI (-1)) c_3 sc_3 (by omega) (by omega) (by omega) (by omega) (by rw [← hl, ly, if_pos (by omega)]; first | (rw [if_pos hq_h]) | (rw [if_neg hq_h, if_neg (by omega)])) (by omega)
      · have hq_h := q_4
        refine am_E.go (t2 := (90, [vR y, vI 2, vI t, vI num, vR a, vI mn, vI 9, vI code, vI ((code / 3) / 3), vI (-1)], [vI mn], aq_h m s F c_3)) rfl rfl ?_
        refine am_E.go (t2 := (91, [vR y, vI 2, vI t, vI num, vR a, vI mn, vI 9, vI code, vI ((code / 3) / 3), vI (-1)], [vI num, vI mn], aq_h m s F c_3)) rfl rfl ?_
        refine ae_icmp rfl (fun (q_5 : mn ≠ num) => ?_) (fun (q_5 : mn = num) => ?_)
        · refine ae_iinc rfl rfl (am_ri (by omega) (by omega)) ?_
          show am_E _ (100, [vR y, vI 2, vI t, vI num, vR a, vI (mn + 1), vI 9, vI code, vI ((code / 3) / 3), vI (-1)], [], aq_h m s F c_3) _
          refine ae_iinc rfl rfl (am_ri (by omega) (by omega)) ?_
          show am_E _ (103, [vR y, vI 2, vI t, vI num, vR a, vI (mn + 1), vI 9, vI (code + 1), vI ((code / 3) / 3), vI (-1)], [], aq_h m s F c_3) _
          refine am_E.go (t2 := (32, [vR y, vI 2, vI t, vI num, vR a, vI (mn + 1), vI 9, vI (code + 1), vI ((code / 3) / 3), vI (-1)], [], aq_h m s F c_3)) rfl rfl ?_
          exact qm_lay_2 hyy hFy ha hFa d (mn + 1) (code + 1) (vI ((code / 3) / 3)) (vI (-1)) c_3 sc_3 (by omega) (by omega) (by omega) (by omega) (by rw [← hl, ly, if_pos (by omega)]; first | (rw [if_pos hq_h]) | (rw [if_neg hq_h, if_neg (by omega)])) (by omega)
        · refine am_E.go (t2 := (96, [vR y, vI 2, vI t, vI num, vR a, vI mn, vI 9, vI code, vI ((code / 3) / 3), vI (-1)], [vI mn], aq_h m s F c_3)) rfl rfl ?_
          refine am_E.ret rfl rfl ?_
          have eT : T = (mn, code) := by rw [← hl, ly, if_pos (by omega), if_neg hq_h, if_pos (by omega)]
          rw [eT]
          exact ⟨_, rfl, sc_3, rfl, fun _ => hz⟩

theorem qm_lay2 {m s : Nat} {F : aq_F} {c : aq_C} {y a : Nat} (hyy : y < m) (hFy : F y = (15, 27, mo_t y)) (ha : a < m) (hFa : F a = (0, 4, fun _ => .inl 0)) {t num : Int} : am_E ac_X5_lay (0, [vR y, vI 2, vI t, vI num, vR a, vU, vU, vU, vU, vU], [], aq_h m s F c) (aq_Z m s F (fun b => b = a) c (fun r d => r = some (vI (ly 2 t num 9 10 0 0).1) ∧ ((ly 2 t num 9 10 0 0).2 < 9 → ∀ i, 0 ≤ i → i < 2 → d a i = dg_n 2 (ly 2 t num 9 10 0 0).2 i))) := by
  refine am_E.go (t2 := (1, [vR y, vI 2, vI t, vI num, vR a, vU, vU, vU, vU, vU], [vI 0], aq_h m s F c)) rfl rfl ?_
  refine am_E.go (t2 := (3, [vR y, vI 2, vI t, vI num, vR a, vI 0, vU, vU, vU, vU], [], aq_h m s F c)) rfl rfl ?_
  refine am_E.go (t2 := (4, [vR y, vI 2, vI t, vI num, vR a, vI 0, vU, vU, vU, vU], [vI 1], aq_h m s F c)) rfl rfl ?_
  refine am_E.go (t2 := (6, [vR y, vI 2, vI t, vI num, vR a, vI 0, vI 1, vU, vU, vU], [], aq_h m s F c)) rfl rfl ?_
  refine am_E.go (t2 := (7, [vR y, vI 2, vI t, vI num, vR a, vI 0, vI 1, vU, vU, vU], [vI 0], aq_h m s F c)) rfl rfl ?_
  refine am_E.go (t2 := (9, [vR y, vI 2, vI t, vI num, vR a, vI 0, vI 1, vI 0, vU, vU], [], aq_h m s F c)) rfl rfl ?_
  refine am_E.go (t2 := (11, [vR y, vI 2, vI t, vI num, vR a, vI 0, vI 1, vI 0, vU, vU], [vI 0], aq_h m s F c)) rfl rfl ?_
  refine am_E.go (t2 := (12, [vR y, vI 2, vI t, vI num, vR a, vI 0, vI 1, vI 0, vU, vU], [vI 2, vI 0], aq_h m s F c)) rfl rfl ?_
  refine am_E.go (t2 := (15, [vR y, vI 2, vI t, vI num, vR a, vI 0, vI 1, vI 0, vU, vU], [], aq_h m s F c)) rfl rfl ?_
  refine am_E.go (t2 := (17, [vR y, vI 2, vI t, vI num, vR a, vI 0, vI 1, vI 0, vU, vU], [vI 1], aq_h m s F c)) rfl rfl ?_
  refine am_E.go (t2 := (18, [vR y, vI 2, vI t, vI num, vR a, vI 0, vI 1, vI 0, vU, vU], [vI 2, vI 1], aq_h m s F c)) rfl rfl ?_
  refine am_E.go (t2 := (19, [vR y, vI 2, vI t, vI num, vR a, vI 0, vI 1, vI 0, vU, vU], [vI 1, vI 2, vI 1], aq_h m s F c)) rfl rfl ?_
  refine am_E.go (t2 := (20, [vR y, vI 2, vI t, vI num, vR a, vI 0, vI 1, vI 0, vU, vU], [vI 3, vI 1], aq_h m s F c)) rfl rfl ?_
  refine am_E.go (t2 := (21, [vR y, vI 2, vI t, vI num, vR a, vI 0, vI 1, vI 0, vU, vU], [vI 3], aq_h m s F c)) rfl rfl ?_
  refine am_E.go (t2 := (23, [vR y, vI 2, vI t, vI num, vR a, vI 0, vI 3, vI 0, vU, vU], [], aq_h m s F c)) rfl rfl ?_
  refine am_E.go (t2 := (26, [vR y, vI 2, vI t, vI num, vR a, vI 0, vI 3, vI 1, vU, vU], [], aq_h m s F c)) rfl rfl ?_
  refine am_E.go (t2 := (9, [vR y, vI 2, vI t, vI num, vR a, vI 0, vI 3, vI 1, vU, vU], [], aq_h m s F c)) rfl rfl ?_
  refine am_E.go (t2 := (11, [vR y, vI 2, vI t, vI num, vR a, vI 0, vI 3, vI 1, vU, vU], [vI 1], aq_h m s F c)) rfl rfl ?_
  refine am_E.go (t2 := (12, [vR y, vI 2, vI t, vI num, vR a, vI 0, vI 3, vI 1, vU, vU], [vI 2, vI 1], aq_h m s F c)) rfl rfl ?_
  refine am_E.go (t2 := (15, [vR y, vI 2, vI t, vI num, vR a, vI 0, vI 3, vI 1, vU, vU], [], aq_h m s F c)) rfl rfl ?_
  refine am_E.go (t2 := (17, [vR y, vI 2, vI t, vI num, vR a, vI 0, vI 3, vI 1, vU, vU], [vI 3], aq_h m s F c)) rfl rfl ?_
  refine am_E.go (t2 := (18, [vR y, vI 2, vI t, vI num, vR a, vI 0, vI 3, vI 1, vU, vU], [vI 2, vI 3], aq_h m s F c)) rfl rfl ?_
  refine am_E.go (t2 := (19, [vR y, vI 2, vI t, vI num, vR a, vI 0, vI 3, vI 1, vU, vU], [vI 1, vI 2, vI 3], aq_h m s F c)) rfl rfl ?_
  refine am_E.go (t2 := (20, [vR y, vI 2, vI t, vI num, vR a, vI 0, vI 3, vI 1, vU, vU], [vI 3, vI 3], aq_h m s F c)) rfl rfl ?_
  refine am_E.go (t2 := (21, [vR y, vI 2, vI t, vI num, vR a, vI 0, vI 3, vI 1, vU, vU], [vI 9], aq_h m s F c)) rfl rfl ?_
  refine am_E.go (t2 := (23, [vR y, vI 2, vI t, vI num, vR a, vI 0, vI 9, vI 1, vU, vU], [], aq_h m s F c)) rfl rfl ?_
  refine am_E.go (t2 := (26, [vR y, vI 2, vI t, vI num, vR a, vI 0, vI 9, vI 2, vU, vU], [], aq_h m s F c)) rfl rfl ?_
  refine am_E.go (t2 := (9, [vR y, vI 2, vI t, vI num, vR a, vI 0, vI 9, vI 2, vU, vU], [], aq_h m s F c)) rfl rfl ?_
  refine am_E.go (t2 := (11, [vR y, vI 2, vI t, vI num, vR a, vI 0, vI 9, vI 2, vU, vU], [vI 2], aq_h m s F c)) rfl rfl ?_
  refine am_E.go (t2 := (12, [vR y, vI 2, vI t, vI num, vR a, vI 0, vI 9, vI 2, vU, vU], [vI 2, vI 2], aq_h m s F c)) rfl rfl ?_
  refine am_E.go (t2 := (29, [vR y, vI 2, vI t, vI num, vR a, vI 0, vI 9, vI 2, vU, vU], [], aq_h m s F c)) rfl rfl ?_
  refine am_E.go (t2 := (30, [vR y, vI 2, vI t, vI num, vR a, vI 0, vI 9, vI 2, vU, vU], [vI 0], aq_h m s F c)) rfl rfl ?_
  refine am_E.go (t2 := (32, [vR y, vI 2, vI t, vI num, vR a, vI 0, vI 9, vI 0, vU, vU], [], aq_h m s F c)) rfl rfl ?_
  exact qm_lay_2 hyy hFy ha hFa 10 0 0 (vU) (vU) c (aq_sm0 (c := c) (S := (fun b => b = a))) (by omega) (by omega) (by omega) (by omega) rfl (by omega)

theorem qm_lay_3 {m s : Nat} {F : aq_F} {c0 : aq_C} {y a : Nat} (hyy : y < m) (hFy : F y = (15, 27, mo_t y)) (ha : a < m) (hFa : F a = (0, 4, fun _ => .inl 0)) {t num : Int} {T : Int × Int} : ∀ (d : Nat) (mn : Int) (code : Int) (v8 : am_V) (v9 : am_V) (c : aq_C) (hs : aq_sm (fun b => b = a) c0 c) (h0 : 0 ≤ code) (h1 : code ≤ 64) (h2 : 0 ≤ mn) (h3 : mn ≤ code) (hl : ly 3 t num 64 d code mn = T) (hd : 64 - code < (d : Int)), am_E ac_X5_lay (32, [vR y, vI 3, vI t, vI num, vR a, vI mn, vI 64, vI code, v8, v9], [], aq_h m s F c) (aq_Z m s F (fun b => b = a) c0 (fun r d => r = some (vI T.1) ∧ (T.2 < 64 → ∀ i, 0 ≤ i → i < 3 → d a i = dg_n 3 T.2 i)))
  | 0, mn, code, v8, v9, c, hs, h0, h1, h2, h3, hl, hd => by exfalso; omega
  | d + 1, mn, code, v8, v9, c, hs, h0, h1, h2, h3, hl, hd => by
    refine am_E.go (t2 := (34, [vR y, vI 3, vI t, vI num, vR a, vI mn, vI 64, vI code, v8, v9], [vI code], aq_h m s F c)) rfl rfl ?_
    refine am_E.go (t2 := (36, [vR y, vI 3, vI t, vI num, vR a, vI mn, vI 64, vI code, v8, v9], [vI 64, vI code], aq_h m s F c)) rfl rfl ?_
    refine ae_icmp rfl (fun (q_1 : 64 ≤ code) => ?_) (fun (q_1 : code < 64) => ?_)
    · refine am_E.go (t2 := (108, [vR y, vI 3, vI t, vI num, vR a, vI mn, vI 64, vI code, v8, v9], [vI mn], aq_h m s F c)) rfl rfl ?_
      refine am_E.ret rfl rfl ?_
      have eT : T = (mn, code) := by rw [← hl, ly, if_neg (by omega)]
      rw [eT]
      exact ⟨_, rfl, hs, rfl, fun h => absurd h (by show ¬ code < 64; omega)⟩
    · refine am_E.go (t2 := (41, [vR y, vI 3, vI t, vI num, vR a, vI mn, vI 64, vI code, v8, v9], [vI code], aq_h m s F c)) rfl rfl ?_
      refine am_E.go (t2 := (43, [vR y, vI 3, vI t, vI num, vR a, vI mn, vI 64, vI code, vI code, v9], [], aq_h m s F c)) rfl rfl ?_
      refine am_E.go (t2 := (44, [vR y, vI 3, vI t, vI num, vR a, vI mn, vI 64, vI code, vI code, v9], [vI 3], aq_h m s F c)) rfl rfl ?_
      refine am_E.go (t2 := (45, [vR y, vI 3, vI t, vI num, vR a, vI mn, vI 64, vI code, vI code, v9], [vI 1, vI 3], aq_h m s F c)) rfl rfl ?_
      refine am_E.go (t2 := (46, [vR y, vI 3, vI t, vI num, vR a, vI mn, vI 64, vI code, vI code, v9], [vI 2], aq_h m s F c)) rfl rfl ?_
      refine am_E.go (t2 := (48, [vR y, vI 3, vI t, vI num, vR a, vI mn, vI 64, vI code, vI code, vI 2], [], aq_h m s F c)) rfl rfl ?_
      refine am_E.go (t2 := (50, [vR y, vI 3, vI t, vI num, vR a, vI mn, vI 64, vI code, vI code, vI 2], [vI 2], aq_h m s F c)) rfl rfl ?_
      refine am_E.go (t2 := (53, [vR y, vI 3, vI t, vI num, vR a, vI mn, vI 64, vI code, vI code, vI 2], [], aq_h m s F c)) rfl rfl ?_
      refine am_E.go (t2 := (55, [vR y, vI 3, vI t, vI num, vR a, vI mn, vI 64, vI code, vI code, vI 2], [vR a], aq_h m s F c)) rfl rfl ?_
      refine am_E.go (t2 := (57, [vR y, vI 3, vI t, vI num, vR a, vI mn, vI 64, vI code, vI code, vI 2], [vI 2, vR a], aq_h m s F c)) rfl rfl ?_
      refine am_E.go (t2 := (59, [vR y, vI 3, vI t, vI num, vR a, vI mn, vI 64, vI code, vI code, vI 2], [vI code, vI 2, vR a], aq_h m s F c)) rfl rfl ?_
      refine am_E.go (t2 := (60, [vR y, vI 3, vI t, vI num, vR a, vI mn, vI 64, vI code, vI code, vI 2], [vI 3, vI code, vI 2, vR a], aq_h m s F c)) rfl rfl ?_
      refine am_E.go (t2 := (61, [vR y, vI 3, vI t, vI num, vR a, vI mn, vI 64, vI code, vI code, vI 2], [vI 1, vI 3, vI code, vI 2, vR a], aq_h m s F c)) rfl rfl ?_
      refine am_E.go (t2 := (62, [vR y, vI 3, vI t, vI num, vR a, vI mn, vI 64, vI code, vI code, vI 2], [vI 4, vI code, vI 2, vR a], aq_h m s F c)) rfl rfl ?_
      refine ae_bin (z := code % 4) rfl rfl (am_rem_e (by omega) (by decide)) ?_
      show am_E _ (63, [vR y, vI 3, vI t, vI num, vR a, vI mn, vI 64, vI code, vI code, vI 2], [vI (code % 4), vI 2, vR a], aq_h m s F c) _
      refine aq_as (kd := 0) rfl rfl ha hFa (by omega) (by omega) rfl rfl ?_
      show am_E _ (64, [vR y, vI 3, vI t, vI num, vR a, vI mn, vI 64, vI code, vI code, vI 2], [], aq_h m s F (aq_u c a 2 (code % 4))) _
      generalize hdc_2 : aq_u c a 2 (code % 4) = c_2
      have sc_2 := aq_smu hs hdc_2 rfl
      refine am_E.go (t2 := (66, [vR y, vI 3, vI t, vI num, vR a, vI mn, vI 64, vI code, vI code, vI 2], [vI code], aq_h m s F c_2)) rfl rfl ?_
      refine am_E.go (t2 := (67, [vR y, vI 3, vI t, vI num, vR a, vI mn, vI 64, vI code, vI code, vI 2], [vI 3, vI code], aq_h m s F c_2)) rfl rfl ?_
      refine am_E.go (t2 := (68, [vR y, vI 3, vI t, vI num, vR a, vI mn, vI 64, vI code, vI code, vI 2], [vI 1, vI 3, vI code], aq_h m s F c_2)) rfl rfl ?_
      refine am_E.go (t2 := (69, [vR y, vI 3, vI t, vI num, vR a, vI mn, vI 64, vI code, vI code, vI 2], [vI 4, vI code], aq_h m s F c_2)) rfl rfl ?_
      refine ae_bin (z := code / 4) rfl rfl (am_div_e (by omega) (by omega) (by decide)) ?_
      show am_E _ (70, [vR y, vI 3, vI t, vI num, vR a, vI mn, vI 64, vI code, vI code, vI 2], [vI (code / 4)], aq_h m s F c_2) _
      refine am_E.go (t2 := (72, [vR y, vI 3, vI t, vI num, vR a, vI mn, vI 64, vI code, vI (code / 4), vI 2], [], aq_h m s F c_2)) rfl rfl ?_
      refine am_E.go (t2 := (75, [vR y, vI 3, vI t, vI num, vR a, vI mn, vI 64, vI code, vI (code / 4), vI 1], [], aq_h m s F c_2)) rfl rfl ?_
      refine am_E.go (t2 := (48, [vR y, vI 3, vI t, vI num, vR a, vI mn, vI 64, vI code, vI (code / 4), vI 1], [], aq_h m s F c_2)) rfl rfl ?_
      refine am_E.go (t2 := (50, [vR y, vI 3, vI t, vI num, vR a, vI mn, vI 64, vI code, vI (code / 4), vI 1], [vI 1], aq_h m s F c_2)) rfl rfl ?_
      refine am_E.go (t2 := (53, [vR y, vI 3, vI t, vI num, vR a, vI mn, vI 64, vI code, vI (code / 4), vI 1], [], aq_h m s F c_2)) rfl rfl ?_
      refine am_E.go (t2 := (55, [vR y, vI 3, vI t, vI num, vR a, vI mn, vI 64, vI code, vI (code / 4), vI 1], [vR a], aq_h m s F c_2)) rfl rfl ?_
      refine am_E.go (t2 := (57, [vR y, vI 3, vI t, vI num, vR a, vI mn, vI 64, vI code, vI (code / 4), vI 1], [vI 1, vR a], aq_h m s F c_2)) rfl rfl ?_
      refine am_E.go (t2 := (59, [vR y, vI 3, vI t, vI num, vR a, vI mn, vI 64, vI code, vI (code / 4), vI 1], [vI (code / 4), vI 1, vR a], aq_h m s F c_2)) rfl rfl ?_
      refine am_E.go (t2 := (60, [vR y, vI 3, vI t, vI num, vR a, vI mn, vI 64, vI code, vI (code / 4), vI 1], [vI 3, vI (code / 4), vI 1, vR a], aq_h m s F c_2)) rfl rfl ?_
      refine am_E.go (t2 := (61, [vR y, vI 3, vI t, vI num, vR a, vI mn, vI 64, vI code, vI (code / 4), vI 1], [vI 1, vI 3, vI (code / 4), vI 1, vR a], aq_h m s F c_2)) rfl rfl ?_
      refine am_E.go (t2 := (62, [vR y, vI 3, vI t, vI num, vR a, vI mn, vI 64, vI code, vI (code / 4), vI 1], [vI 4, vI (code / 4), vI 1, vR a], aq_h m s F c_2)) rfl rfl ?_
      refine ae_bin (z := (code / 4) % 4) rfl rfl (am_rem_e (by omega) (by decide)) ?_
      show am_E _ (63, [vR y, vI 3, vI t, vI num, vR a, vI mn, vI 64, vI code, vI (code / 4), vI 1], [vI ((code / 4) % 4), vI 1, vR a], aq_h m s F c_2) _
      refine aq_as (kd := 0) rfl rfl ha hFa (by omega) (by omega) rfl rfl ?_
      show am_E _ (64, [vR y, vI 3, vI t, vI num, vR a, vI mn, vI 64, vI code, vI (code / 4), vI 1], [], aq_h m s F (aq_u c_2 a 1 ((code / 4) % 4))) _
      generalize hdc_3 : aq_u c_2 a 1 ((code / 4) % 4) = c_3
      have sc_3 := aq_smu sc_2 hdc_3 rfl
      refine am_E.go (t2 := (66, [vR y, vI 3, vI t, vI num, vR a, vI mn, vI 64, vI code, vI (code / 4), vI 1], [vI (code / 4)], aq_h m s F c_3)) rfl rfl ?_
      refine am_E.go (t2 := (67, [vR y, vI 3, vI t, vI num, vR a, vI mn, vI 64, vI code, vI (code / 4), vI 1], [vI 3, vI (code / 4)], aq_h m s F c_3)) rfl rfl ?_
      refine am_E.go (t2 := (68, [vR y, vI 3, vI t, vI num, vR a, vI mn, vI 64, vI code, vI (code / 4), vI 1], [vI 1, vI 3, vI (code / 4)], aq_h m s F c_3)) rfl rfl ?_
      refine am_E.go (t2 := (69, [vR y, vI 3, vI t, vI num, vR a, vI mn, vI 64, vI code, vI (code / 4), vI 1], [vI 4, vI (code / 4)], aq_h m s F c_3)) rfl rfl ?_
      refine ae_bin (z := (code / 4) / 4) rfl rfl (am_div_e (by omega) (by omega) (by decide)) ?_
      show am_E _ (70, [vR y, vI 3, vI t, vI num, vR a, vI mn, vI 64, vI code, vI (code / 4), vI 1], [vI ((code / 4) / 4)], aq_h m s F c_3) _
      refine am_E.go (t2 := (72, [vR y, vI 3, vI t, vI num, vR a, vI mn, vI 64, vI code, vI ((code / 4) / 4), vI 1], [], aq_h m s F c_3)) rfl rfl ?_
      refine am_E.go (t2 := (75, [vR y, vI 3, vI t, vI num, vR a, vI mn, vI 64, vI code, vI ((code / 4) / 4), vI 0], [], aq_h m s F c_3)) rfl rfl ?_
      refine am_E.go (t2 := (48, [vR y, vI 3, vI t, vI num, vR a, vI mn, vI 64, vI code, vI ((code / 4) / 4), vI 0], [], aq_h m s F c_3)) rfl rfl ?_
      refine am_E.go (t2 := (50, [vR y, vI 3, vI t, vI num, vR a, vI mn, vI 64, vI code, vI ((code / 4) / 4), vI 0], [vI 0], aq_h m s F c_3)) rfl rfl ?_
      refine am_E.go (t2 := (53, [vR y, vI 3, vI t, vI num, vR a, vI mn, vI 64, vI code, vI ((code / 4) / 4), vI 0], [], aq_h m s F c_3)) rfl rfl ?_
      refine am_E.go (t2 := (55, [vR y, vI 3, vI t, vI num, vR a, vI mn, vI 64, vI code, vI ((code / 4) / 4), vI 0], [vR a], aq_h m s F c_3)) rfl rfl ?_
      refine am_E.go (t2 := (57, [vR y, vI 3, vI t, vI num, vR a, vI mn, vI 64, vI code, vI ((code / 4) / 4), vI 0], [vI 0, vR a], aq_h m s F c_3)) rfl rfl ?_
      refine am_E.go (t2 := (59, [vR y, vI 3, vI t, vI num, vR a, vI mn, vI 64, vI code, vI ((code / 4) / 4), vI 0], [vI ((code / 4) / 4), vI 0, vR a], aq_h m s F c_3)) rfl rfl ?_
      refine am_E.go (t2 := (60, [vR y, vI 3, vI t, vI num, vR a, vI mn, vI 64, vI code, vI ((code / 4) / 4), vI 0], [vI 3, vI ((code / 4) / 4), vI 0, vR a], aq_h m s F c_3)) rfl rfl ?_
      refine am_E.go (t2 := (61, [vR y, vI 3, vI t, vI num, vR a, vI mn, vI 64, vI code, vI ((code / 4) / 4), vI 0], [vI 1, vI 3, vI ((code / 4) / 4), vI 0, vR a], aq_h m s F c_3)) rfl rfl ?_
      refine am_E.go (t2 := (62, [vR y, vI 3, vI t, vI num, vR a, vI mn, vI 64, vI code, vI ((code / 4) / 4), vI 0], [vI 4, vI ((code / 4) / 4), vI 0, vR a], aq_h m s F c_3)) rfl rfl ?_
      refine ae_bin (z := ((code / 4) / 4) % 4) rfl rfl (am_rem_e (by omega) (by decide)) ?_
      show am_E _ (63, [vR y, vI 3, vI t, vI num, vR a, vI mn, vI 64, vI code, vI ((code / 4) / 4), vI 0], [vI (((code / 4) / 4) % 4), vI 0, vR a], aq_h m s F c_3) _
      refine aq_as (kd := 0) rfl rfl ha hFa (by omega) (by omega) rfl rfl ?_
      show am_E _ (64, [vR y, vI 3, vI t, vI num, vR a, vI mn, vI 64, vI code, vI ((code / 4) / 4), vI 0], [], aq_h m s F (aq_u c_3 a 0 (((code / 4) / 4) % 4))) _
      generalize hdc_4 : aq_u c_3 a 0 (((code / 4) / 4) % 4) = c_4
      have sc_4 := aq_smu sc_3 hdc_4 rfl
      refine am_E.go (t2 := (66, [vR y, vI 3, vI t, vI num, vR a, vI mn, vI 64, vI code, vI ((code / 4) / 4), vI 0], [vI ((code / 4) / 4)], aq_h m s F c_4)) rfl rfl ?_
      refine am_E.go (t2 := (67, [vR y, vI 3, vI t, vI num, vR a, vI mn, vI 64, vI code, vI ((code / 4) / 4), vI 0], [vI 3, vI ((code / 4) / 4)], aq_h m s F c_4)) rfl rfl ?_
      refine am_E.go (t2 := (68, [vR y, vI 3, vI t, vI num, vR a, vI mn, vI 64, vI code, vI ((code / 4) / 4), vI 0], [vI 1, vI 3, vI ((code / 4) / 4)], aq_h m s F c_4)) rfl rfl ?_
      refine am_E.go (t2 := (69, [vR y, vI 3, vI t, vI num, vR a, vI mn, vI 64, vI code, vI ((code / 4) / 4), vI 0], [vI 4, vI ((code / 4) / 4)], aq_h m s F c_4)) rfl rfl ?_
      refine ae_bin (z := ((code / 4) / 4) / 4) rfl rfl (am_div_e (by omega) (by omega) (by decide)) ?_
      show am_E _ (70, [vR y, vI 3, vI t, vI num, vR a, vI mn, vI 64, vI code, vI ((code / 4) / 4), vI 0], [vI (((code / 4) / 4) / 4)], aq_h m s F c_4) _
      refine am_E.go (t2 := (72, [vR y, vI 3, vI t, vI num, vR a, vI mn, vI 64, vI code, vI (((code / 4) / 4) / 4), vI 0], [], aq_h m s F c_4)) rfl rfl ?_
      refine am_E.go (t2 := (75, [vR y, vI 3, vI t, vI num, vR a, vI mn, vI 64, vI code, vI (((code / 4) / 4) / 4), vI (-1)], [], aq_h m s F c_4)) rfl rfl ?_
      refine am_E.go (t2 := (48, [vR y, vI 3, vI t, vI num, vR a, vI mn, vI 64, vI code, vI (((code / 4) / 4) / 4), vI (-1)], [], aq_h m s F c_4)) rfl rfl ?_
      refine am_E.go (t2 := (50, [vR y, vI 3, vI t, vI num, vR a, vI mn, vI 64, vI code, vI (((code / 4) / 4) / 4), vI (-1)], [vI (-1)], aq_h m s F c_4)) rfl rfl ?_
      refine am_E.go (t2 := (78, [vR y, vI 3, vI t, vI num, vR a, vI mn, vI 64, vI code, vI (((code / 4) / 4) / 4), vI (-1)], [], aq_h m s F c_4)) rfl rfl ?_
      refine am_E.go (t2 := (79, [vR y, vI 3, vI t, vI num, vR a, vI mn, vI 64, vI code, vI (((code / 4) / 4) / 4), vI (-1)], [vI 3], aq_h m s F c_4)) rfl rfl ?_
      refine am_E.go (t2 := (80, [vR y, vI 3, vI t, vI num, vR a, vI mn, vI 64, vI code, vI (((code / 4) / 4) / 4), vI (-1)], [vI t, vI 3], aq_h m s F c_4)) rfl rfl ?_
      refine am_E.go (t2 := (82, [vR y, vI 3, vI t, vI num, vR a, vI mn, vI 64, vI code, vI (((code / 4) / 4) / 4), vI (-1)], [vR a, vI t, vI 3], aq_h m s F c_4)) rfl rfl ?_
      have hz : ∀ i, 0 ≤ i → i < 3 → c_4 a i = dg_n 3 code i := by
        intro i h5 h6
        have h7 : i = 0 ∨ i = 1 ∨ i = 2 := by omega
        rcases h7 with h7 | h7 | h7
        · rw [h7, ← hdc_4, aq_us]
          rfl
        · rw [h7, ← hdc_4, aq_un (Or.inr (by decide)), ← hdc_3, aq_us]
          rfl
        · rw [h7, ← hdc_4, aq_un (Or.inr (by decide)), ← hdc_3, aq_un (Or.inr (by decide)), ← hdc_2, aq_us]
          rfl
      have hd5 : ∀ i, 0 ≤ i → i < 3 → 0 ≤ dg_n 3 code i ∧ dg_n 3 code i < 4 := by
        intro i h5 h6
        have h7 : i = 0 ∨ i = 1 ∨ i = 2 := by omega
        rcases h7 with h7 | h7 | h7
        · rw [h7]
          show 0 ≤ code / 4 / 4 % 4 ∧ code / 4 / 4 % 4 < 4
          omega
        · rw [h7]
          show 0 ≤ code / 4 % 4 ∧ code / 4 % 4 < 4
          omega
        · rw [h7]
          show 0 ≤ code % 4 ∧ code % 4 < 4
          omega
      have hrg : aq_rg a 3 0 (3 + 1) c_4 := fun i h5 h6 => by rw [hz i h5 h6]; exact hd5 i h5 h6
      have hoc := hf_oc (n := 3) (t := t) hz (fun i h5 h6 => by have := hrg i h5 h6; omega) 6 0 0 1 (by decide)
      refine am_E.call rfl rfl rfl (Nat.le_of_ble_eq_true rfl) (qm_isHalf (n := 3) (t := t) ha hFa (by decide) (by decide) hrg) ?_
      rintro r5 h5 ⟨rfl, rfl⟩
      rw [hoc]
      show am_E _ (85, [vR y, vI 3, vI t, vI num, vR a, vI mn, vI 64, vI code, vI (((code / 4) / 4) / 4), vI (-1)], [vI (hf_o 3 t (dg_n 3 code) 6 0 0 1)], aq_h m s F c_4) _
      refine ae_if0 rfl (fun (q_5 : (hf_o 3 t (dg_n 3 code) 6 0 0 1) = 0) => ?_) (fun (q_5 : (hf_o 3 t (dg_n 3 code) 6 0 0 1) ≠ 0) => ?_)
      · have hq_h := q_5
        refine ae_iinc rfl rfl (am_ri (by omega) (by omega)) ?_
        show am_E _ (103, [vR y, vI 3, vI t, vI num, vR a, vI mn, vI 64, vI (code + 1), vI (((code / 4) / 4) / 4), vI (-1)], [], aq_h m s F c_4) _
        refine am_E.go (t2 := (32, [vR y, vI 3, vI t, vI num, vR a, vI mn, vI 64, vI (code + 1), vI (((code / 4) / 4) / 4), vI (-1)], [], aq_h m s F c_4)) rfl rfl ?_
        exact qm_lay_3 hyy hFy ha hFa d mn (code + 1) (vI (((code / 4) / 4) / 4)) (vI (-1)) c_4 sc_4 (by omega) (by omega) (by omega) (by omega) (by rw [← hl, ly, if_pos (by omega)]; first | (rw [if_pos hq_h]) | (rw [if_neg hq_h, if_neg (by omega)])) (by omega)
      · have hq_h := q_5
        refine am_E.go (t2 := (90, [vR y, vI 3, vI t, vI num, vR a, vI mn, vI 64, vI code, vI (((code / 4) / 4) / 4), vI (-1)], [vI mn], aq_h m s F c_4)) rfl rfl ?_
        refine am_E.go (t2 := (91, [vR y, vI 3, vI t, vI num, vR a, vI mn, vI 64, vI code, vI (((code / 4) / 4) / 4), vI (-1)], [vI num, vI mn], aq_h m s F c_4)) rfl rfl ?_
        refine ae_icmp rfl (fun (q_6 : mn ≠ num) => ?_) (fun (q_6 : mn = num) => ?_)
        · refine ae_iinc rfl rfl (am_ri (by omega) (by omega)) ?_
          show am_E _ (100, [vR y, vI 3, vI t, vI num, vR a, vI (mn + 1), vI 64, vI code, vI (((code / 4) / 4) / 4), vI (-1)], [], aq_h m s F c_4) _
          refine ae_iinc rfl rfl (am_ri (by omega) (by omega)) ?_
          show am_E _ (103, [vR y, vI 3, vI t, vI num, vR a, vI (mn + 1), vI 64, vI (code + 1), vI (((code / 4) / 4) / 4), vI (-1)], [], aq_h m s F c_4) _
          refine am_E.go (t2 := (32, [vR y, vI 3, vI t, vI num, vR a, vI (mn + 1), vI 64, vI (code + 1), vI (((code / 4) / 4) / 4), vI (-1)], [], aq_h m s F c_4)) rfl rfl ?_
          exact qm_lay_3 hyy hFy ha hFa d (mn + 1) (code + 1) (vI (((code / 4) / 4) / 4)) (vI (-1)) c_4 sc_4 (by omega) (by omega) (by omega) (by omega) (by rw [← hl, ly, if_pos (by omega)]; first | (rw [if_pos hq_h]) | (rw [if_neg hq_h, if_neg (by omega)])) (by omega)
        · refine am_E.go (t2 := (96, [vR y, vI 3, vI t, vI num, vR a, vI mn, vI 64, vI code, vI (((code / 4) / 4) / 4), vI (-1)], [vI mn], aq_h m s F c_4)) rfl rfl ?_
          refine am_E.ret rfl rfl ?_
          have eT : T = (mn, code) := by rw [← hl, ly, if_pos (by omega), if_neg hq_h, if_pos (by omega)]
          rw [eT]
          exact ⟨_, rfl, sc_4, rfl, fun _ => hz⟩

theorem qm_lay3 {m s : Nat} {F : aq_F} {c : aq_C} {y a : Nat} (hyy : y < m) (hFy : F y = (15, 27, mo_t y)) (ha : a < m) (hFa : F a = (0, 4, fun _ => .inl 0)) {t num : Int} : am_E ac_X5_lay (0, [vR y, vI 3, vI t, vI num, vR a, vU, vU, vU, vU, vU], [], aq_h m s F c) (aq_Z m s F (fun b => b = a) c (fun r d => r = some (vI (ly 3 t num 64 65 0 0).1) ∧ ((ly 3 t num 64 65 0 0).2 < 64 → ∀ i, 0 ≤ i → i < 3 → d a i = dg_n 3 (ly 3 t num 64 65 0 0).2 i))) := by
  refine am_E.go (t2 := (1, [vR y, vI 3, vI t, vI num, vR a, vU, vU, vU, vU, vU], [vI 0], aq_h m s F c)) rfl rfl ?_
  refine am_E.go (t2 := (3, [vR y, vI 3, vI t, vI num, vR a, vI 0, vU, vU, vU, vU], [], aq_h m s F c)) rfl rfl ?_
  refine am_E.go (t2 := (4, [vR y, vI 3, vI t, vI num, vR a, vI 0, vU, vU, vU, vU], [vI 1], aq_h m s F c)) rfl rfl ?_
  refine am_E.go (t2 := (6, [vR y, vI 3, vI t, vI num, vR a, vI 0, vI 1, vU, vU, vU], [], aq_h m s F c)) rfl rfl ?_
  refine am_E.go (t2 := (7, [vR y, vI 3, vI t, vI num, vR a, vI 0, vI 1, vU, vU, vU], [vI 0], aq_h m s F c)) rfl rfl ?_
  refine am_E.go (t2 := (9, [vR y, vI 3, vI t, vI num, vR a, vI 0, vI 1, vI 0, vU, vU], [], aq_h m s F c)) rfl rfl ?_
  refine am_E.go (t2 := (11, [vR y, vI 3, vI t, vI num, vR a, vI 0, vI 1, vI 0, vU, vU], [vI 0], aq_h m s F c)) rfl rfl ?_
  refine am_E.go (t2 := (12, [vR y, vI 3, vI t, vI num, vR a, vI 0, vI 1, vI 0, vU, vU], [vI 3, vI 0], aq_h m s F c)) rfl rfl ?_
  refine am_E.go (t2 := (15, [vR y, vI 3, vI t, vI num, vR a, vI 0, vI 1, vI 0, vU, vU], [], aq_h m s F c)) rfl rfl ?_
  refine am_E.go (t2 := (17, [vR y, vI 3, vI t, vI num, vR a, vI 0, vI 1, vI 0, vU, vU], [vI 1], aq_h m s F c)) rfl rfl ?_
  refine am_E.go (t2 := (18, [vR y, vI 3, vI t, vI num, vR a, vI 0, vI 1, vI 0, vU, vU], [vI 3, vI 1], aq_h m s F c)) rfl rfl ?_
  refine am_E.go (t2 := (19, [vR y, vI 3, vI t, vI num, vR a, vI 0, vI 1, vI 0, vU, vU], [vI 1, vI 3, vI 1], aq_h m s F c)) rfl rfl ?_
  refine am_E.go (t2 := (20, [vR y, vI 3, vI t, vI num, vR a, vI 0, vI 1, vI 0, vU, vU], [vI 4, vI 1], aq_h m s F c)) rfl rfl ?_
  refine am_E.go (t2 := (21, [vR y, vI 3, vI t, vI num, vR a, vI 0, vI 1, vI 0, vU, vU], [vI 4], aq_h m s F c)) rfl rfl ?_
  refine am_E.go (t2 := (23, [vR y, vI 3, vI t, vI num, vR a, vI 0, vI 4, vI 0, vU, vU], [], aq_h m s F c)) rfl rfl ?_
  refine am_E.go (t2 := (26, [vR y, vI 3, vI t, vI num, vR a, vI 0, vI 4, vI 1, vU, vU], [], aq_h m s F c)) rfl rfl ?_
  refine am_E.go (t2 := (9, [vR y, vI 3, vI t, vI num, vR a, vI 0, vI 4, vI 1, vU, vU], [], aq_h m s F c)) rfl rfl ?_
  refine am_E.go (t2 := (11, [vR y, vI 3, vI t, vI num, vR a, vI 0, vI 4, vI 1, vU, vU], [vI 1], aq_h m s F c)) rfl rfl ?_
  refine am_E.go (t2 := (12, [vR y, vI 3, vI t, vI num, vR a, vI 0, vI 4, vI 1, vU, vU], [vI 3, vI 1], aq_h m s F c)) rfl rfl ?_
  refine am_E.go (t2 := (15, [vR y, vI 3, vI t, vI num, vR a, vI 0, vI 4, vI 1, vU, vU], [], aq_h m s F c)) rfl rfl ?_
  refine am_E.go (t2 := (17, [vR y, vI 3, vI t, vI num, vR a, vI 0, vI 4, vI 1, vU, vU], [vI 4], aq_h m s F c)) rfl rfl ?_
  refine am_E.go (t2 := (18, [vR y, vI 3, vI t, vI num, vR a, vI 0, vI 4, vI 1, vU, vU], [vI 3, vI 4], aq_h m s F c)) rfl rfl ?_
  refine am_E.go (t2 := (19, [vR y, vI 3, vI t, vI num, vR a, vI 0, vI 4, vI 1, vU, vU], [vI 1, vI 3, vI 4], aq_h m s F c)) rfl rfl ?_
  refine am_E.go (t2 := (20, [vR y, vI 3, vI t, vI num, vR a, vI 0, vI 4, vI 1, vU, vU], [vI 4, vI 4], aq_h m s F c)) rfl rfl ?_
  refine am_E.go (t2 := (21, [vR y, vI 3, vI t, vI num, vR a, vI 0, vI 4, vI 1, vU, vU], [vI 16], aq_h m s F c)) rfl rfl ?_
  refine am_E.go (t2 := (23, [vR y, vI 3, vI t, vI num, vR a, vI 0, vI 16, vI 1, vU, vU], [], aq_h m s F c)) rfl rfl ?_
  refine am_E.go (t2 := (26, [vR y, vI 3, vI t, vI num, vR a, vI 0, vI 16, vI 2, vU, vU], [], aq_h m s F c)) rfl rfl ?_
  refine am_E.go (t2 := (9, [vR y, vI 3, vI t, vI num, vR a, vI 0, vI 16, vI 2, vU, vU], [], aq_h m s F c)) rfl rfl ?_
  refine am_E.go (t2 := (11, [vR y, vI 3, vI t, vI num, vR a, vI 0, vI 16, vI 2, vU, vU], [vI 2], aq_h m s F c)) rfl rfl ?_
  refine am_E.go (t2 := (12, [vR y, vI 3, vI t, vI num, vR a, vI 0, vI 16, vI 2, vU, vU], [vI 3, vI 2], aq_h m s F c)) rfl rfl ?_
  refine am_E.go (t2 := (15, [vR y, vI 3, vI t, vI num, vR a, vI 0, vI 16, vI 2, vU, vU], [], aq_h m s F c)) rfl rfl ?_
  refine am_E.go (t2 := (17, [vR y, vI 3, vI t, vI num, vR a, vI 0, vI 16, vI 2, vU, vU], [vI 16], aq_h m s F c)) rfl rfl ?_
  refine am_E.go (t2 := (18, [vR y, vI 3, vI t, vI num, vR a, vI 0, vI 16, vI 2, vU, vU], [vI 3, vI 16], aq_h m s F c)) rfl rfl ?_
  refine am_E.go (t2 := (19, [vR y, vI 3, vI t, vI num, vR a, vI 0, vI 16, vI 2, vU, vU], [vI 1, vI 3, vI 16], aq_h m s F c)) rfl rfl ?_
  refine am_E.go (t2 := (20, [vR y, vI 3, vI t, vI num, vR a, vI 0, vI 16, vI 2, vU, vU], [vI 4, vI 16], aq_h m s F c)) rfl rfl ?_
  refine am_E.go (t2 := (21, [vR y, vI 3, vI t, vI num, vR a, vI 0, vI 16, vI 2, vU, vU], [vI 64], aq_h m s F c)) rfl rfl ?_
  refine am_E.go (t2 := (23, [vR y, vI 3, vI t, vI num, vR a, vI 0, vI 64, vI 2, vU, vU], [], aq_h m s F c)) rfl rfl ?_
  refine am_E.go (t2 := (26, [vR y, vI 3, vI t, vI num, vR a, vI 0, vI 64, vI 3, vU, vU], [], aq_h m s F c)) rfl rfl ?_
  refine am_E.go (t2 := (9, [vR y, vI 3, vI t, vI num, vR a, vI 0, vI 64, vI 3, vU, vU], [], aq_h m s F c)) rfl rfl ?_
  refine am_E.go (t2 := (11, [vR y, vI 3, vI t, vI num, vR a, vI 0, vI 64, vI 3, vU, vU], [vI 3], aq_h m s F c)) rfl rfl ?_
  refine am_E.go (t2 := (12, [vR y, vI 3, vI t, vI num, vR a, vI 0, vI 64, vI 3, vU, vU], [vI 3, vI 3], aq_h m s F c)) rfl rfl ?_
  refine am_E.go (t2 := (29, [vR y, vI 3, vI t, vI num, vR a, vI 0, vI 64, vI 3, vU, vU], [], aq_h m s F c)) rfl rfl ?_
  refine am_E.go (t2 := (30, [vR y, vI 3, vI t, vI num, vR a, vI 0, vI 64, vI 3, vU, vU], [vI 0], aq_h m s F c)) rfl rfl ?_
  refine am_E.go (t2 := (32, [vR y, vI 3, vI t, vI num, vR a, vI 0, vI 64, vI 0, vU, vU], [], aq_h m s F c)) rfl rfl ?_
  exact qm_lay_3 hyy hFy ha hFa 65 0 0 (vU) (vU) c (aq_sm0 (c := c) (S := (fun b => b = a))) (by omega) (by omega) (by omega) (by omega) rfl (by omega)

theorem qm_lay_4 {m s : Nat} {F : aq_F} {c0 : aq_C} {y a : Nat} (hyy : y < m) (hFy : F y = (15, 27, mo_t y)) (ha : a < m) (hFa : F a = (0, 4, fun _ => .inl 0)) {t num : Int} {T : Int × Int} : ∀ (d : Nat) (mn : Int) (code : Int) (v8 : am_V) (v9 : am_V) (c : aq_C) (hs : aq_sm (fun b => b = a) c0 c) (h0 : 0 ≤ code) (h1 : code ≤ 625) (h2 : 0 ≤ mn) (h3 : mn ≤ code) (hl : ly 4 t num 625 d code mn = T) (hd : 625 - code < (d : Int)), am_E ac_X5_lay (32, [vR y, vI 4, vI t, vI num, vR a, vI mn, vI 625, vI code, v8, v9], [], aq_h m s F c) (aq_Z m s F (fun b => b = a) c0 (fun r d => r = some (vI T.1) ∧ (T.2 < 625 → ∀ i, 0 ≤ i → i < 4 → d a i = dg_n 4 T.2 i)))
  | 0, mn, code, v8, v9, c, hs, h0, h1, h2, h3, hl, hd => by exfalso; omega
  | d + 1, mn, code, v8, v9, c, hs, h0, h1, h2, h3, hl, hd => by
    refine am_E.go (t2 := (34, [vR y, vI 4, vI t, vI num, vR a, vI mn, vI 625, vI code, v8, v9], [vI code], aq_h m s F c)) rfl rfl ?_
    refine am_E.go (t2 := (36, [vR y, vI 4, vI t, vI num, vR a, vI mn, vI 625, vI code, v8, v9], [vI 625, vI code], aq_h m s F c)) rfl rfl ?_
    refine ae_icmp rfl (fun (q_1 : 625 ≤ code) => ?_) (fun (q_1 : code < 625) => ?_)
    · refine am_E.go (t2 := (108, [vR y, vI 4, vI t, vI num, vR a, vI mn, vI 625, vI code, v8, v9], [vI mn], aq_h m s F c)) rfl rfl ?_
      refine am_E.ret rfl rfl ?_
      have eT : T = (mn, code) := by rw [← hl, ly, if_neg (by omega)]
      rw [eT]
      exact ⟨_, rfl, hs, rfl, fun h => absurd h (by show ¬ code < 625; omega)⟩
    · refine am_E.go (t2 := (41, [vR y, vI 4, vI t, vI num, vR a, vI mn, vI 625, vI code, v8, v9], [vI code], aq_h m s F c)) rfl rfl ?_
      refine am_E.go (t2 := (43, [vR y, vI 4, vI t, vI num, vR a, vI mn, vI 625, vI code, vI code, v9], [], aq_h m s F c)) rfl rfl ?_
      refine am_E.go (t2 := (44, [vR y, vI 4, vI t, vI num, vR a, vI mn, vI 625, vI code, vI code, v9], [vI 4], aq_h m s F c)) rfl rfl ?_
      refine am_E.go (t2 := (45, [vR y, vI 4, vI t, vI num, vR a, vI mn, vI 625, vI code, vI code, v9], [vI 1, vI 4], aq_h m s F c)) rfl rfl ?_
      refine am_E.go (t2 := (46, [vR y, vI 4, vI t, vI num, vR a, vI mn, vI 625, vI code, vI code, v9], [vI 3], aq_h m s F c)) rfl rfl ?_
      refine am_E.go (t2 := (48, [vR y, vI 4, vI t, vI num, vR a, vI mn, vI 625, vI code, vI code, vI 3], [], aq_h m s F c)) rfl rfl ?_
      refine am_E.go (t2 := (50, [vR y, vI 4, vI t, vI num, vR a, vI mn, vI 625, vI code, vI code, vI 3], [vI 3], aq_h m s F c)) rfl rfl ?_
      refine am_E.go (t2 := (53, [vR y, vI 4, vI t, vI num, vR a, vI mn, vI 625, vI code, vI code, vI 3], [], aq_h m s F c)) rfl rfl ?_
      refine am_E.go (t2 := (55, [vR y, vI 4, vI t, vI num, vR a, vI mn, vI 625, vI code, vI code, vI 3], [vR a], aq_h m s F c)) rfl rfl ?_
      refine am_E.go (t2 := (57, [vR y, vI 4, vI t, vI num, vR a, vI mn, vI 625, vI code, vI code, vI 3], [vI 3, vR a], aq_h m s F c)) rfl rfl ?_
      refine am_E.go (t2 := (59, [vR y, vI 4, vI t, vI num, vR a, vI mn, vI 625, vI code, vI code, vI 3], [vI code, vI 3, vR a], aq_h m s F c)) rfl rfl ?_
      refine am_E.go (t2 := (60, [vR y, vI 4, vI t, vI num, vR a, vI mn, vI 625, vI code, vI code, vI 3], [vI 4, vI code, vI 3, vR a], aq_h m s F c)) rfl rfl ?_
      refine am_E.go (t2 := (61, [vR y, vI 4, vI t, vI num, vR a, vI mn, vI 625, vI code, vI code, vI 3], [vI 1, vI 4, vI code, vI 3, vR a], aq_h m s F c)) rfl rfl ?_
      refine am_E.go (t2 := (62, [vR y, vI 4, vI t, vI num, vR a, vI mn, vI 625, vI code, vI code, vI 3], [vI 5, vI code, vI 3, vR a], aq_h m s F c)) rfl rfl ?_
      refine ae_bin (z := code % 5) rfl rfl (am_rem_e (by omega) (by decide)) ?_
      show am_E _ (63, [vR y, vI 4, vI t, vI num, vR a, vI mn, vI 625, vI code, vI code, vI 3], [vI (code % 5), vI 3, vR a], aq_h m s F c) _
      refine aq_as (kd := 0) rfl rfl ha hFa (by omega) (by omega) rfl rfl ?_
      show am_E _ (64, [vR y, vI 4, vI t, vI num, vR a, vI mn, vI 625, vI code, vI code, vI 3], [], aq_h m s F (aq_u c a 3 (code % 5))) _
      generalize hdc_2 : aq_u c a 3 (code % 5) = c_2
      have sc_2 := aq_smu hs hdc_2 rfl
      refine am_E.go (t2 := (66, [vR y, vI 4, vI t, vI num, vR a, vI mn, vI 625, vI code, vI code, vI 3], [vI code], aq_h m s F c_2)) rfl rfl ?_
      refine am_E.go (t2 := (67, [vR y, vI 4, vI t, vI num, vR a, vI mn, vI 625, vI code, vI code, vI 3], [vI 4, vI code], aq_h m s F c_2)) rfl rfl ?_
      refine am_E.go (t2 := (68, [vR y, vI 4, vI t, vI num, vR a, vI mn, vI 625, vI code, vI code, vI 3], [vI 1, vI 4, vI code], aq_h m s F c_2)) rfl rfl ?_
      refine am_E.go (t2 := (69, [vR y, vI 4, vI t, vI num, vR a, vI mn, vI 625, vI code, vI code, vI 3], [vI 5, vI code], aq_h m s F c_2)) rfl rfl ?_
      refine ae_bin (z := code / 5) rfl rfl (am_div_e (by omega) (by omega) (by decide)) ?_
      show am_E _ (70, [vR y, vI 4, vI t, vI num, vR a, vI mn, vI 625, vI code, vI code, vI 3], [vI (code / 5)], aq_h m s F c_2) _
      refine am_E.go (t2 := (72, [vR y, vI 4, vI t, vI num, vR a, vI mn, vI 625, vI code, vI (code / 5), vI 3], [], aq_h m s F c_2)) rfl rfl ?_
      refine am_E.go (t2 := (75, [vR y, vI 4, vI t, vI num, vR a, vI mn, vI 625, vI code, vI (code / 5), vI 2], [], aq_h m s F c_2)) rfl rfl ?_
      refine am_E.go (t2 := (48, [vR y, vI 4, vI t, vI num, vR a, vI mn, vI 625, vI code, vI (code / 5), vI 2], [], aq_h m s F c_2)) rfl rfl ?_
      refine am_E.go (t2 := (50, [vR y, vI 4, vI t, vI num, vR a, vI mn, vI 625, vI code, vI (code / 5), vI 2], [vI 2], aq_h m s F c_2)) rfl rfl ?_
      refine am_E.go (t2 := (53, [vR y, vI 4, vI t, vI num, vR a, vI mn, vI 625, vI code, vI (code / 5), vI 2], [], aq_h m s F c_2)) rfl rfl ?_
      refine am_E.go (t2 := (55, [vR y, vI 4, vI t, vI num, vR a, vI mn, vI 625, vI code, vI (code / 5), vI 2], [vR a], aq_h m s F c_2)) rfl rfl ?_
      refine am_E.go (t2 := (57, [vR y, vI 4, vI t, vI num, vR a, vI mn, vI 625, vI code, vI (code / 5), vI 2], [vI 2, vR a], aq_h m s F c_2)) rfl rfl ?_
      refine am_E.go (t2 := (59, [vR y, vI 4, vI t, vI num, vR a, vI mn, vI 625, vI code, vI (code / 5), vI 2], [vI (code / 5), vI 2, vR a], aq_h m s F c_2)) rfl rfl ?_
      refine am_E.go (t2 := (60, [vR y, vI 4, vI t, vI num, vR a, vI mn, vI 625, vI code, vI (code / 5), vI 2], [vI 4, vI (code / 5), vI 2, vR a], aq_h m s F c_2)) rfl rfl ?_
      refine am_E.go (t2 := (61, [vR y, vI 4, vI t, vI num, vR a, vI mn, vI 625, vI code, vI (code / 5), vI 2], [vI 1, vI 4, vI (code / 5), vI 2, vR a], aq_h m s F c_2)) rfl rfl ?_
      refine am_E.go (t2 := (62, [vR y, vI 4, vI t, vI num, vR a, vI mn, vI 625, vI code, vI (code / 5), vI 2], [vI 5, vI (code / 5), vI 2, vR a], aq_h m s F c_2)) rfl rfl ?_
      refine ae_bin (z := (code / 5) % 5) rfl rfl (am_rem_e (by omega) (by decide)) ?_
      show am_E _ (63, [vR y, vI 4, vI t, vI num, vR a, vI mn, vI 625, vI code, vI (code / 5), vI 2], [vI ((code / 5) % 5), vI 2, vR a], aq_h m s F c_2) _
      refine aq_as (kd := 0) rfl rfl ha hFa (by omega) (by omega) rfl rfl ?_
      show am_E _ (64, [vR y, vI 4, vI t, vI num, vR a, vI mn, vI 625, vI code, vI (code / 5), vI 2], [], aq_h m s F (aq_u c_2 a 2 ((code / 5) % 5))) _
      generalize hdc_3 : aq_u c_2 a 2 ((code / 5) % 5) = c_3
      have sc_3 := aq_smu sc_2 hdc_3 rfl
      refine am_E.go (t2 := (66, [vR y, vI 4, vI t, vI num, vR a, vI mn, vI 625, vI code, vI (code / 5), vI 2], [vI (code / 5)], aq_h m s F c_3)) rfl rfl ?_
      refine am_E.go (t2 := (67, [vR y, vI 4, vI t, vI num, vR a, vI mn, vI 625, vI code, vI (code / 5), vI 2], [vI 4, vI (code / 5)], aq_h m s F c_3)) rfl rfl ?_
      refine am_E.go (t2 := (68, [vR y, vI 4, vI t, vI num, vR a, vI mn, vI 625, vI code, vI (code / 5), vI 2], [vI 1, vI 4, vI (code / 5)], aq_h m s F c_3)) rfl rfl ?_
      refine am_E.go (t2 := (69, [vR y, vI 4, vI t, vI num, vR a, vI mn, vI 625, vI code, vI (code / 5), vI 2], [vI 5, vI (code / 5)], aq_h m s F c_3)) rfl rfl ?_
      refine ae_bin (z := (code / 5) / 5) rfl rfl (am_div_e (by omega) (by omega) (by decide)) ?_
      show am_E _ (70, [vR y, vI 4, vI t, vI num, vR a, vI mn, vI 625, vI code, vI (code / 5), vI 2], [vI ((code / 5) / 5)], aq_h m s F c_3) _
      refine am_E.go (t2 := (72, [vR y, vI 4, vI t, vI num, vR a, vI mn, vI 625, vI code, vI ((code / 5) / 5), vI 2], [], aq_h m s F c_3)) rfl rfl ?_
      refine am_E.go (t2 := (75, [vR y, vI 4, vI t, vI num, vR a, vI mn, vI 625, vI code, vI ((code / 5) / 5), vI 1], [], aq_h m s F c_3)) rfl rfl ?_
      refine am_E.go (t2 := (48, [vR y, vI 4, vI t, vI num, vR a, vI mn, vI 625, vI code, vI ((code / 5) / 5), vI 1], [], aq_h m s F c_3)) rfl rfl ?_
      refine am_E.go (t2 := (50, [vR y, vI 4, vI t, vI num, vR a, vI mn, vI 625, vI code, vI ((code / 5) / 5), vI 1], [vI 1], aq_h m s F c_3)) rfl rfl ?_
      refine am_E.go (t2 := (53, [vR y, vI 4, vI t, vI num, vR a, vI mn, vI 625, vI code, vI ((code / 5) / 5), vI 1], [], aq_h m s F c_3)) rfl rfl ?_
      refine am_E.go (t2 := (55, [vR y, vI 4, vI t, vI num, vR a, vI mn, vI 625, vI code, vI ((code / 5) / 5), vI 1], [vR a], aq_h m s F c_3)) rfl rfl ?_
      refine am_E.go (t2 := (57, [vR y, vI 4, vI t, vI num, vR a, vI mn, vI 625, vI code, vI ((code / 5) / 5), vI 1], [vI 1, vR a], aq_h m s F c_3)) rfl rfl ?_
      refine am_E.go (t2 := (59, [vR y, vI 4, vI t, vI num, vR a, vI mn, vI 625, vI code, vI ((code / 5) / 5), vI 1], [vI ((code / 5) / 5), vI 1, vR a], aq_h m s F c_3)) rfl rfl ?_
      refine am_E.go (t2 := (60, [vR y, vI 4, vI t, vI num, vR a, vI mn, vI 625, vI code, vI ((code / 5) / 5), vI 1], [vI 4, vI ((code / 5) / 5), vI 1, vR a], aq_h m s F c_3)) rfl rfl ?_
      refine am_E.go (t2 := (61, [vR y, vI 4, vI t, vI num, vR a, vI mn, vI 625, vI code, vI ((code / 5) / 5), vI 1], [vI 1, vI 4, vI ((code / 5) / 5), vI 1, vR a], aq_h m s F c_3)) rfl rfl ?_
      refine am_E.go (t2 := (62, [vR y, vI 4, vI t, vI num, vR a, vI mn, vI 625, vI code, vI ((code / 5) / 5), vI 1], [vI 5, vI ((code / 5) / 5), vI 1, vR a], aq_h m s F c_3)) rfl rfl ?_
      refine ae_bin (z := ((code / 5) / 5) % 5) rfl rfl (am_rem_e (by omega) (by decide)) ?_
      show am_E _ (63, [vR y, vI 4, vI t, vI num, vR a, vI mn, vI 625, vI code, vI ((code / 5) / 5), vI 1], [vI (((code / 5) / 5) % 5), vI 1, vR a], aq_h m s F c_3) _
      refine aq_as (kd := 0) rfl rfl ha hFa (by omega) (by omega) rfl rfl ?_
      show am_E _ (64, [vR y, vI 4, vI t, vI num, vR a, vI mn, vI 625, vI code, vI ((code / 5) / 5), vI 1], [], aq_h m s F (aq_u c_3 a 1 (((code / 5) / 5) % 5))) _
      generalize hdc_4 : aq_u c_3 a 1 (((code / 5) / 5) % 5) = c_4
      have sc_4 := aq_smu sc_3 hdc_4 rfl
      refine am_E.go (t2 := (66, [vR y, vI 4, vI t, vI num, vR a, vI mn, vI 625, vI code, vI ((code / 5) / 5), vI 1], [vI ((code / 5) / 5)], aq_h m s F c_4)) rfl rfl ?_
      refine am_E.go (t2 := (67, [vR y, vI 4, vI t, vI num, vR a, vI mn, vI 625, vI code, vI ((code / 5) / 5), vI 1], [vI 4, vI ((code / 5) / 5)], aq_h m s F c_4)) rfl rfl ?_
      refine am_E.go (t2 := (68, [vR y, vI 4, vI t, vI num, vR a, vI mn, vI 625, vI code, vI ((code / 5) / 5), vI 1], [vI 1, vI 4, vI ((code / 5) / 5)], aq_h m s F c_4)) rfl rfl ?_
      refine am_E.go (t2 := (69, [vR y, vI 4, vI t, vI num, vR a, vI mn, vI 625, vI code, vI ((code / 5) / 5), vI 1], [vI 5, vI ((code / 5) / 5)], aq_h m s F c_4)) rfl rfl ?_
      refine ae_bin (z := ((code / 5) / 5) / 5) rfl rfl (am_div_e (by omega) (by omega) (by decide)) ?_
      show am_E _ (70, [vR y, vI 4, vI t, vI num, vR a, vI mn, vI 625, vI code, vI ((code / 5) / 5), vI 1], [vI (((code / 5) / 5) / 5)], aq_h m s F c_4) _
      refine am_E.go (t2 := (72, [vR y, vI 4, vI t, vI num, vR a, vI mn, vI 625, vI code, vI (((code / 5) / 5) / 5), vI 1], [], aq_h m s F c_4)) rfl rfl ?_
      refine am_E.go (t2 := (75, [vR y, vI 4, vI t, vI num, vR a, vI mn, vI 625, vI code, vI (((code / 5) / 5) / 5), vI 0], [], aq_h m s F c_4)) rfl rfl ?_
      refine am_E.go (t2 := (48, [vR y, vI 4, vI t, vI num, vR a, vI mn, vI 625, vI code, vI (((code / 5) / 5) / 5), vI 0], [], aq_h m s F c_4)) rfl rfl ?_
      refine am_E.go (t2 := (50, [vR y, vI 4, vI t, vI num, vR a, vI mn, vI 625, vI code, vI (((code / 5) / 5) / 5), vI 0], [vI 0], aq_h m s F c_4)) rfl rfl ?_
      refine am_E.go (t2 := (53, [vR y, vI 4, vI t, vI num, vR a, vI mn, vI 625, vI code, vI (((code / 5) / 5) / 5), vI 0], [], aq_h m s F c_4)) rfl rfl ?_
      refine am_E.go (t2 := (55, [vR y, vI 4, vI t, vI num, vR a, vI mn, vI 625, vI code, vI (((code / 5) / 5) / 5), vI 0], [vR a], aq_h m s F c_4)) rfl rfl ?_
      refine am_E.go (t2 := (57, [vR y, vI 4, vI t, vI num, vR a, vI mn, vI 625, vI code, vI (((code / 5) / 5) / 5), vI 0], [vI 0, vR a], aq_h m s F c_4)) rfl rfl ?_
      refine am_E.go (t2 := (59, [vR y, vI 4, vI t, vI num, vR a, vI mn, vI 625, vI code, vI (((code / 5) / 5) / 5), vI 0], [vI (((code / 5) / 5) / 5), vI 0, vR a], aq_h m s F c_4)) rfl rfl ?_
      refine am_E.go (t2 := (60, [vR y, vI 4, vI t, vI num, vR a, vI mn, vI 625, vI code, vI (((code / 5) / 5) / 5), vI 0], [vI 4, vI (((code / 5) / 5) / 5), vI 0, vR a], aq_h m s F c_4)) rfl rfl ?_
      refine am_E.go (t2 := (61, [vR y, vI 4, vI t, vI num, vR a, vI mn, vI 625, vI code, vI (((code / 5) / 5) / 5), vI 0], [vI 1, vI 4, vI (((code / 5) / 5) / 5), vI 0, vR a], aq_h m s F c_4)) rfl rfl ?_
      refine am_E.go (t2 := (62, [vR y, vI 4, vI t, vI num, vR a, vI mn, vI 625, vI code, vI (((code / 5) / 5) / 5), vI 0], [vI 5, vI (((code / 5) / 5) / 5), vI 0, vR a], aq_h m s F c_4)) rfl rfl ?_
      refine ae_bin (z := (((code / 5) / 5) / 5) % 5) rfl rfl (am_rem_e (by omega) (by decide)) ?_
      show am_E _ (63, [vR y, vI 4, vI t, vI num, vR a, vI mn, vI 625, vI code, vI (((code / 5) / 5) / 5), vI 0], [vI ((((code / 5) / 5) / 5) % 5), vI 0, vR a], aq_h m s F c_4) _
      refine aq_as (kd := 0) rfl rfl ha hFa (by omega) (by omega) rfl rfl ?_
      show am_E _ (64, [vR y, vI 4, vI t, vI num, vR a, vI mn, vI 625, vI code, vI (((code / 5) / 5) / 5), vI 0], [], aq_h m s F (aq_u c_4 a 0 ((((code / 5) / 5) / 5) % 5))) _
      generalize hdc_5 : aq_u c_4 a 0 ((((code / 5) / 5) / 5) % 5) = c_5
      have sc_5 := aq_smu sc_4 hdc_5 rfl
      refine am_E.go (t2 := (66, [vR y, vI 4, vI t, vI num, vR a, vI mn, vI 625, vI code, vI (((code / 5) / 5) / 5), vI 0], [vI (((code / 5) / 5) / 5)], aq_h m s F c_5)) rfl rfl ?_
      refine am_E.go (t2 := (67, [vR y, vI 4, vI t, vI num, vR a, vI mn, vI 625, vI code, vI (((code / 5) / 5) / 5), vI 0], [vI 4, vI (((code / 5) / 5) / 5)], aq_h m s F c_5)) rfl rfl ?_
      refine am_E.go (t2 := (68, [vR y, vI 4, vI t, vI num, vR a, vI mn, vI 625, vI code, vI (((code / 5) / 5) / 5), vI 0], [vI 1, vI 4, vI (((code / 5) / 5) / 5)], aq_h m s F c_5)) rfl rfl ?_
      refine am_E.go (t2 := (69, [vR y, vI 4, vI t, vI num, vR a, vI mn, vI 625, vI code, vI (((code / 5) / 5) / 5), vI 0], [vI 5, vI (((code / 5) / 5) / 5)], aq_h m s F c_5)) rfl rfl ?_
      refine ae_bin (z := (((code / 5) / 5) / 5) / 5) rfl rfl (am_div_e (by omega) (by omega) (by decide)) ?_
      show am_E _ (70, [vR y, vI 4, vI t, vI num, vR a, vI mn, vI 625, vI code, vI (((code / 5) / 5) / 5), vI 0], [vI ((((code / 5) / 5) / 5) / 5)], aq_h m s F c_5) _
      refine am_E.go (t2 := (72, [vR y, vI 4, vI t, vI num, vR a, vI mn, vI 625, vI code, vI ((((code / 5) / 5) / 5) / 5), vI 0], [], aq_h m s F c_5)) rfl rfl ?_
      refine am_E.go (t2 := (75, [vR y, vI 4, vI t, vI num, vR a, vI mn, vI 625, vI code, vI ((((code / 5) / 5) / 5) / 5), vI (-1)], [], aq_h m s F c_5)) rfl rfl ?_
      refine am_E.go (t2 := (48, [vR y, vI 4, vI t, vI num, vR a, vI mn, vI 625, vI code, vI ((((code / 5) / 5) / 5) / 5), vI (-1)], [], aq_h m s F c_5)) rfl rfl ?_
      refine am_E.go (t2 := (50, [vR y, vI 4, vI t, vI num, vR a, vI mn, vI 625, vI code, vI ((((code / 5) / 5) / 5) / 5), vI (-1)], [vI (-1)], aq_h m s F c_5)) rfl rfl ?_
      refine am_E.go (t2 := (78, [vR y, vI 4, vI t, vI num, vR a, vI mn, vI 625, vI code, vI ((((code / 5) / 5) / 5) / 5), vI (-1)], [], aq_h m s F c_5)) rfl rfl ?_
      refine am_E.go (t2 := (79, [vR y, vI 4, vI t, vI num, vR a, vI mn, vI 625, vI code, vI ((((code / 5) / 5) / 5) / 5), vI (-1)], [vI 4], aq_h m s F c_5)) rfl rfl ?_
      refine am_E.go (t2 := (80, [vR y, vI 4, vI t, vI num, vR a, vI mn, vI 625, vI code, vI ((((code / 5) / 5) / 5) / 5), vI (-1)], [vI t, vI 4], aq_h m s F c_5)) rfl rfl ?_
      refine am_E.go (t2 := (82, [vR y, vI 4, vI t, vI num, vR a, vI mn, vI 625, vI code, vI ((((code / 5) / 5) / 5) / 5), vI (-1)], [vR a, vI t, vI 4], aq_h m s F c_5)) rfl rfl ?_
      have hz : ∀ i, 0 ≤ i → i < 4 → c_5 a i = dg_n 4 code i := by
        intro i h5 h6
        have h7 : i = 0 ∨ i = 1 ∨ i = 2 ∨ i = 3 := by omega
        rcases h7 with h7 | h7 | h7 | h7
        · rw [h7, ← hdc_5, aq_us]
          rfl
        · rw [h7, ← hdc_5, aq_un (Or.inr (by decide)), ← hdc_4, aq_us]
          rfl
        · rw [h7, ← hdc_5, aq_un (Or.inr (by decide)), ← hdc_4, aq_un (Or.inr (by decide)), ← hdc_3, aq_us]
          rfl
        · rw [h7, ← hdc_5, aq_un (Or.inr (by decide)), ← hdc_4, aq_un (Or.inr (by decide)), ← hdc_3, aq_un (Or.inr (by decide)), ← hdc_2, aq_us]
          rfl
      have hd5 : ∀ i, 0 ≤ i → i < 4 → 0 ≤ dg_n 4 code i ∧ dg_n 4 code i < 5 := by
        intro i h5 h6
        have h7 : i = 0 ∨ i = 1 ∨ i = 2 ∨ i = 3 := by omega
        rcases h7 with h7 | h7 | h7 | h7
        · rw [h7]
          show 0 ≤ code / 5 / 5 / 5 % 5 ∧ code / 5 / 5 / 5 % 5 < 5
          omega
        · rw [h7]
          show 0 ≤ code / 5 / 5 % 5 ∧ code / 5 / 5 % 5 < 5
          omega
        · rw [h7]
          show 0 ≤ code / 5 % 5 ∧ code / 5 % 5 < 5
          omega
        · rw [h7]
          show 0 ≤ code % 5 ∧ code % 5 < 5
          omega
      have hrg : aq_rg a 4 0 (4 + 1) c_5 := fun i h5 h6 => by rw [hz i h5 h6]; exact hd5 i h5 h6
      have hoc := hf_oc (n := 4) (t := t) hz (fun i h5 h6 => by have := hrg i h5 h6; omega) 6 0 0 1 (by decide)
      refine am_E.call rfl rfl rfl (Nat.le_of_ble_eq_true rfl) (qm_isHalf (n := 4) (t := t) ha hFa (by decide) (by decide) hrg) ?_
      rintro r5 h5 ⟨rfl, rfl⟩
      rw [hoc]
      show am_E _ (85, [vR y, vI 4, vI t, vI num, vR a, vI mn, vI 625, vI code, vI ((((code / 5) / 5) / 5) / 5), vI (-1)], [vI (hf_o 4 t (dg_n 4 code) 6 0 0 1)], aq_h m s F c_5) _
      refine ae_if0 rfl (fun (q_6 : (hf_o 4 t (dg_n 4 code) 6 0 0 1) = 0) => ?_) (fun (q_6 : (hf_o 4 t (dg_n 4 code) 6 0 0 1) ≠ 0) => ?_)
      · have hq_h := q_6
        refine ae_iinc rfl rfl (am_ri (by omega) (by omega)) ?_
        show am_E _ (103, [vR y, vI 4, vI t, vI num, vR a, vI mn, vI 625, vI (code + 1), vI ((((code / 5) / 5) / 5) / 5), vI (-1)], [], aq_h m s F c_5) _
        refine am_E.go (t2 := (32, [vR y, vI 4, vI t, vI num, vR a, vI mn, vI 625, vI (code + 1), vI ((((code / 5) / 5) / 5) / 5), vI (-1)], [], aq_h m s F c_5)) rfl rfl ?_
        exact qm_lay_4 hyy hFy ha hFa d mn (code + 1) (vI ((((code / 5) / 5) / 5) / 5)) (vI (-1)) c_5 sc_5 (by omega) (by omega) (by omega) (by omega) (by rw [← hl, ly, if_pos (by omega)]; first | (rw [if_pos hq_h]) | (rw [if_neg hq_h, if_neg (by omega)])) (by omega)
      · have hq_h := q_6
        refine am_E.go (t2 := (90, [vR y, vI 4, vI t, vI num, vR a, vI mn, vI 625, vI code, vI ((((code / 5) / 5) / 5) / 5), vI (-1)], [vI mn], aq_h m s F c_5)) rfl rfl ?_
        refine am_E.go (t2 := (91, [vR y, vI 4, vI t, vI num, vR a, vI mn, vI 625, vI code, vI ((((code / 5) / 5) / 5) / 5), vI (-1)], [vI num, vI mn], aq_h m s F c_5)) rfl rfl ?_
        refine ae_icmp rfl (fun (q_7 : mn ≠ num) => ?_) (fun (q_7 : mn = num) => ?_)
        · refine ae_iinc rfl rfl (am_ri (by omega) (by omega)) ?_
          show am_E _ (100, [vR y, vI 4, vI t, vI num, vR a, vI (mn + 1), vI 625, vI code, vI ((((code / 5) / 5) / 5) / 5), vI (-1)], [], aq_h m s F c_5) _
          refine ae_iinc rfl rfl (am_ri (by omega) (by omega)) ?_
          show am_E _ (103, [vR y, vI 4, vI t, vI num, vR a, vI (mn + 1), vI 625, vI (code + 1), vI ((((code / 5) / 5) / 5) / 5), vI (-1)], [], aq_h m s F c_5) _
          refine am_E.go (t2 := (32, [vR y, vI 4, vI t, vI num, vR a, vI (mn + 1), vI 625, vI (code + 1), vI ((((code / 5) / 5) / 5) / 5), vI (-1)], [], aq_h m s F c_5)) rfl rfl ?_
          exact qm_lay_4 hyy hFy ha hFa d (mn + 1) (code + 1) (vI ((((code / 5) / 5) / 5) / 5)) (vI (-1)) c_5 sc_5 (by omega) (by omega) (by omega) (by omega) (by rw [← hl, ly, if_pos (by omega)]; first | (rw [if_pos hq_h]) | (rw [if_neg hq_h, if_neg (by omega)])) (by omega)
        · refine am_E.go (t2 := (96, [vR y, vI 4, vI t, vI num, vR a, vI mn, vI 625, vI code, vI ((((code / 5) / 5) / 5) / 5), vI (-1)], [vI mn], aq_h m s F c_5)) rfl rfl ?_
          refine am_E.ret rfl rfl ?_
          have eT : T = (mn, code) := by rw [← hl, ly, if_pos (by omega), if_neg hq_h, if_pos (by omega)]
          rw [eT]
          exact ⟨_, rfl, sc_5, rfl, fun _ => hz⟩

theorem qm_lay4 {m s : Nat} {F : aq_F} {c : aq_C} {y a : Nat} (hyy : y < m) (hFy : F y = (15, 27, mo_t y)) (ha : a < m) (hFa : F a = (0, 4, fun _ => .inl 0)) {t num : Int} : am_E ac_X5_lay (0, [vR y, vI 4, vI t, vI num, vR a, vU, vU, vU, vU, vU], [], aq_h m s F c) (aq_Z m s F (fun b => b = a) c (fun r d => r = some (vI (ly 4 t num 625 626 0 0).1) ∧ ((ly 4 t num 625 626 0 0).2 < 625 → ∀ i, 0 ≤ i → i < 4 → d a i = dg_n 4 (ly 4 t num 625 626 0 0).2 i))) := by
  refine am_E.go (t2 := (1, [vR y, vI 4, vI t, vI num, vR a, vU, vU, vU, vU, vU], [vI 0], aq_h m s F c)) rfl rfl ?_
  refine am_E.go (t2 := (3, [vR y, vI 4, vI t, vI num, vR a, vI 0, vU, vU, vU, vU], [], aq_h m s F c)) rfl rfl ?_
  refine am_E.go (t2 := (4, [vR y, vI 4, vI t, vI num, vR a, vI 0, vU, vU, vU, vU], [vI 1], aq_h m s F c)) rfl rfl ?_
  refine am_E.go (t2 := (6, [vR y, vI 4, vI t, vI num, vR a, vI 0, vI 1, vU, vU, vU], [], aq_h m s F c)) rfl rfl ?_
  refine am_E.go (t2 := (7, [vR y, vI 4, vI t, vI num, vR a, vI 0, vI 1, vU, vU, vU], [vI 0], aq_h m s F c)) rfl rfl ?_
  refine am_E.go (t2 := (9, [vR y, vI 4, vI t, vI num, vR a, vI 0, vI 1, vI 0, vU, vU], [], aq_h m s F c)) rfl rfl ?_
  refine am_E.go (t2 := (11, [vR y, vI 4, vI t, vI num, vR a, vI 0, vI 1, vI 0, vU, vU], [vI 0], aq_h m s F c)) rfl rfl ?_
  refine am_E.go (t2 := (12, [vR y, vI 4, vI t, vI num, vR a, vI 0, vI 1, vI 0, vU, vU], [vI 4, vI 0], aq_h m s F c)) rfl rfl ?_
  refine am_E.go (t2 := (15, [vR y, vI 4, vI t, vI num, vR a, vI 0, vI 1, vI 0, vU, vU], [], aq_h m s F c)) rfl rfl ?_
  refine am_E.go (t2 := (17, [vR y, vI 4, vI t, vI num, vR a, vI 0, vI 1, vI 0, vU, vU], [vI 1], aq_h m s F c)) rfl rfl ?_
  refine am_E.go (t2 := (18, [vR y, vI 4, vI t, vI num, vR a, vI 0, vI 1, vI 0, vU, vU], [vI 4, vI 1], aq_h m s F c)) rfl rfl ?_
  refine am_E.go (t2 := (19, [vR y, vI 4, vI t, vI num, vR a, vI 0, vI 1, vI 0, vU, vU], [vI 1, vI 4, vI 1], aq_h m s F c)) rfl rfl ?_
  refine am_E.go (t2 := (20, [vR y, vI 4, vI t, vI num, vR a, vI 0, vI 1, vI 0, vU, vU], [vI 5, vI 1], aq_h m s F c)) rfl rfl ?_
  refine am_E.go (t2 := (21, [vR y, vI 4, vI t, vI num, vR a, vI 0, vI 1, vI 0, vU, vU], [vI 5], aq_h m s F c)) rfl rfl ?_
  refine am_E.go (t2 := (23, [vR y, vI 4, vI t, vI num, vR a, vI 0, vI 5, vI 0, vU, vU], [], aq_h m s F c)) rfl rfl ?_
  refine am_E.go (t2 := (26, [vR y, vI 4, vI t, vI num, vR a, vI 0, vI 5, vI 1, vU, vU], [], aq_h m s F c)) rfl rfl ?_
  refine am_E.go (t2 := (9, [vR y, vI 4, vI t, vI num, vR a, vI 0, vI 5, vI 1, vU, vU], [], aq_h m s F c)) rfl rfl ?_
  refine am_E.go (t2 := (11, [vR y, vI 4, vI t, vI num, vR a, vI 0, vI 5, vI 1, vU, vU], [vI 1], aq_h m s F c)) rfl rfl ?_
  refine am_E.go (t2 := (12, [vR y, vI 4, vI t, vI num, vR a, vI 0, vI 5, vI 1, vU, vU], [vI 4, vI 1], aq_h m s F c)) rfl rfl ?_
  refine am_E.go (t2 := (15, [vR y, vI 4, vI t, vI num, vR a, vI 0, vI 5, vI 1, vU, vU], [], aq_h m s F c)) rfl rfl ?_
  refine am_E.go (t2 := (17, [vR y, vI 4, vI t, vI num, vR a, vI 0, vI 5, vI 1, vU, vU], [vI 5], aq_h m s F c)) rfl rfl ?_
  refine am_E.go (t2 := (18, [vR y, vI 4, vI t, vI num, vR a, vI 0, vI 5, vI 1, vU, vU], [vI 4, vI 5], aq_h m s F c)) rfl rfl ?_
  refine am_E.go (t2 := (19, [vR y, vI 4, vI t, vI num, vR a, vI 0, vI 5, vI 1, vU, vU], [vI 1, vI 4, vI 5], aq_h m s F c)) rfl rfl ?_
  refine am_E.go (t2 := (20, [vR y, vI 4, vI t, vI num, vR a, vI 0, vI 5, vI 1, vU, vU], [vI 5, vI 5], aq_h m s F c)) rfl rfl ?_
  refine am_E.go (t2 := (21, [vR y, vI 4, vI t, vI num, vR a, vI 0, vI 5, vI 1, vU, vU], [vI 25], aq_h m s F c)) rfl rfl ?_
  refine am_E.go (t2 := (23, [vR y, vI 4, vI t, vI num, vR a, vI 0, vI 25, vI 1, vU, vU], [], aq_h m s F c)) rfl rfl ?_
  refine am_E.go (t2 := (26, [vR y, vI 4, vI t, vI num, vR a, vI 0, vI 25, vI 2, vU, vU], [], aq_h m s F c)) rfl rfl ?_
  refine am_E.go (t2 := (9, [vR y, vI 4, vI t, vI num, vR a, vI 0, vI 25, vI 2, vU, vU], [], aq_h m s F c)) rfl rfl ?_
  refine am_E.go (t2 := (11, [vR y, vI 4, vI t, vI num, vR a, vI 0, vI 25, vI 2, vU, vU], [vI 2], aq_h m s F c)) rfl rfl ?_
  refine am_E.go (t2 := (12, [vR y, vI 4, vI t, vI num, vR a, vI 0, vI 25, vI 2, vU, vU], [vI 4, vI 2], aq_h m s F c)) rfl rfl ?_
  refine am_E.go (t2 := (15, [vR y, vI 4, vI t, vI num, vR a, vI 0, vI 25, vI 2, vU, vU], [], aq_h m s F c)) rfl rfl ?_
  refine am_E.go (t2 := (17, [vR y, vI 4, vI t, vI num, vR a, vI 0, vI 25, vI 2, vU, vU], [vI 25], aq_h m s F c)) rfl rfl ?_
  refine am_E.go (t2 := (18, [vR y, vI 4, vI t, vI num, vR a, vI 0, vI 25, vI 2, vU, vU], [vI 4, vI 25], aq_h m s F c)) rfl rfl ?_
  refine am_E.go (t2 := (19, [vR y, vI 4, vI t, vI num, vR a, vI 0, vI 25, vI 2, vU, vU], [vI 1, vI 4, vI 25], aq_h m s F c)) rfl rfl ?_
  refine am_E.go (t2 := (20, [vR y, vI 4, vI t, vI num, vR a, vI 0, vI 25, vI 2, vU, vU], [vI 5, vI 25], aq_h m s F c)) rfl rfl ?_
  refine am_E.go (t2 := (21, [vR y, vI 4, vI t, vI num, vR a, vI 0, vI 25, vI 2, vU, vU], [vI 125], aq_h m s F c)) rfl rfl ?_
  refine am_E.go (t2 := (23, [vR y, vI 4, vI t, vI num, vR a, vI 0, vI 125, vI 2, vU, vU], [], aq_h m s F c)) rfl rfl ?_
  refine am_E.go (t2 := (26, [vR y, vI 4, vI t, vI num, vR a, vI 0, vI 125, vI 3, vU, vU], [], aq_h m s F c)) rfl rfl ?_
  refine am_E.go (t2 := (9, [vR y, vI 4, vI t, vI num, vR a, vI 0, vI 125, vI 3, vU, vU], [], aq_h m s F c)) rfl rfl ?_
  refine am_E.go (t2 := (11, [vR y, vI 4, vI t, vI num, vR a, vI 0, vI 125, vI 3, vU, vU], [vI 3], aq_h m s F c)) rfl rfl ?_
  refine am_E.go (t2 := (12, [vR y, vI 4, vI t, vI num, vR a, vI 0, vI 125, vI 3, vU, vU], [vI 4, vI 3], aq_h m s F c)) rfl rfl ?_
  refine am_E.go (t2 := (15, [vR y, vI 4, vI t, vI num, vR a, vI 0, vI 125, vI 3, vU, vU], [], aq_h m s F c)) rfl rfl ?_
  refine am_E.go (t2 := (17, [vR y, vI 4, vI t, vI num, vR a, vI 0, vI 125, vI 3, vU, vU], [vI 125], aq_h m s F c)) rfl rfl ?_
  refine am_E.go (t2 := (18, [vR y, vI 4, vI t, vI num, vR a, vI 0, vI 125, vI 3, vU, vU], [vI 4, vI 125], aq_h m s F c)) rfl rfl ?_
  refine am_E.go (t2 := (19, [vR y, vI 4, vI t, vI num, vR a, vI 0, vI 125, vI 3, vU, vU], [vI 1, vI 4, vI 125], aq_h m s F c)) rfl rfl ?_
  refine am_E.go (t2 := (20, [vR y, vI 4, vI t, vI num, vR a, vI 0, vI 125, vI 3, vU, vU], [vI 5, vI 125], aq_h m s F c)) rfl rfl ?_
  refine am_E.go (t2 := (21, [vR y, vI 4, vI t, vI num, vR a, vI 0, vI 125, vI 3, vU, vU], [vI 625], aq_h m s F c)) rfl rfl ?_
  refine am_E.go (t2 := (23, [vR y, vI 4, vI t, vI num, vR a, vI 0, vI 625, vI 3, vU, vU], [], aq_h m s F c)) rfl rfl ?_
  refine am_E.go (t2 := (26, [vR y, vI 4, vI t, vI num, vR a, vI 0, vI 625, vI 4, vU, vU], [], aq_h m s F c)) rfl rfl ?_
  refine am_E.go (t2 := (9, [vR y, vI 4, vI t, vI num, vR a, vI 0, vI 625, vI 4, vU, vU], [], aq_h m s F c)) rfl rfl ?_
  refine am_E.go (t2 := (11, [vR y, vI 4, vI t, vI num, vR a, vI 0, vI 625, vI 4, vU, vU], [vI 4], aq_h m s F c)) rfl rfl ?_
  refine am_E.go (t2 := (12, [vR y, vI 4, vI t, vI num, vR a, vI 0, vI 625, vI 4, vU, vU], [vI 4, vI 4], aq_h m s F c)) rfl rfl ?_
  refine am_E.go (t2 := (29, [vR y, vI 4, vI t, vI num, vR a, vI 0, vI 625, vI 4, vU, vU], [], aq_h m s F c)) rfl rfl ?_
  refine am_E.go (t2 := (30, [vR y, vI 4, vI t, vI num, vR a, vI 0, vI 625, vI 4, vU, vU], [vI 0], aq_h m s F c)) rfl rfl ?_
  refine am_E.go (t2 := (32, [vR y, vI 4, vI t, vI num, vR a, vI 0, vI 625, vI 0, vU, vU], [], aq_h m s F c)) rfl rfl ?_
  exact qm_lay_4 hyy hFy ha hFa 626 0 0 (vU) (vU) c (aq_sm0 (c := c) (S := (fun b => b = a))) (by omega) (by omega) (by omega) (by omega) rfl (by omega)
