/-! Halves: methods of its constructor. Printed by wip/p20/sx/gHC.py. -/

/-- an object of Halves while it is made: size, left and partners are contents still -/
def hc_t (o n : Nat) : Nat → aq_T := fun y => match y with
  | 0 => .inr (vI (n : Int))
  | 1 => .inr (vR (o + 9))
  | 2 => .inr (vR (o + 1))
  | 3 => .inr (vR (o + 2))
  | 4 => .inr (vR (o + 16))
  | 5 => .inr (vR (o + 17))
  | _ => .inl 0
def hc_0 (m : Nat) (F : aq_F) (o n : Nat) : Prop := o + 18 ≤ m ∧ 1 ≤ n ∧ n ≤ 4 ∧ F o = (12, 7, hc_t o n) ∧ F (o + 1) = (0, 6, fun _ => .inl 0) ∧ F (o + 2) = (3, 6, fun j => aq_g 6 j (o + 3 + j)) ∧ (∀ j, j < 6 → F (o + 3 + j) = (0, 6, fun _ => .inl 0)) ∧ F (o + 9) = (3, 6, fun j => aq_g 6 j (o + 10 + j)) ∧ (∀ h, h < 6 → F (o + 10 + h) = (0, n, fun _ => .inl 0)) ∧ F (o + 16) = (0, n, fun _ => .inl 0) ∧ F (o + 17) = (1, n, fun _ => .inl 0)
/-- draft and partners lie in range, size too -/
def hc_I (o n : Nat) (c : aq_C) : Prop := aq_rg (o + 16) (n : Int) 0 ((n : Int) + 1) c ∧ (∀ h, h < 6 → aq_rg (o + 10 + h) (n : Int) 0 ((n : Int) + 1) c) ∧ 0 ≤ c o 6 ∧ c o 6 ≤ 6
theorem hc_u {o n a : Nat} {i x : Int} {c d : aq_C} (h : hc_I o n c) (he : aq_u c a i x = d) (h0 : 0 ≤ x) (h1 : x < (n : Int) + 1) (ha : a ≠ o) : hc_I o n d := by
  obtain ⟨k1, k2, k3, k4⟩ := h
  refine ⟨?_, fun h hh => ?_, ?_, ?_⟩
  · by_cases e : o + 16 = a
    · subst e
      exact aq_rgu k1 he h0 h1
    · exact aq_rgn k1 he e
  · by_cases e : o + 10 + h = a
    · subst e
      exact aq_rgu (k2 h hh) he h0 h1
    · exact aq_rgn (k2 h hh) he e
  · rw [← he, aq_un (Or.inl (Ne.symm ha))]; exact k3
  · rw [← he, aq_un (Or.inl (Ne.symm ha))]; exact k4
theorem hc_l {o n : Nat} {i x : Int} {c d : aq_C} (h : hc_I o n c) (he : aq_u c (o + 1) i x = d) : hc_I o n d := by
  obtain ⟨k1, k2, k3, k4⟩ := h
  refine ⟨aq_rgn k1 he (by omega), fun h hh => aq_rgn (k2 h hh) he (by omega), ?_, ?_⟩
  · rw [← he, aq_un (Or.inl (by omega))]; exact k3
  · rw [← he, aq_un (Or.inl (by omega))]; exact k4

theorem qc_keeps_l {m s : Nat} {F : aq_F} {c : aq_C} {o n : Nat} (hH : hc_0 m F o n) (hc : hc_I o n c) {p q : Int} (hp : 0 ≤ p) (hq : q ≤ (n : Int)) : ∀ (d : Nat) (r : Int) (h0 : 0 ≤ r) (hd : max 0 (q - r) < (d : Int)), am_E ac_X2_keepsWithin (4, [vR (o + 16), vI p, vI q, vI r], [], aq_h m s F c) (aq_P m s F c aq_vb)
  | 0, r, h0, hd => by exfalso; omega
  | d + 1, r, h0, hd => by
    obtain ⟨hm, hn1, hn4, hFo, hFl, hFg, hFt, hFp, hFq, hFd, hFs⟩ := hH
    refine am_E.go (t2 := (5, [vR (o + 16), vI p, vI q, vI r], [vI r], aq_h m s F c)) rfl rfl ?_
    refine am_E.go (t2 := (6, [vR (o + 16), vI p, vI q, vI r], [vI q, vI r], aq_h m s F c)) rfl rfl ?_
    refine ae_icmp rfl (fun (q_1 : q ≤ r) => ?_) (fun (q_1 : r < q) => ?_)
    · refine am_E.go (t2 := (32, [vR (o + 16), vI p, vI q, vI r], [vI 1], aq_h m s F c)) rfl rfl ?_
      refine am_E.ret rfl rfl ?_
      exact ⟨rfl, _, rfl, by omega⟩
    · refine am_E.go (t2 := (10, [vR (o + 16), vI p, vI q, vI r], [vR (o + 16)], aq_h m s F c)) rfl rfl ?_
      refine am_E.go (t2 := (11, [vR (o + 16), vI p, vI q, vI r], [vI r, vR (o + 16)], aq_h m s F c)) rfl rfl ?_
      refine aq_al (ok := fun k => k == 0) (v := vI (c (o + 16) r)) rfl rfl (by omega) hFd rfl (by omega) (by omega) rfl ?_
      show am_E _ (12, [vR (o + 16), vI p, vI q, vI r], [vI (c (o + 16) r)], aq_h m s F c) _
      have f_2 := (hc).1 r (by omega) (by omega)
      refine am_E.go (t2 := (13, [vR (o + 16), vI p, vI q, vI r], [vI p, vI (c (o + 16) r)], aq_h m s F c)) rfl rfl ?_
      refine ae_icmp rfl (fun (q_3 : (c (o + 16) r) ≤ p) => ?_) (fun (q_3 : p < (c (o + 16) r)) => ?_)
      · refine am_E.go (t2 := (24, [vR (o + 16), vI p, vI q, vI r], [vI 0], aq_h m s F c)) rfl rfl ?_
        refine am_E.ret rfl rfl ?_
        exact ⟨rfl, _, rfl, by omega⟩
      · refine am_E.go (t2 := (17, [vR (o + 16), vI p, vI q, vI r], [vR (o + 16)], aq_h m s F c)) rfl rfl ?_
        refine am_E.go (t2 := (18, [vR (o + 16), vI p, vI q, vI r], [vI r, vR (o + 16)], aq_h m s F c)) rfl rfl ?_
        refine aq_al (ok := fun k => k == 0) (v := vI (c (o + 16) r)) rfl rfl (by omega) hFd rfl (by omega) (by omega) rfl ?_
        show am_E _ (19, [vR (o + 16), vI p, vI q, vI r], [vI (c (o + 16) r)], aq_h m s F c) _
        have f_4 := (hc).1 r (by omega) (by omega)
        refine am_E.go (t2 := (20, [vR (o + 16), vI p, vI q, vI r], [vI q, vI (c (o + 16) r)], aq_h m s F c)) rfl rfl ?_
        refine ae_icmp rfl (fun (q_5 : (c (o + 16) r) < q) => ?_) (fun (q_5 : q ≤ (c (o + 16) r)) => ?_)
        · refine ae_iinc rfl rfl (am_ri (by omega) (by omega)) ?_
          show am_E _ (28, [vR (o + 16), vI p, vI q, vI (r + 1)], [], aq_h m s F c) _
          refine am_E.go (t2 := (4, [vR (o + 16), vI p, vI q, vI (r + 1)], [], aq_h m s F c)) rfl rfl ?_
          exact qc_keeps_l ⟨hm, hn1, hn4, hFo, hFl, hFg, hFt, hFp, hFq, hFd, hFs⟩ hc hp hq d (r + 1) (by omega) (by omega)
        · refine am_E.go (t2 := (24, [vR (o + 16), vI p, vI q, vI r], [vI 0], aq_h m s F c)) rfl rfl ?_
          refine am_E.ret rfl rfl ?_
          exact ⟨rfl, _, rfl, by omega⟩

theorem qc_keepsWithin {m s : Nat} {F : aq_F} {c : aq_C} {o n : Nat} (hH : hc_0 m F o n) (hc : hc_I o n c) {p q : Int} (hp : 0 ≤ p) (hp2 : p < (n : Int)) (hq : q ≤ (n : Int)) : am_E ac_X2_keepsWithin (0, [vR (o + 16), vI p, vI q, vU], [], aq_h m s F c) (aq_P m s F c aq_vb) := by
  obtain ⟨hm, hn1, hn4, hFo, hFl, hFg, hFt, hFp, hFq, hFd, hFs⟩ := hH
  refine am_E.go (t2 := (1, [vR (o + 16), vI p, vI q, vU], [vI p], aq_h m s F c)) rfl rfl ?_
  refine am_E.go (t2 := (2, [vR (o + 16), vI p, vI q, vU], [vI 1, vI p], aq_h m s F c)) rfl rfl ?_
  refine ae_add rfl (am_ri (by omega) (by omega)) ?_
  show am_E _ (3, [vR (o + 16), vI p, vI q, vU], [vI (p + 1)], aq_h m s F c) _
  refine am_E.go (t2 := (4, [vR (o + 16), vI p, vI q, vI (p + 1)], [], aq_h m s F c)) rfl rfl ?_
  exact qc_keeps_l ⟨hm, hn1, hn4, hFo, hFl, hFg, hFt, hFp, hFq, hFd, hFs⟩ hc hp hq 6 (p + 1) (by omega) (by omega)

theorem qc_isHalf_l {m s : Nat} {F : aq_F} {c : aq_C} {o n : Nat} (hH : hc_0 m F o n) (hc : hc_I o n c) : ∀ (d : Nat) (p : Int) (v3 : am_V) (h0 : 0 ≤ p) (h1 : p ≤ (n : Int)) (hd : (n : Int) - p < (d : Int)), am_E ac_X2_isHalf (2, [vR o, vR (o + 16), vI p, v3], [], aq_h m s F c) (aq_P m s F c aq_vb)
  | 0, p, v3, h0, h1, hd => by exfalso; omega
  | d + 1, p, v3, h0, h1, hd => by
    obtain ⟨hm, hn1, hn4, hFo, hFl, hFg, hFt, hFp, hFq, hFd, hFs⟩ := hH
    refine am_E.go (t2 := (3, [vR o, vR (o + 16), vI p, v3], [vI p], aq_h m s F c)) rfl rfl ?_
    refine am_E.go (t2 := (4, [vR o, vR (o + 16), vI p, v3], [vR o, vI p], aq_h m s F c)) rfl rfl ?_
    refine aq_gf (v := vI (n : Int)) rfl (by omega) hFo (by decide) rfl ?_
    show am_E _ (7, [vR o, vR (o + 16), vI p, v3], [vI (n : Int), vI p], aq_h m s F c) _
    refine ae_icmp rfl (fun (q_1 : (n : Int) ≤ p) => ?_) (fun (q_1 : p < (n : Int)) => ?_)
    · refine am_E.go (t2 := (62, [vR o, vR (o + 16), vI p, v3], [vI 1], aq_h m s F c)) rfl rfl ?_
      refine am_E.ret rfl rfl ?_
      exact ⟨rfl, _, rfl, by omega⟩
    · refine am_E.go (t2 := (11, [vR o, vR (o + 16), vI p, v3], [vR (o + 16)], aq_h m s F c)) rfl rfl ?_
      refine am_E.go (t2 := (12, [vR o, vR (o + 16), vI p, v3], [vI p, vR (o + 16)], aq_h m s F c)) rfl rfl ?_
      refine aq_al (ok := fun k => k == 0) (v := vI (c (o + 16) p)) rfl rfl (by omega) hFd rfl (by omega) (by omega) rfl ?_
      show am_E _ (13, [vR o, vR (o + 16), vI p, v3], [vI (c (o + 16) p)], aq_h m s F c) _
      have f_2 := (hc).1 p (by omega) (by omega)
      refine am_E.go (t2 := (14, [vR o, vR (o + 16), vI p, vI (c (o + 16) p)], [], aq_h m s F c)) rfl rfl ?_
      refine am_E.go (t2 := (15, [vR o, vR (o + 16), vI p, vI (c (o + 16) p)], [vI (c (o + 16) p)], aq_h m s F c)) rfl rfl ?_
      refine am_E.go (t2 := (16, [vR o, vR (o + 16), vI p, vI (c (o + 16) p)], [vR o, vI (c (o + 16) p)], aq_h m s F c)) rfl rfl ?_
      refine aq_gf (v := vI (n : Int)) rfl (by omega) hFo (by decide) rfl ?_
      show am_E _ (19, [vR o, vR (o + 16), vI p, vI (c (o + 16) p)], [vI (n : Int), vI (c (o + 16) p)], aq_h m s F c) _
      refine ae_icmp rfl (fun (q_3 : (n : Int) ≤ (c (o + 16) p)) => ?_) (fun (q_3 : (c (o + 16) p) < (n : Int)) => ?_)
      · refine am_E.go (t2 := (37, [vR o, vR (o + 16), vI p, vI (c (o + 16) p)], [vI (c (o + 16) p)], aq_h m s F c)) rfl rfl ?_
        refine am_E.go (t2 := (38, [vR o, vR (o + 16), vI p, vI (c (o + 16) p)], [vR o, vI (c (o + 16) p)], aq_h m s F c)) rfl rfl ?_
        refine aq_gf (v := vI (n : Int)) rfl (by omega) hFo (by decide) rfl ?_
        show am_E _ (41, [vR o, vR (o + 16), vI p, vI (c (o + 16) p)], [vI (n : Int), vI (c (o + 16) p)], aq_h m s F c) _
        refine ae_icmp rfl (fun (q_4 : (n : Int) ≤ (c (o + 16) p)) => ?_) (fun (q_4 : (c (o + 16) p) < (n : Int)) => ?_)
        · refine ae_iinc rfl rfl (am_ri (by omega) (by omega)) ?_
          show am_E _ (58, [vR o, vR (o + 16), vI (p + 1), vI (c (o + 16) p)], [], aq_h m s F c) _
          refine am_E.go (t2 := (2, [vR o, vR (o + 16), vI (p + 1), vI (c (o + 16) p)], [], aq_h m s F c)) rfl rfl ?_
          exact qc_isHalf_l ⟨hm, hn1, hn4, hFo, hFl, hFg, hFt, hFp, hFq, hFd, hFs⟩ hc d (p + 1) (vI (c (o + 16) p)) (by omega) (by omega) (by omega)
        · refine am_E.go (t2 := (45, [vR o, vR (o + 16), vI p, vI (c (o + 16) p)], [vR (o + 16)], aq_h m s F c)) rfl rfl ?_
          refine am_E.go (t2 := (46, [vR o, vR (o + 16), vI p, vI (c (o + 16) p)], [vI p, vR (o + 16)], aq_h m s F c)) rfl rfl ?_
          refine am_E.go (t2 := (47, [vR o, vR (o + 16), vI p, vI (c (o + 16) p)], [vI (c (o + 16) p), vI p, vR (o + 16)], aq_h m s F c)) rfl rfl ?_
          refine am_E.call rfl rfl rfl (Nat.le_of_ble_eq_true rfl) (qc_keepsWithin ⟨hm, hn1, hn4, hFo, hFl, hFg, hFt, hFp, hFq, hFd, hFs⟩ hc (by omega) (by omega) (by omega)) ?_
          rintro r5 h5 ⟨rfl, v_5, rfl, hv_5⟩
          show am_E _ (50, [vR o, vR (o + 16), vI p, vI (c (o + 16) p)], [vI v_5], aq_h m s F c) _
          refine ae_if0 rfl (fun (q_6 : v_5 ≠ 0) => ?_) (fun (q_6 : v_5 = 0) => ?_)
          · refine ae_iinc rfl rfl (am_ri (by omega) (by omega)) ?_
            show am_E _ (58, [vR o, vR (o + 16), vI (p + 1), vI (c (o + 16) p)], [], aq_h m s F c) _
            refine am_E.go (t2 := (2, [vR o, vR (o + 16), vI (p + 1), vI (c (o + 16) p)], [], aq_h m s F c)) rfl rfl ?_
            exact qc_isHalf_l ⟨hm, hn1, hn4, hFo, hFl, hFg, hFt, hFp, hFq, hFd, hFs⟩ hc d (p + 1) (vI (c (o + 16) p)) (by omega) (by omega) (by omega)
          · refine am_E.go (t2 := (54, [vR o, vR (o + 16), vI p, vI (c (o + 16) p)], [vI 0], aq_h m s F c)) rfl rfl ?_
            refine am_E.ret rfl rfl ?_
            exact ⟨rfl, _, rfl, by omega⟩
      · refine am_E.go (t2 := (23, [vR o, vR (o + 16), vI p, vI (c (o + 16) p)], [vI (c (o + 16) p)], aq_h m s F c)) rfl rfl ?_
        refine am_E.go (t2 := (24, [vR o, vR (o + 16), vI p, vI (c (o + 16) p)], [vI p, vI (c (o + 16) p)], aq_h m s F c)) rfl rfl ?_
        refine ae_icmp rfl (fun (q_7 : (c (o + 16) p) = p) => ?_) (fun (q_7 : (c (o + 16) p) ≠ p) => ?_)
        · refine am_E.go (t2 := (35, [vR o, vR (o + 16), vI p, vI (c (o + 16) p)], [vI 0], aq_h m s F c)) rfl rfl ?_
          refine am_E.ret rfl rfl ?_
          exact ⟨rfl, _, rfl, by omega⟩
        · refine am_E.go (t2 := (28, [vR o, vR (o + 16), vI p, vI (c (o + 16) p)], [vR (o + 16)], aq_h m s F c)) rfl rfl ?_
          refine am_E.go (t2 := (29, [vR o, vR (o + 16), vI p, vI (c (o + 16) p)], [vI (c (o + 16) p), vR (o + 16)], aq_h m s F c)) rfl rfl ?_
          refine aq_al (ok := fun k => k == 0) (v := vI (c (o + 16) (c (o + 16) p))) rfl rfl (by omega) hFd rfl (by omega) (by omega) rfl ?_
          show am_E _ (30, [vR o, vR (o + 16), vI p, vI (c (o + 16) p)], [vI (c (o + 16) (c (o + 16) p))], aq_h m s F c) _
          have f_8 := (hc).1 (c (o + 16) p) (by omega) (by omega)
          refine am_E.go (t2 := (31, [vR o, vR (o + 16), vI p, vI (c (o + 16) p)], [vI p, vI (c (o + 16) (c (o + 16) p))], aq_h m s F c)) rfl rfl ?_
          refine ae_icmp rfl (fun (q_9 : (c (o + 16) (c (o + 16) p)) = p) => ?_) (fun (q_9 : (c (o + 16) (c (o + 16) p)) ≠ p) => ?_)
          · refine am_E.go (t2 := (37, [vR o, vR (o + 16), vI p, vI (c (o + 16) p)], [vI (c (o + 16) p)], aq_h m s F c)) rfl rfl ?_
            refine am_E.go (t2 := (38, [vR o, vR (o + 16), vI p, vI (c (o + 16) p)], [vR o, vI (c (o + 16) p)], aq_h m s F c)) rfl rfl ?_
            refine aq_gf (v := vI (n : Int)) rfl (by omega) hFo (by decide) rfl ?_
            show am_E _ (41, [vR o, vR (o + 16), vI p, vI (c (o + 16) p)], [vI (n : Int), vI (c (o + 16) p)], aq_h m s F c) _
            refine ae_icmp rfl (fun (q_10 : (n : Int) ≤ (c (o + 16) p)) => ?_) (fun (q_10 : (c (o + 16) p) < (n : Int)) => ?_)
            · refine ae_iinc rfl rfl (am_ri (by omega) (by omega)) ?_
              show am_E _ (58, [vR o, vR (o + 16), vI (p + 1), vI (c (o + 16) p)], [], aq_h m s F c) _
              refine am_E.go (t2 := (2, [vR o, vR (o + 16), vI (p + 1), vI (c (o + 16) p)], [], aq_h m s F c)) rfl rfl ?_
              exact qc_isHalf_l ⟨hm, hn1, hn4, hFo, hFl, hFg, hFt, hFp, hFq, hFd, hFs⟩ hc d (p + 1) (vI (c (o + 16) p)) (by omega) (by omega) (by omega)
            · refine am_E.go (t2 := (45, [vR o, vR (o + 16), vI p, vI (c (o + 16) p)], [vR (o + 16)], aq_h m s F c)) rfl rfl ?_
              refine am_E.go (t2 := (46, [vR o, vR (o + 16), vI p, vI (c (o + 16) p)], [vI p, vR (o + 16)], aq_h m s F c)) rfl rfl ?_
              refine am_E.go (t2 := (47, [vR o, vR (o + 16), vI p, vI (c (o + 16) p)], [vI (c (o + 16) p), vI p, vR (o + 16)], aq_h m s F c)) rfl rfl ?_
              refine am_E.call rfl rfl rfl (Nat.le_of_ble_eq_true rfl) (qc_keepsWithin ⟨hm, hn1, hn4, hFo, hFl, hFg, hFt, hFp, hFq, hFd, hFs⟩ hc (by omega) (by omega) (by omega)) ?_
              rintro r5 h5 ⟨rfl, v_11, rfl, hv_11⟩
              show am_E _ (50, [vR o, vR (o + 16), vI p, vI (c (o + 16) p)], [vI v_11], aq_h m s F c) _
              refine ae_if0 rfl (fun (q_12 : v_11 ≠ 0) => ?_) (fun (q_12 : v_11 = 0) => ?_)
              · refine ae_iinc rfl rfl (am_ri (by omega) (by omega)) ?_
                show am_E _ (58, [vR o, vR (o + 16), vI (p + 1), vI (c (o + 16) p)], [], aq_h m s F c) _
                refine am_E.go (t2 := (2, [vR o, vR (o + 16), vI (p + 1), vI (c (o + 16) p)], [], aq_h m s F c)) rfl rfl ?_
                exact qc_isHalf_l ⟨hm, hn1, hn4, hFo, hFl, hFg, hFt, hFp, hFq, hFd, hFs⟩ hc d (p + 1) (vI (c (o + 16) p)) (by omega) (by omega) (by omega)
              · refine am_E.go (t2 := (54, [vR o, vR (o + 16), vI p, vI (c (o + 16) p)], [vI 0], aq_h m s F c)) rfl rfl ?_
                refine am_E.ret rfl rfl ?_
                exact ⟨rfl, _, rfl, by omega⟩
          · refine am_E.go (t2 := (35, [vR o, vR (o + 16), vI p, vI (c (o + 16) p)], [vI 0], aq_h m s F c)) rfl rfl ?_
            refine am_E.ret rfl rfl ?_
            exact ⟨rfl, _, rfl, by omega⟩

theorem qc_isHalf {m s : Nat} {F : aq_F} {c : aq_C} {o n : Nat} (hH : hc_0 m F o n) (hc : hc_I o n c) : am_E ac_X2_isHalf (0, [vR o, vR (o + 16), vU, vU], [], aq_h m s F c) (aq_P m s F c aq_vb) := by
  obtain ⟨hm, hn1, hn4, hFo, hFl, hFg, hFt, hFp, hFq, hFd, hFs⟩ := hH
  refine am_E.go (t2 := (1, [vR o, vR (o + 16), vU, vU], [vI 0], aq_h m s F c)) rfl rfl ?_
  refine am_E.go (t2 := (2, [vR o, vR (o + 16), vI 0, vU], [], aq_h m s F c)) rfl rfl ?_
  exact qc_isHalf_l ⟨hm, hn1, hn4, hFo, hFl, hFg, hFt, hFp, hFq, hFd, hFs⟩ hc 6 0 (vU) (by omega) (by omega) (by omega)

theorem qc_nextDraft_l {m s : Nat} {F : aq_F} {c0 : aq_C} {o n : Nat} (hH : hc_0 m F o n) : ∀ (d : Nat) (p : Int) (c : aq_C) (hs : aq_sm (fun a => o ≤ a ∧ a < o + 18) c0 c) (h0 : -1 ≤ p) (h1 : p < (n : Int)) (hc : hc_I o n c) (hd : p + 1 < (d : Int)), am_E ac_X2_nextDraft (7, [vR o, vI p], [], aq_h m s F c) (aq_Z m s F (fun a => o ≤ a ∧ a < o + 18) c0 (fun r d => r = none ∧ hc_I o n d))
  | 0, p, c, hs, h0, h1, hc, hd => by exfalso; omega
  | d + 1, p, c, hs, h0, h1, hc, hd => by
    obtain ⟨hm, hn1, hn4, hFo, hFl, hFg, hFt, hFp, hFq, hFd, hFs⟩ := hH
    refine am_E.go (t2 := (8, [vR o, vI p], [vI p], aq_h m s F c)) rfl rfl ?_
    refine ae_if0 rfl (fun (q_1 : p < 0) => ?_) (fun (q_1 : 0 ≤ p) => ?_)
    · refine am_E.go (t2 := (38, [vR o, vI p], [vI p], aq_h m s F c)) rfl rfl ?_
      refine ae_if0 rfl (fun (q_2 : p < 0) => ?_) (fun (q_2 : 0 ≤ p) => ?_)
      · refine am_E.ret rfl rfl ?_
        exact ⟨_, rfl, hs, rfl, hc⟩
      · refine am_E.go (t2 := (42, [vR o, vI p], [vR o], aq_h m s F c)) rfl rfl ?_
        refine aq_gf (v := vR (o + 16)) rfl (by omega) hFo (by decide) rfl ?_
        show am_E _ (45, [vR o, vI p], [vR (o + 16)], aq_h m s F c) _
        refine am_E.go (t2 := (46, [vR o, vI p], [vI p, vR (o + 16)], aq_h m s F c)) rfl rfl ?_
        refine am_E.go (t2 := (47, [vR o, vI p], [vI p, vR (o + 16), vI p, vR (o + 16)], aq_h m s F c)) rfl rfl ?_
        refine aq_al (ok := fun k => k == 0) (v := vI (c (o + 16) p)) rfl rfl (by omega) hFd rfl (by omega) (by omega) rfl ?_
        show am_E _ (48, [vR o, vI p], [vI (c (o + 16) p), vI p, vR (o + 16)], aq_h m s F c) _
        have f_3 := (hc).1 p (by omega) (by omega)
        refine am_E.go (t2 := (49, [vR o, vI p], [vI 1, vI (c (o + 16) p), vI p, vR (o + 16)], aq_h m s F c)) rfl rfl ?_
        refine ae_add rfl (am_ri (by omega) (by omega)) ?_
        show am_E _ (50, [vR o, vI p], [vI ((c (o + 16) p) + 1), vI p, vR (o + 16)], aq_h m s F c) _
        refine aq_as (kd := 0) rfl rfl (by omega) hFd (by omega) (by omega) rfl rfl ?_
        show am_E _ (51, [vR o, vI p], [], aq_h m s F (aq_u c (o + 16) p ((c (o + 16) p) + 1))) _
        generalize hdc_4 : aq_u c (o + 16) p ((c (o + 16) p) + 1) = c_4
        have sc_4 := aq_smu hs hdc_4 (by omega)
        have hhcc_4 := hc_u hc hdc_4 (by omega) (by omega) (by omega)
        refine am_E.ret rfl rfl ?_
        exact ⟨_, rfl, sc_4, rfl, hhcc_4⟩
    · refine am_E.go (t2 := (12, [vR o, vI p], [vR o], aq_h m s F c)) rfl rfl ?_
      refine aq_gf (v := vR (o + 16)) rfl (by omega) hFo (by decide) rfl ?_
      show am_E _ (15, [vR o, vI p], [vR (o + 16)], aq_h m s F c) _
      refine am_E.go (t2 := (16, [vR o, vI p], [vI p, vR (o + 16)], aq_h m s F c)) rfl rfl ?_
      refine aq_al (ok := fun k => k == 0) (v := vI (c (o + 16) p)) rfl rfl (by omega) hFd rfl (by omega) (by omega) rfl ?_
      show am_E _ (17, [vR o, vI p], [vI (c (o + 16) p)], aq_h m s F c) _
      have f_5 := (hc).1 p (by omega) (by omega)
      refine am_E.go (t2 := (18, [vR o, vI p], [vR o, vI (c (o + 16) p)], aq_h m s F c)) rfl rfl ?_
      refine aq_gf (v := vI (n : Int)) rfl (by omega) hFo (by decide) rfl ?_
      show am_E _ (21, [vR o, vI p], [vI (n : Int), vI (c (o + 16) p)], aq_h m s F c) _
      refine ae_icmp rfl (fun (q_6 : (c (o + 16) p) ≠ (n : Int)) => ?_) (fun (q_6 : (c (o + 16) p) = (n : Int)) => ?_)
      · refine am_E.go (t2 := (38, [vR o, vI p], [vI p], aq_h m s F c)) rfl rfl ?_
        refine ae_if0 rfl (fun (q_7 : p < 0) => ?_) (fun (q_7 : 0 ≤ p) => ?_)
        · refine am_E.ret rfl rfl ?_
          exact ⟨_, rfl, hs, rfl, hc⟩
        · refine am_E.go (t2 := (42, [vR o, vI p], [vR o], aq_h m s F c)) rfl rfl ?_
          refine aq_gf (v := vR (o + 16)) rfl (by omega) hFo (by decide) rfl ?_
          show am_E _ (45, [vR o, vI p], [vR (o + 16)], aq_h m s F c) _
          refine am_E.go (t2 := (46, [vR o, vI p], [vI p, vR (o + 16)], aq_h m s F c)) rfl rfl ?_
          refine am_E.go (t2 := (47, [vR o, vI p], [vI p, vR (o + 16), vI p, vR (o + 16)], aq_h m s F c)) rfl rfl ?_
          refine aq_al (ok := fun k => k == 0) (v := vI (c (o + 16) p)) rfl rfl (by omega) hFd rfl (by omega) (by omega) rfl ?_
          show am_E _ (48, [vR o, vI p], [vI (c (o + 16) p), vI p, vR (o + 16)], aq_h m s F c) _
          have f_8 := (hc).1 p (by omega) (by omega)
          refine am_E.go (t2 := (49, [vR o, vI p], [vI 1, vI (c (o + 16) p), vI p, vR (o + 16)], aq_h m s F c)) rfl rfl ?_
          refine ae_add rfl (am_ri (by omega) (by omega)) ?_
          show am_E _ (50, [vR o, vI p], [vI ((c (o + 16) p) + 1), vI p, vR (o + 16)], aq_h m s F c) _
          refine aq_as (kd := 0) rfl rfl (by omega) hFd (by omega) (by omega) rfl rfl ?_
          show am_E _ (51, [vR o, vI p], [], aq_h m s F (aq_u c (o + 16) p ((c (o + 16) p) + 1))) _
          generalize hdc_9 : aq_u c (o + 16) p ((c (o + 16) p) + 1) = c_9
          have sc_9 := aq_smu hs hdc_9 (by omega)
          have hhcc_9 := hc_u hc hdc_9 (by omega) (by omega) (by omega)
          refine am_E.ret rfl rfl ?_
          exact ⟨_, rfl, sc_9, rfl, hhcc_9⟩
      · refine am_E.go (t2 := (25, [vR o, vI p], [vR o], aq_h m s F c)) rfl rfl ?_
        refine aq_gf (v := vR (o + 16)) rfl (by omega) hFo (by decide) rfl ?_
        show am_E _ (28, [vR o, vI p], [vR (o + 16)], aq_h m s F c) _
        refine am_E.go (t2 := (29, [vR o, vI p], [vI p, vR (o + 16)], aq_h m s F c)) rfl rfl ?_
        refine am_E.go (t2 := (30, [vR o, vI p], [vI 0, vI p, vR (o + 16)], aq_h m s F c)) rfl rfl ?_
        refine aq_as (kd := 0) rfl rfl (by omega) hFd (by omega) (by omega) rfl rfl ?_
        show am_E _ (31, [vR o, vI p], [], aq_h m s F (aq_u c (o + 16) p 0)) _
        generalize hdc_10 : aq_u c (o + 16) p 0 = c_10
        have sc_10 := aq_smu hs hdc_10 (by omega)
        have hhcc_10 := hc_u hc hdc_10 (by omega) (by omega) (by omega)
        refine ae_iinc rfl rfl (am_ri (by omega) (by omega)) ?_
        show am_E _ (34, [vR o, vI (p + (-1))], [], aq_h m s F c_10) _
        refine am_E.go (t2 := (7, [vR o, vI (p + (-1))], [], aq_h m s F c_10)) rfl rfl ?_
        exact qc_nextDraft_l ⟨hm, hn1, hn4, hFo, hFl, hFg, hFt, hFp, hFq, hFd, hFs⟩ d (p + (-1)) c_10 sc_10 (by omega) (by omega) hhcc_10 (by omega)

theorem qc_nextDraft {m s : Nat} {F : aq_F} {c : aq_C} {o n : Nat} (hH : hc_0 m F o n) (hc : hc_I o n c) : am_E ac_X2_nextDraft (0, [vR o, vU], [], aq_h m s F c) (aq_Z m s F (fun a => o ≤ a ∧ a < o + 18) c (fun r d => r = none ∧ hc_I o n d)) := by
  obtain ⟨hm, hn1, hn4, hFo, hFl, hFg, hFt, hFp, hFq, hFd, hFs⟩ := hH
  refine am_E.go (t2 := (1, [vR o, vU], [vR o], aq_h m s F c)) rfl rfl ?_
  refine aq_gf (v := vI (n : Int)) rfl (by omega) hFo (by decide) rfl ?_
  show am_E _ (4, [vR o, vU], [vI (n : Int)], aq_h m s F c) _
  refine am_E.go (t2 := (5, [vR o, vU], [vI 1, vI (n : Int)], aq_h m s F c)) rfl rfl ?_
  refine ae_sub rfl (am_ri (by omega) (by omega)) ?_
  show am_E _ (6, [vR o, vU], [vI ((n : Int) - 1)], aq_h m s F c) _
  refine am_E.go (t2 := (7, [vR o, vI ((n : Int) - 1)], [], aq_h m s F c)) rfl rfl ?_
  exact qc_nextDraft_l ⟨hm, hn1, hn4, hFo, hFl, hFg, hFt, hFp, hFq, hFd, hFs⟩ 6 ((n : Int) - 1) c (aq_sm0 (c := c) (S := (fun a => o ≤ a ∧ a < o + 18))) (by omega) (by omega) hc (by omega)
