/-! Boxes: countUp. Printed by wip/p20/sx/gBC5.py. -/

/-- countUp on plain numbers -/
def cu_ (n : Int) : Nat → Int → (Int → Int) → Int → Int
  | 0, _, v => v
  | d + 1, k, v => if 0 ≤ k ∧ 2 * n - 2 * k - 2 ≤ v k then cu_ n d (k + -1) (fun i => if i = k then 0 else v i) else (if 0 ≤ k then (fun i => if i = k then v i + 1 else v i) else v)

theorem qb_countUp_l {m s : Nat} {F : aq_F} {c0 : aq_C} {o n K : Nat} (hB : bx_0 m F o n K) {ap : Nat} (hap : ap < m) (hFp : F ap = (0, n, fun _ => .inl 0)) {T : Int → Int} : ∀ (d : Nat) (v : Int → Int) (k : Int) (c : aq_C) (hs : aq_sm (fun a => a = ap) c0 c) (h0 : -1 ≤ k) (h1 : k < (n : Int)) (hv : ∀ i, 0 ≤ i → i < (n : Int) → c ap i = v i) (hb : ∀ i, 0 ≤ i → i < (n : Int) → 0 ≤ v i ∧ v i ≤ 100) (ht : ∀ i, 0 ≤ i → i < (n : Int) → cu_ (n : Int) d k v i = T i) (hd : k + 1 < (d : Int)), am_E ac_X0_countUp (7, [vR o, vR ap, vI k], [], aq_h m s F c) (aq_Z m s F (fun a => a = ap) c0 (fun r d => r = none ∧ ∀ i, 0 ≤ i → i < (n : Int) → d ap i = T i))
  | 0, v, k, c, hs, h0, h1, hv, hb, ht, hd => by exfalso; omega
  | d + 1, v, k, c, hs, h0, h1, hv, hb, ht, hd => by
    obtain ⟨hm, hn1, hn4, hK, hFo, hFd, hFs⟩ := hB
    refine am_E.go (t2 := (8, [vR o, vR ap, vI k], [vI k], aq_h m s F c)) rfl rfl ?_
    refine ae_if0 rfl (fun (q_1 : k < 0) => ?_) (fun (q_1 : 0 ≤ k) => ?_)
    · refine am_E.go (t2 := (38, [vR o, vR ap, vI k], [vI k], aq_h m s F c)) rfl rfl ?_
      refine ae_if0 rfl (fun (q_2 : k < 0) => ?_) (fun (q_2 : 0 ≤ k) => ?_)
      · refine am_E.ret rfl rfl ?_
        refine ⟨_, rfl, hs, rfl, fun i h5 h6 => ?_⟩
        rw [← ht i h5 h6, cu_, if_neg (by omega), if_neg (by omega)]
        exact hv i h5 h6
      · refine am_E.go (t2 := (42, [vR o, vR ap, vI k], [vR ap], aq_h m s F c)) rfl rfl ?_
        refine am_E.go (t2 := (43, [vR o, vR ap, vI k], [vI k, vR ap], aq_h m s F c)) rfl rfl ?_
        refine am_E.go (t2 := (44, [vR o, vR ap, vI k], [vI k, vR ap, vI k, vR ap], aq_h m s F c)) rfl rfl ?_
        refine aq_al (ok := fun k => k == 0) (v := vI (c ap k)) rfl rfl hap hFp rfl (by omega) (by omega) rfl ?_
        show am_E _ (45, [vR o, vR ap, vI k], [vI (c ap k), vI k, vR ap], aq_h m s F c) _
        have f_3 := hv k (by omega) (by omega)
        have f_3b := hb k (by omega) (by omega)
        refine am_E.go (t2 := (46, [vR o, vR ap, vI k], [vI 1, vI (c ap k), vI k, vR ap], aq_h m s F c)) rfl rfl ?_
        refine ae_add rfl (am_ri (by omega) (by omega)) ?_
        show am_E _ (47, [vR o, vR ap, vI k], [vI ((c ap k) + 1), vI k, vR ap], aq_h m s F c) _
        refine aq_as (kd := 0) rfl rfl hap hFp (by omega) (by omega) rfl rfl ?_
        show am_E _ (48, [vR o, vR ap, vI k], [], aq_h m s F (aq_u c ap k ((c ap k) + 1))) _
        generalize hdc_4 : aq_u c ap k ((c ap k) + 1) = c_4
        have sc_4 := aq_smu hs hdc_4 rfl
        refine am_E.ret rfl rfl ?_
        refine ⟨_, rfl, sc_4, rfl, fun i h5 h6 => ?_⟩
        rw [← ht i h5 h6, cu_, if_neg (by omega), if_pos (by omega), ← hdc_4]
        unfold aq_u
        by_cases e : i = k
        · rw [if_pos ⟨rfl, e⟩, if_pos e, e, hv k (by omega) (by omega)]
        · rw [if_neg (fun q => e q.2), if_neg e]
          exact hv i h5 h6
    · refine am_E.go (t2 := (12, [vR o, vR ap, vI k], [vR ap], aq_h m s F c)) rfl rfl ?_
      refine am_E.go (t2 := (13, [vR o, vR ap, vI k], [vI k, vR ap], aq_h m s F c)) rfl rfl ?_
      refine aq_al (ok := fun k => k == 0) (v := vI (c ap k)) rfl rfl hap hFp rfl (by omega) (by omega) rfl ?_
      show am_E _ (14, [vR o, vR ap, vI k], [vI (c ap k)], aq_h m s F c) _
      have f_5 := hv k (by omega) (by omega)
      have f_5b := hb k (by omega) (by omega)
      refine am_E.go (t2 := (15, [vR o, vR ap, vI k], [vR o, vI (c ap k)], aq_h m s F c)) rfl rfl ?_
      refine aq_gf (v := vI (2 * (n : Int))) rfl (by omega) hFo (by decide) rfl ?_
      show am_E _ (18, [vR o, vR ap, vI k], [vI (2 * (n : Int)), vI (c ap k)], aq_h m s F c) _
      refine am_E.go (t2 := (19, [vR o, vR ap, vI k], [vI 2, vI (2 * (n : Int)), vI (c ap k)], aq_h m s F c)) rfl rfl ?_
      refine am_E.go (t2 := (20, [vR o, vR ap, vI k], [vI k, vI 2, vI (2 * (n : Int)), vI (c ap k)], aq_h m s F c)) rfl rfl ?_
      refine ae_mul rfl (am_ri (by omega) (by omega)) ?_
      show am_E _ (21, [vR o, vR ap, vI k], [vI (2 * k), vI (2 * (n : Int)), vI (c ap k)], aq_h m s F c) _
      refine ae_sub rfl (am_ri (by omega) (by omega)) ?_
      show am_E _ (22, [vR o, vR ap, vI k], [vI ((2 * (n : Int)) - (2 * k)), vI (c ap k)], aq_h m s F c) _
      refine am_E.go (t2 := (23, [vR o, vR ap, vI k], [vI 2, vI ((2 * (n : Int)) - (2 * k)), vI (c ap k)], aq_h m s F c)) rfl rfl ?_
      refine ae_sub rfl (am_ri (by omega) (by omega)) ?_
      show am_E _ (24, [vR o, vR ap, vI k], [vI (((2 * (n : Int)) - (2 * k)) - 2), vI (c ap k)], aq_h m s F c) _
      refine ae_icmp rfl (fun (q_6 : (c ap k) < (((2 * (n : Int)) - (2 * k)) - 2)) => ?_) (fun (q_6 : (((2 * (n : Int)) - (2 * k)) - 2) ≤ (c ap k)) => ?_)
      · refine am_E.go (t2 := (38, [vR o, vR ap, vI k], [vI k], aq_h m s F c)) rfl rfl ?_
        refine ae_if0 rfl (fun (q_7 : k < 0) => ?_) (fun (q_7 : 0 ≤ k) => ?_)
        · refine am_E.ret rfl rfl ?_
          refine ⟨_, rfl, hs, rfl, fun i h5 h6 => ?_⟩
          rw [← ht i h5 h6, cu_, if_neg (by omega), if_neg (by omega)]
          exact hv i h5 h6
        · refine am_E.go (t2 := (42, [vR o, vR ap, vI k], [vR ap], aq_h m s F c)) rfl rfl ?_
          refine am_E.go (t2 := (43, [vR o, vR ap, vI k], [vI k, vR ap], aq_h m s F c)) rfl rfl ?_
          refine am_E.go (t2 := (44, [vR o, vR ap, vI k], [vI k, vR ap, vI k, vR ap], aq_h m s F c)) rfl rfl ?_
          refine aq_al (ok := fun k => k == 0) (v := vI (c ap k)) rfl rfl hap hFp rfl (by omega) (by omega) rfl ?_
          show am_E _ (45, [vR o, vR ap, vI k], [vI (c ap k), vI k, vR ap], aq_h m s F c) _
          have f_8 := hv k (by omega) (by omega)
          have f_8b := hb k (by omega) (by omega)
          refine am_E.go (t2 := (46, [vR o, vR ap, vI k], [vI 1, vI (c ap k), vI k, vR ap], aq_h m s F c)) rfl rfl ?_
          refine ae_add rfl (am_ri (by omega) (by omega)) ?_
          show am_E _ (47, [vR o, vR ap, vI k], [vI ((c ap k) + 1), vI k, vR ap], aq_h m s F c) _
          refine aq_as (kd := 0) rfl rfl hap hFp (by omega) (by omega) rfl rfl ?_
          show am_E _ (48, [vR o, vR ap, vI k], [], aq_h m s F (aq_u c ap k ((c ap k) + 1))) _
          generalize hdc_9 : aq_u c ap k ((c ap k) + 1) = c_9
          have sc_9 := aq_smu hs hdc_9 rfl
          refine am_E.ret rfl rfl ?_
          refine ⟨_, rfl, sc_9, rfl, fun i h5 h6 => ?_⟩
          rw [← ht i h5 h6, cu_, if_neg (by omega), if_pos (by omega), ← hdc_9]
          unfold aq_u
          by_cases e : i = k
          · rw [if_pos ⟨rfl, e⟩, if_pos e, e, hv k (by omega) (by omega)]
          · rw [if_neg (fun q => e q.2), if_neg e]
            exact hv i h5 h6
      · refine am_E.go (t2 := (28, [vR o, vR ap, vI k], [vR ap], aq_h m s F c)) rfl rfl ?_
        refine am_E.go (t2 := (29, [vR o, vR ap, vI k], [vI k, vR ap], aq_h m s F c)) rfl rfl ?_
        refine am_E.go (t2 := (30, [vR o, vR ap, vI k], [vI 0, vI k, vR ap], aq_h m s F c)) rfl rfl ?_
        refine aq_as (kd := 0) rfl rfl hap hFp (by omega) (by omega) rfl rfl ?_
        show am_E _ (31, [vR o, vR ap, vI k], [], aq_h m s F (aq_u c ap k 0)) _
        generalize hdc_10 : aq_u c ap k 0 = c_10
        have sc_10 := aq_smu hs hdc_10 rfl
        refine ae_iinc rfl rfl (am_ri (by omega) (by omega)) ?_
        show am_E _ (34, [vR o, vR ap, vI (k + (-1))], [], aq_h m s F c_10) _
        refine am_E.go (t2 := (7, [vR o, vR ap, vI (k + (-1))], [], aq_h m s F c_10)) rfl rfl ?_
        exact qb_countUp_l ⟨hm, hn1, hn4, hK, hFo, hFd, hFs⟩ hap hFp d (fun i => if i = k then 0 else v i) (k + (-1)) c_10 sc_10 (by omega) (by omega) (fun i h5 h6 => by rw [← hdc_10]; unfold aq_u; by_cases e : i = k; (rw [if_pos ⟨rfl, e⟩, if_pos e]); rw [if_neg (fun q => e q.2), if_neg e]; exact hv i h5 h6) (fun i h5 h6 => by by_cases e : i = k; (rw [if_pos e]; omega); rw [if_neg e]; exact hb i h5 h6) (fun i h5 h6 => by rw [← ht i h5 h6, cu_, if_pos (by omega)]) (by omega)

theorem qb_countUp {m s : Nat} {F : aq_F} {c : aq_C} {o n K : Nat} (hB : bx_0 m F o n K) {ap : Nat} (hap : ap < m) (hFp : F ap = (0, n, fun _ => .inl 0)) {v : Int → Int} (hv : ∀ i, 0 ≤ i → i < (n : Int) → c ap i = v i) (hb : ∀ i, 0 ≤ i → i < (n : Int) → 0 ≤ v i ∧ v i ≤ 100) : am_E ac_X0_countUp (0, [vR o, vR ap, vU], [], aq_h m s F c) (aq_Z m s F (fun a => a = ap) c (fun r d => r = none ∧ ∀ i, 0 ≤ i → i < (n : Int) → d ap i = cu_ (n : Int) 6 ((n : Int) - 1) v i)) := by
  obtain ⟨hm, hn1, hn4, hK, hFo, hFd, hFs⟩ := hB
  refine am_E.go (t2 := (1, [vR o, vR ap, vU], [vR o], aq_h m s F c)) rfl rfl ?_
  refine aq_gf (v := vI (n : Int)) rfl (by omega) hFo (by decide) rfl ?_
  show am_E _ (4, [vR o, vR ap, vU], [vI (n : Int)], aq_h m s F c) _
  refine am_E.go (t2 := (5, [vR o, vR ap, vU], [vI 1, vI (n : Int)], aq_h m s F c)) rfl rfl ?_
  refine ae_sub rfl (am_ri (by omega) (by omega)) ?_
  show am_E _ (6, [vR o, vR ap, vU], [vI ((n : Int) - 1)], aq_h m s F c) _
  refine am_E.go (t2 := (7, [vR o, vR ap, vI ((n : Int) - 1)], [], aq_h m s F c)) rfl rfl ?_
  exact qb_countUp_l ⟨hm, hn1, hn4, hK, hFo, hFd, hFs⟩ hap hFp 6 v ((n : Int) - 1) c (aq_sm0 (c := c) (S := (fun a => a = ap))) (by omega) (by omega) hv hb (fun _ _ _ => rfl) (by omega)
