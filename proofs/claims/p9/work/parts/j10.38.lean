
theorem aq_fl {a : Nat} {p v : Int} {c d : aq_C} {g : Int → Int} (h : ∀ i, 0 ≤ i → i < p → c a i = g i) (he : aq_u c a p v = d) (hv : v = g p) : ∀ i, 0 ≤ i → i < p + 1 → d a i = g i := by
  intro i h1 h2
  rw [← he]
  by_cases e : i = p
  · rw [e, aq_us, hv]
  · rw [aq_un (Or.inr e)]
    exact h i h1 (by omega)
/-- the point in the same place on the other side -/
def bx_ac (n : Nat) (i : Int) : Int := if i < (n : Int) then i + (n : Int) else i - (n : Int)
/-- a plain box's pairing -/
def bx_ol (n : Nat) (l i : Int) : Int := if l = 0 then bx_ac n i else if l < 11 then (if i = (n : Int) + l then (n : Int) + l - 1 else if i = (n : Int) + l - 1 then (n : Int) + l else if i = l then l - 1 else if i = l - 1 then l else bx_ac n i) else (if i = (n : Int) + (l - 11) then l - 11 + 1 else if i = l - 11 + 1 then (n : Int) + (l - 11) else if i = (n : Int) + (l - 11) + 1 then l - 11 else if i = l - 11 then (n : Int) + (l - 11) + 1 else bx_ac n i)

theorem qn_X0_pair {m s : Nat} {F : aq_F} {c : aq_C} {a N : Nat} {i j : Int} (ha : a < m) (hF : F a = (0, N, fun _ => .inl 0)) (hi0 : 0 ≤ i) (hi : i < (N : Int)) (hj0 : 0 ≤ j) (hj : j < (N : Int)) : am_E ac_X0_pair (0, [vR a, vI i, vI j], [], aq_h m s F c) (fun r h2 => r = none ∧ h2 = aq_h m s F (aq_u (aq_u c a i j) a j i)) := by
  refine am_E.go (t2 := (1, [vR a, vI i, vI j], [vR a], aq_h m s F c)) rfl rfl ?_
  refine am_E.go (t2 := (2, [vR a, vI i, vI j], [vI i, vR a], aq_h m s F c)) rfl rfl ?_
  refine am_E.go (t2 := (3, [vR a, vI i, vI j], [vI j, vI i, vR a], aq_h m s F c)) rfl rfl ?_
  refine aq_as (kd := 0) rfl rfl ha hF (by omega) (by omega) rfl rfl ?_
  show am_E _ (4, [vR a, vI i, vI j], [], aq_h m s F (aq_u c a i j)) _
  generalize hdc_1 : aq_u c a i j = c_1
  refine am_E.go (t2 := (5, [vR a, vI i, vI j], [vR a], aq_h m s F c_1)) rfl rfl ?_
  refine am_E.go (t2 := (6, [vR a, vI i, vI j], [vI j, vR a], aq_h m s F c_1)) rfl rfl ?_
  refine am_E.go (t2 := (7, [vR a, vI i, vI j], [vI i, vI j, vR a], aq_h m s F c_1)) rfl rfl ?_
  refine aq_as (kd := 0) rfl rfl ha hF (by omega) (by omega) rfl rfl ?_
  show am_E _ (8, [vR a, vI i, vI j], [], aq_h m s F (aq_u c_1 a j i)) _
  generalize hdc_2 : aq_u c_1 a j i = c_2
  refine am_E.ret rfl rfl ?_
  subst hdc_1 hdc_2
  exact ⟨rfl, rfl⟩

theorem qn_forgetSeen_l {m s : Nat} {F : aq_F} {c0 : aq_C} {o n K : Nat} (hB : bx_0 m F o n K) : ∀ (d : Nat) (p : Int) (c : aq_C) (hs : aq_sm (fun a => a = o + 7 + 3 * K) c0 c) (h0 : 0 ≤ p) (h1 : p ≤ 2 * (n : Int)) (hz : ∀ i, 0 ≤ i → i < p → c (o + 7 + 3 * K) i = (fun _ => 0) i) (hd : 2 * (n : Int) - p < (d : Int)), am_E ac_X0_forgetSeen (2, [vR o, vI p], [], aq_h m s F c) (aq_Z m s F (fun a => a = o + 7 + 3 * K) c0 (fun r d => r = none ∧ ∀ i, 0 ≤ i → i < 2 * (n : Int) → d (o + 7 + 3 * K) i = 0))
  | 0, p, c, hs, h0, h1, hz, hd => by exfalso; omega
  | d + 1, p, c, hs, h0, h1, hz, hd => by
    obtain ⟨hm, hn1, hn4, hK, hFo, hFd, hFs⟩ := hB
    refine am_E.go (t2 := (3, [vR o, vI p], [vI p], aq_h m s F c)) rfl rfl ?_
    refine am_E.go (t2 := (4, [vR o, vI p], [vR o, vI p], aq_h m s F c)) rfl rfl ?_
    refine aq_gf (v := vI (2 * (n : Int))) rfl (by omega) hFo (by decide) rfl ?_
    show am_E _ (7, [vR o, vI p], [vI (2 * (n : Int)), vI p], aq_h m s F c) _
    refine ae_icmp rfl (fun (q_1 : (2 * (n : Int)) ≤ p) => ?_) (fun (q_1 : p < (2 * (n : Int))) => ?_)
    · refine am_E.ret rfl rfl ?_
      exact ⟨_, rfl, hs, rfl, fun i h1 h2 => hz i h1 (by omega)⟩
    · refine am_E.go (t2 := (11, [vR o, vI p], [vR o], aq_h m s F c)) rfl rfl ?_
      refine aq_gf (v := vR (o + 7 + 3 * K)) rfl (by omega) hFo (by decide) rfl ?_
      show am_E _ (14, [vR o, vI p], [vR (o + 7 + 3 * K)], aq_h m s F c) _
      refine am_E.go (t2 := (15, [vR o, vI p], [vI p, vR (o + 7 + 3 * K)], aq_h m s F c)) rfl rfl ?_
      refine am_E.go (t2 := (16, [vR o, vI p], [vI 0, vI p, vR (o + 7 + 3 * K)], aq_h m s F c)) rfl rfl ?_
      refine aq_as (kd := 1) rfl rfl (by omega) hFs (by omega) (by omega) rfl rfl ?_
      show am_E _ (17, [vR o, vI p], [], aq_h m s F (aq_u c (o + 7 + 3 * K) p 0)) _
      generalize hdc_2 : aq_u c (o + 7 + 3 * K) p 0 = c_2
      have sc_2 := aq_smu hs hdc_2 rfl
      refine ae_iinc rfl rfl (am_ri (by omega) (by omega)) ?_
      show am_E _ (20, [vR o, vI (p + 1)], [], aq_h m s F c_2) _
      refine am_E.go (t2 := (2, [vR o, vI (p + 1)], [], aq_h m s F c_2)) rfl rfl ?_
      exact qn_forgetSeen_l ⟨hm, hn1, hn4, hK, hFo, hFd, hFs⟩ d (p + 1) c_2 sc_2 (by omega) (by omega) (aq_fl hz hdc_2 rfl) (by omega)

theorem qn_X0_forgetSeen {m s : Nat} {F : aq_F} {c : aq_C} {o n K : Nat} (hB : bx_0 m F o n K) : am_E ac_X0_forgetSeen (0, [vR o, vU], [], aq_h m s F c) (aq_Z m s F (fun a => a = o + 7 + 3 * K) c (fun r d => r = none ∧ ∀ i, 0 ≤ i → i < 2 * (n : Int) → d (o + 7 + 3 * K) i = 0)) := by
  obtain ⟨hm, hn1, hn4, hK, hFo, hFd, hFs⟩ := hB
  refine am_E.go (t2 := (1, [vR o, vU], [vI 0], aq_h m s F c)) rfl rfl ?_
  refine am_E.go (t2 := (2, [vR o, vI 0], [], aq_h m s F c)) rfl rfl ?_
  exact qn_forgetSeen_l ⟨hm, hn1, hn4, hK, hFo, hFd, hFs⟩ 9 0 c aq_sm0 (by omega) (by omega) (fun i h1 h2 => absurd h2 (by omega)) (by omega)

theorem qn_X0_isLetter {m s : Nat} {F : aq_F} {c : aq_C} {o n K : Nat} (hB : bx_0 m F o n K) {l : Int} : am_E ac_X0_isLetter (0, [vR o, vI l], [], aq_h m s F c) (aq_P m s F c (fun r => ∃ v, r = some (vI v) ∧ ((v = 1 ∧ ((1 ≤ l ∧ l < (n : Int)) ∨ (11 ≤ l ∧ l < 10 + (n : Int)))) ∨ (v = 0 ∧ ¬ ((1 ≤ l ∧ l < (n : Int)) ∨ (11 ≤ l ∧ l < 10 + (n : Int))))))) := by
  obtain ⟨hm, hn1, hn4, hK, hFo, hFd, hFs⟩ := hB
  refine am_E.go (t2 := (1, [vR o, vI l], [vI l], aq_h m s F c)) rfl rfl ?_
  refine am_E.go (t2 := (2, [vR o, vI l], [vI 1, vI l], aq_h m s F c)) rfl rfl ?_
  refine ae_icmp rfl (fun (q_1 : l < 1) => ?_) (fun (q_1 : 1 ≤ l) => ?_)
  · refine am_E.go (t2 := (14, [vR o, vI l], [vI l], aq_h m s F c)) rfl rfl ?_
    refine am_E.go (t2 := (16, [vR o, vI l], [vI 11, vI l], aq_h m s F c)) rfl rfl ?_
    refine ae_icmp rfl (fun (q_2 : l < 11) => ?_) (fun (q_2 : 11 ≤ l) => ?_)
    · refine am_E.go (t2 := (37, [vR o, vI l], [vI 0], aq_h m s F c)) rfl rfl ?_
      refine am_E.ret rfl rfl ?_
      exact ⟨rfl, _, rfl, by omega⟩
    · refine am_E.go (t2 := (20, [vR o, vI l], [vI l], aq_h m s F c)) rfl rfl ?_
      refine am_E.go (t2 := (22, [vR o, vI l], [vI 11, vI l], aq_h m s F c)) rfl rfl ?_
      refine am_E.go (t2 := (23, [vR o, vI l], [vR o, vI 11, vI l], aq_h m s F c)) rfl rfl ?_
      refine aq_gf (v := vI (n : Int)) rfl (by omega) hFo (by decide) rfl ?_
      show am_E _ (26, [vR o, vI l], [vI (n : Int), vI 11, vI l], aq_h m s F c) _
      refine ae_add rfl (am_ri (by omega) (by omega)) ?_
      show am_E _ (27, [vR o, vI l], [vI (11 + (n : Int)), vI l], aq_h m s F c) _
      refine am_E.go (t2 := (28, [vR o, vI l], [vI 1, vI (11 + (n : Int)), vI l], aq_h m s F c)) rfl rfl ?_
      refine ae_sub rfl (am_ri (by omega) (by omega)) ?_
      show am_E _ (29, [vR o, vI l], [vI ((11 + (n : Int)) - 1), vI l], aq_h m s F c) _
      refine ae_icmp rfl (fun (q_3 : ((11 + (n : Int)) - 1) ≤ l) => ?_) (fun (q_3 : l < ((11 + (n : Int)) - 1)) => ?_)
      · refine am_E.go (t2 := (37, [vR o, vI l], [vI 0], aq_h m s F c)) rfl rfl ?_
        refine am_E.ret rfl rfl ?_
        exact ⟨rfl, _, rfl, by omega⟩
      · refine am_E.go (t2 := (33, [vR o, vI l], [vI 1], aq_h m s F c)) rfl rfl ?_
        refine am_E.go (t2 := (37, [vR o, vI l], [vI 1], aq_h m s F c)) rfl rfl ?_
        refine am_E.ret rfl rfl ?_
        exact ⟨rfl, _, rfl, by omega⟩
  · refine am_E.go (t2 := (6, [vR o, vI l], [vI l], aq_h m s F c)) rfl rfl ?_
    refine am_E.go (t2 := (7, [vR o, vI l], [vR o, vI l], aq_h m s F c)) rfl rfl ?_
    refine aq_gf (v := vI (n : Int)) rfl (by omega) hFo (by decide) rfl ?_
    show am_E _ (10, [vR o, vI l], [vI (n : Int), vI l], aq_h m s F c) _
    refine ae_icmp rfl (fun (q_4 : l < (n : Int)) => ?_) (fun (q_4 : (n : Int) ≤ l) => ?_)
    · refine am_E.go (t2 := (33, [vR o, vI l], [vI 1], aq_h m s F c)) rfl rfl ?_
      refine am_E.go (t2 := (37, [vR o, vI l], [vI 1], aq_h m s F c)) rfl rfl ?_
      refine am_E.ret rfl rfl ?_
      exact ⟨rfl, _, rfl, by omega⟩
    · refine am_E.go (t2 := (14, [vR o, vI l], [vI l], aq_h m s F c)) rfl rfl ?_
      refine am_E.go (t2 := (16, [vR o, vI l], [vI 11, vI l], aq_h m s F c)) rfl rfl ?_
      refine ae_icmp rfl (fun (q_5 : l < 11) => ?_) (fun (q_5 : 11 ≤ l) => ?_)
      · refine am_E.go (t2 := (37, [vR o, vI l], [vI 0], aq_h m s F c)) rfl rfl ?_
        refine am_E.ret rfl rfl ?_
        exact ⟨rfl, _, rfl, by omega⟩
      · refine am_E.go (t2 := (20, [vR o, vI l], [vI l], aq_h m s F c)) rfl rfl ?_
        refine am_E.go (t2 := (22, [vR o, vI l], [vI 11, vI l], aq_h m s F c)) rfl rfl ?_
        refine am_E.go (t2 := (23, [vR o, vI l], [vR o, vI 11, vI l], aq_h m s F c)) rfl rfl ?_
        refine aq_gf (v := vI (n : Int)) rfl (by omega) hFo (by decide) rfl ?_
        show am_E _ (26, [vR o, vI l], [vI (n : Int), vI 11, vI l], aq_h m s F c) _
        refine ae_add rfl (am_ri (by omega) (by omega)) ?_
        show am_E _ (27, [vR o, vI l], [vI (11 + (n : Int)), vI l], aq_h m s F c) _
        refine am_E.go (t2 := (28, [vR o, vI l], [vI 1, vI (11 + (n : Int)), vI l], aq_h m s F c)) rfl rfl ?_
        refine ae_sub rfl (am_ri (by omega) (by omega)) ?_
        show am_E _ (29, [vR o, vI l], [vI ((11 + (n : Int)) - 1), vI l], aq_h m s F c) _
        refine ae_icmp rfl (fun (q_6 : ((11 + (n : Int)) - 1) ≤ l) => ?_) (fun (q_6 : l < ((11 + (n : Int)) - 1)) => ?_)
        · refine am_E.go (t2 := (37, [vR o, vI l], [vI 0], aq_h m s F c)) rfl rfl ?_
          refine am_E.ret rfl rfl ?_
          exact ⟨rfl, _, rfl, by omega⟩
        · refine am_E.go (t2 := (33, [vR o, vI l], [vI 1], aq_h m s F c)) rfl rfl ?_
          refine am_E.go (t2 := (37, [vR o, vI l], [vI 1], aq_h m s F c)) rfl rfl ?_
          refine am_E.ret rfl rfl ?_
          exact ⟨rfl, _, rfl, by omega⟩

theorem qn_ofLetter_l {m s : Nat} {F : aq_F} {c0 : aq_C} {S : Nat → Prop} {o n K : Nat} (hB : bx_0 m F o n K) (hSd : S (o + 6 + 3 * K)) (hSs : S (o + 7 + 3 * K)) {l : Int} : ∀ (d : Nat) (p : Int) (c : aq_C) (hs : aq_sm S c0 c) (h0 : 0 ≤ p) (h1 : p ≤ 2 * (n : Int)) (hl : l = 0 ∨ ((1 ≤ l ∧ l < (n : Int)) ∨ (11 ≤ l ∧ l < 10 + (n : Int)))) (hr : aq_rg (o + 6 + 3 * K) (2 * (n : Int)) 0 (2 * (n : Int)) c) (hz : ∀ i, 0 ≤ i → i < p → c (o + 6 + 3 * K) i = bx_ac n i) (hd : 2 * (n : Int) - p < (d : Int)), am_E ac_X0_ofLetter (16, [vR o, vI l, vI p], [], aq_h m s F c) (aq_Z m s F S c0 (fun r d => aq_rg (o + 6 + 3 * K) (2 * (n : Int)) 0 (2 * (n : Int)) d ∧ ((¬ (l = 0 ∨ ((1 ≤ l ∧ l < (n : Int)) ∨ (11 ≤ l ∧ l < 10 + (n : Int)))) ∧ r = some (vI (-1))) ∨ ((l = 0 ∨ ((1 ≤ l ∧ l < (n : Int)) ∨ (11 ≤ l ∧ l < 10 + (n : Int)))) ∧ (∀ i, 0 ≤ i → i < 2 * (n : Int) → d (o + 6 + 3 * K) i = bx_ol n l i) ∧ r = some (vI (nu_o (d (o + 6 + 3 * K)) (2 * (n : Int)) 9 0 0 (2 * (n : Int) - 1)))))))
  | 0, p, c, hs, h0, h1, hl, hr, hz, hd => by exfalso; omega
  | d + 1, p, c, hs, h0, h1, hl, hr, hz, hd => by
    obtain ⟨hm, hn1, hn4, hK, hFo, hFd, hFs⟩ := hB
    refine am_E.go (t2 := (17, [vR o, vI l, vI p], [vI p], aq_h m s F c)) rfl rfl ?_
    refine am_E.go (t2 := (18, [vR o, vI l, vI p], [vR o, vI p], aq_h m s F c)) rfl rfl ?_
    refine aq_gf (v := vI (2 * (n : Int))) rfl (by omega) hFo (by decide) rfl ?_
    show am_E _ (21, [vR o, vI l, vI p], [vI (2 * (n : Int)), vI p], aq_h m s F c) _
    refine ae_icmp rfl (fun (q_1 : (2 * (n : Int)) ≤ p) => ?_) (fun (q_1 : p < (2 * (n : Int))) => ?_)
    · refine am_E.go (t2 := (42, [vR o, vI l, vI p], [vI l], aq_h m s F c)) rfl rfl ?_
      refine am_E.go (t2 := (44, [vR o, vI l, vI p], [vI 11, vI l], aq_h m s F c)) rfl rfl ?_
      refine ae_icmp rfl (fun (q_2 : l < 11) => ?_) (fun (q_2 : 11 ≤ l) => ?_)
      · refine am_E.go (t2 := (88, [vR o, vI l, vI p], [vI l], aq_h m s F c)) rfl rfl ?_
        refine ae_if0 rfl (fun (q_3 : l ≤ 0) => ?_) (fun (q_3 : 0 < l) => ?_)
        · refine am_E.go (t2 := (124, [vR o, vI l, vI p], [vR o], aq_h m s F c)) rfl rfl ?_
          refine am_E.go (t2 := (125, [vR o, vI l, vI p], [vR o, vR o], aq_h m s F c)) rfl rfl ?_
          refine aq_gf (v := vR (o + 6 + 3 * K)) rfl (by omega) hFo (by decide) rfl ?_
          show am_E _ (128, [vR o, vI l, vI p], [vR (o + 6 + 3 * K), vR o], aq_h m s F c) _
          refine aq_callv (y := 2) (as2 := [vR (o + 6 + 3 * K)]) (rest := []) rfl rfl (by decide) (Nat.le_of_ble_eq_true rfl) rfl rfl (Nat.le_of_ble_eq_true rfl) (by omega) hFo rfl (Nat.le_of_ble_eq_true rfl) (qn_X0_numberOf ⟨hm, hn1, hn4, hK, hFo, hFd, hFs⟩ hr) ?_
          rintro r5 h5 ⟨rfl, rfl⟩
          show am_E _ (131, [vR o, vI l, vI p], [vI (nu_o (c (o + 6 + 3 * K)) (2 * (n : Int)) 9 0 0 (2 * (n : Int) - 1))], aq_h m s F c) _
          refine am_E.ret rfl rfl ?_
          refine ⟨_, rfl, hs, hr, Or.inr ⟨by omega, fun i h5 h6 => ?_, rfl⟩⟩
          have e5 := hz i h5 (by omega)
          simp only [aq_u, bx_ol, true_and]
          (repeat' split) <;> omega
        · refine am_E.go (t2 := (92, [vR o, vI l, vI p], [vR o], aq_h m s F c)) rfl rfl ?_
          refine aq_gf (v := vR (o + 6 + 3 * K)) rfl (by omega) hFo (by decide) rfl ?_
          show am_E _ (95, [vR o, vI l, vI p], [vR (o + 6 + 3 * K)], aq_h m s F c) _
          refine am_E.go (t2 := (96, [vR o, vI l, vI p], [vI l, vR (o + 6 + 3 * K)], aq_h m s F c)) rfl rfl ?_
          refine am_E.go (t2 := (97, [vR o, vI l, vI p], [vI 1, vI l, vR (o + 6 + 3 * K)], aq_h m s F c)) rfl rfl ?_
          refine ae_sub rfl (am_ri (by omega) (by omega)) ?_
          show am_E _ (98, [vR o, vI l, vI p], [vI (l - 1), vR (o + 6 + 3 * K)], aq_h m s F c) _
          refine am_E.go (t2 := (99, [vR o, vI l, vI p], [vI l, vI (l - 1), vR (o + 6 + 3 * K)], aq_h m s F c)) rfl rfl ?_
          refine am_E.call rfl rfl rfl (Nat.le_of_ble_eq_true rfl) (qn_X0_pair (by omega) hFd (by omega) (by omega) (by omega) (by omega)) ?_
          rintro r5 h5 ⟨rfl, rfl⟩
          show am_E _ (102, [vR o, vI l, vI p], [], aq_h m s F (aq_u (aq_u c (o + 6 + 3 * K) (l - 1) l) (o + 6 + 3 * K) l (l - 1))) _
          generalize hdc_4 : aq_u c (o + 6 + 3 * K) (l - 1) l = c_4
          have sc_4 := aq_smu hs hdc_4 hSd
          have hdrc_4 := aq_rgu hr hdc_4 (by omega) (by omega)
          generalize hdc_5 : aq_u c_4 (o + 6 + 3 * K) l (l - 1) = c_5
          have sc_5 := aq_smu sc_4 hdc_5 hSd
          have hdrc_5 := aq_rgu hdrc_4 hdc_5 (by omega) (by omega)
          refine am_E.go (t2 := (103, [vR o, vI l, vI p], [vR o], aq_h m s F c_5)) rfl rfl ?_
          refine aq_gf (v := vR (o + 6 + 3 * K)) rfl (by omega) hFo (by decide) rfl ?_
          show am_E _ (106, [vR o, vI l, vI p], [vR (o + 6 + 3 * K)], aq_h m s F c_5) _
          refine am_E.go (t2 := (107, [vR o, vI l, vI p], [vR o, vR (o + 6 + 3 * K)], aq_h m s F c_5)) rfl rfl ?_
          refine aq_gf (v := vI (n : Int)) rfl (by omega) hFo (by decide) rfl ?_
          show am_E _ (110, [vR o, vI l, vI p], [vI (n : Int), vR (o + 6 + 3 * K)], aq_h m s F c_5) _
          refine am_E.go (t2 := (111, [vR o, vI l, vI p], [vI l, vI (n : Int), vR (o + 6 + 3 * K)], aq_h m s F c_5)) rfl rfl ?_
          refine ae_add rfl (am_ri (by omega) (by omega)) ?_
          show am_E _ (112, [vR o, vI l, vI p], [vI ((n : Int) + l), vR (o + 6 + 3 * K)], aq_h m s F c_5) _
          refine am_E.go (t2 := (113, [vR o, vI l, vI p], [vI 1, vI ((n : Int) + l), vR (o + 6 + 3 * K)], aq_h m s F c_5)) rfl rfl ?_
          refine ae_sub rfl (am_ri (by omega) (by omega)) ?_
          show am_E _ (114, [vR o, vI l, vI p], [vI (((n : Int) + l) - 1), vR (o + 6 + 3 * K)], aq_h m s F c_5) _
          refine am_E.go (t2 := (115, [vR o, vI l, vI p], [vR o, vI (((n : Int) + l) - 1), vR (o + 6 + 3 * K)], aq_h m s F c_5)) rfl rfl ?_
          refine aq_gf (v := vI (n : Int)) rfl (by omega) hFo (by decide) rfl ?_
          show am_E _ (118, [vR o, vI l, vI p], [vI (n : Int), vI (((n : Int) + l) - 1), vR (o + 6 + 3 * K)], aq_h m s F c_5) _
          refine am_E.go (t2 := (119, [vR o, vI l, vI p], [vI l, vI (n : Int), vI (((n : Int) + l) - 1), vR (o + 6 + 3 * K)], aq_h m s F c_5)) rfl rfl ?_
          refine ae_add rfl (am_ri (by omega) (by omega)) ?_
          show am_E _ (120, [vR o, vI l, vI p], [vI ((n : Int) + l), vI (((n : Int) + l) - 1), vR (o + 6 + 3 * K)], aq_h m s F c_5) _
          refine am_E.call rfl rfl rfl (Nat.le_of_ble_eq_true rfl) (qn_X0_pair (by omega) hFd (by omega) (by omega) (by omega) (by omega)) ?_
          rintro r5 h5 ⟨rfl, rfl⟩
          show am_E _ (123, [vR o, vI l, vI p], [], aq_h m s F (aq_u (aq_u c_5 (o + 6 + 3 * K) (((n : Int) + l) - 1) ((n : Int) + l)) (o + 6 + 3 * K) ((n : Int) + l) (((n : Int) + l) - 1))) _
          generalize hdc_6 : aq_u c_5 (o + 6 + 3 * K) (((n : Int) + l) - 1) ((n : Int) + l) = c_6
          have sc_6 := aq_smu sc_5 hdc_6 hSd
          have hdrc_6 := aq_rgu hdrc_5 hdc_6 (by omega) (by omega)
          generalize hdc_7 : aq_u c_6 (o + 6 + 3 * K) ((n : Int) + l) (((n : Int) + l) - 1) = c_7
          have sc_7 := aq_smu sc_6 hdc_7 hSd
          have hdrc_7 := aq_rgu hdrc_6 hdc_7 (by omega) (by omega)
          refine am_E.go (t2 := (124, [vR o, vI l, vI p], [vR o], aq_h m s F c_7)) rfl rfl ?_
          refine am_E.go (t2 := (125, [vR o, vI l, vI p], [vR o, vR o], aq_h m s F c_7)) rfl rfl ?_
          refine aq_gf (v := vR (o + 6 + 3 * K)) rfl (by omega) hFo (by decide) rfl ?_
          show am_E _ (128, [vR o, vI l, vI p], [vR (o + 6 + 3 * K), vR o], aq_h m s F c_7) _
          refine aq_callv (y := 2) (as2 := [vR (o + 6 + 3 * K)]) (rest := []) rfl rfl (by decide) (Nat.le_of_ble_eq_true rfl) rfl rfl (Nat.le_of_ble_eq_true rfl) (by omega) hFo rfl (Nat.le_of_ble_eq_true rfl) (qn_X0_numberOf ⟨hm, hn1, hn4, hK, hFo, hFd, hFs⟩ hdrc_7) ?_
          rintro r5 h5 ⟨rfl, rfl⟩
          show am_E _ (131, [vR o, vI l, vI p], [vI (nu_o (c_7 (o + 6 + 3 * K)) (2 * (n : Int)) 9 0 0 (2 * (n : Int) - 1))], aq_h m s F c_7) _
          refine am_E.ret rfl rfl ?_
          refine ⟨_, rfl, sc_7, hdrc_7, Or.inr ⟨by omega, fun i h5 h6 => ?_, rfl⟩⟩
          have e5 := hz i h5 (by omega)
          rw [← hdc_7, ← hdc_6, ← hdc_5, ← hdc_4]
          simp only [aq_u, bx_ol, true_and]
          (repeat' split) <;> omega
      · refine am_E.go (t2 := (48, [vR o, vI l, vI p], [vI l], aq_h m s F c)) rfl rfl ?_
        refine am_E.go (t2 := (50, [vR o, vI l, vI p], [vI 11, vI l], aq_h m s F c)) rfl rfl ?_
        refine ae_sub rfl (am_ri (by omega) (by omega)) ?_
        show am_E _ (51, [vR o, vI l, vI p], [vI (l - 11)], aq_h m s F c) _
        refine am_E.go (t2 := (52, [vR o, vI l, vI (l - 11)], [], aq_h m s F c)) rfl rfl ?_
        refine am_E.go (t2 := (53, [vR o, vI l, vI (l - 11)], [vR o], aq_h m s F c)) rfl rfl ?_
        refine aq_gf (v := vR (o + 6 + 3 * K)) rfl (by omega) hFo (by decide) rfl ?_
        show am_E _ (56, [vR o, vI l, vI (l - 11)], [vR (o + 6 + 3 * K)], aq_h m s F c) _
        refine am_E.go (t2 := (57, [vR o, vI l, vI (l - 11)], [vI (l - 11), vR (o + 6 + 3 * K)], aq_h m s F c)) rfl rfl ?_
        refine am_E.go (t2 := (58, [vR o, vI l, vI (l - 11)], [vR o, vI (l - 11), vR (o + 6 + 3 * K)], aq_h m s F c)) rfl rfl ?_
        refine aq_gf (v := vI (n : Int)) rfl (by omega) hFo (by decide) rfl ?_
        show am_E _ (61, [vR o, vI l, vI (l - 11)], [vI (n : Int), vI (l - 11), vR (o + 6 + 3 * K)], aq_h m s F c) _
        refine am_E.go (t2 := (62, [vR o, vI l, vI (l - 11)], [vI (l - 11), vI (n : Int), vI (l - 11), vR (o + 6 + 3 * K)], aq_h m s F c)) rfl rfl ?_
        refine ae_add rfl (am_ri (by omega) (by omega)) ?_
        show am_E _ (63, [vR o, vI l, vI (l - 11)], [vI ((n : Int) + (l - 11)), vI (l - 11), vR (o + 6 + 3 * K)], aq_h m s F c) _
        refine am_E.go (t2 := (64, [vR o, vI l, vI (l - 11)], [vI 1, vI ((n : Int) + (l - 11)), vI (l - 11), vR (o + 6 + 3 * K)], aq_h m s F c)) rfl rfl ?_
        refine ae_add rfl (am_ri (by omega) (by omega)) ?_
        show am_E _ (65, [vR o, vI l, vI (l - 11)], [vI (((n : Int) + (l - 11)) + 1), vI (l - 11), vR (o + 6 + 3 * K)], aq_h m s F c) _
        refine am_E.call rfl rfl rfl (Nat.le_of_ble_eq_true rfl) (qn_X0_pair (by omega) hFd (by omega) (by omega) (by omega) (by omega)) ?_
        rintro r5 h5 ⟨rfl, rfl⟩
        show am_E _ (68, [vR o, vI l, vI (l - 11)], [], aq_h m s F (aq_u (aq_u c (o + 6 + 3 * K) (l - 11) (((n : Int) + (l - 11)) + 1)) (o + 6 + 3 * K) (((n : Int) + (l - 11)) + 1) (l - 11))) _
        generalize hdc_8 : aq_u c (o + 6 + 3 * K) (l - 11) (((n : Int) + (l - 11)) + 1) = c_8
        have sc_8 := aq_smu hs hdc_8 hSd
        have hdrc_8 := aq_rgu hr hdc_8 (by omega) (by omega)
        generalize hdc_9 : aq_u c_8 (o + 6 + 3 * K) (((n : Int) + (l - 11)) + 1) (l - 11) = c_9
        have sc_9 := aq_smu sc_8 hdc_9 hSd
        have hdrc_9 := aq_rgu hdrc_8 hdc_9 (by omega) (by omega)
        refine am_E.go (t2 := (69, [vR o, vI l, vI (l - 11)], [vR o], aq_h m s F c_9)) rfl rfl ?_
        refine aq_gf (v := vR (o + 6 + 3 * K)) rfl (by omega) hFo (by decide) rfl ?_
        show am_E _ (72, [vR o, vI l, vI (l - 11)], [vR (o + 6 + 3 * K)], aq_h m s F c_9) _
        refine am_E.go (t2 := (73, [vR o, vI l, vI (l - 11)], [vI (l - 11), vR (o + 6 + 3 * K)], aq_h m s F c_9)) rfl rfl ?_
        refine am_E.go (t2 := (74, [vR o, vI l, vI (l - 11)], [vI 1, vI (l - 11), vR (o + 6 + 3 * K)], aq_h m s F c_9)) rfl rfl ?_
        refine ae_add rfl (am_ri (by omega) (by omega)) ?_
        show am_E _ (75, [vR o, vI l, vI (l - 11)], [vI ((l - 11) + 1), vR (o + 6 + 3 * K)], aq_h m s F c_9) _
        refine am_E.go (t2 := (76, [vR o, vI l, vI (l - 11)], [vR o, vI ((l - 11) + 1), vR (o + 6 + 3 * K)], aq_h m s F c_9)) rfl rfl ?_
        refine aq_gf (v := vI (n : Int)) rfl (by omega) hFo (by decide) rfl ?_
        show am_E _ (79, [vR o, vI l, vI (l - 11)], [vI (n : Int), vI ((l - 11) + 1), vR (o + 6 + 3 * K)], aq_h m s F c_9) _
        refine am_E.go (t2 := (80, [vR o, vI l, vI (l - 11)], [vI (l - 11), vI (n : Int), vI ((l - 11) + 1), vR (o + 6 + 3 * K)], aq_h m s F c_9)) rfl rfl ?_
        refine ae_add rfl (am_ri (by omega) (by omega)) ?_
        show am_E _ (81, [vR o, vI l, vI (l - 11)], [vI ((n : Int) + (l - 11)), vI ((l - 11) + 1), vR (o + 6 + 3 * K)], aq_h m s F c_9) _
        refine am_E.call rfl rfl rfl (Nat.le_of_ble_eq_true rfl) (qn_X0_pair (by omega) hFd (by omega) (by omega) (by omega) (by omega)) ?_
        rintro r5 h5 ⟨rfl, rfl⟩
        show am_E _ (84, [vR o, vI l, vI (l - 11)], [], aq_h m s F (aq_u (aq_u c_9 (o + 6 + 3 * K) ((l - 11) + 1) ((n : Int) + (l - 11))) (o + 6 + 3 * K) ((n : Int) + (l - 11)) ((l - 11) + 1))) _
        generalize hdc_10 : aq_u c_9 (o + 6 + 3 * K) ((l - 11) + 1) ((n : Int) + (l - 11)) = c_10
        have sc_10 := aq_smu sc_9 hdc_10 hSd
        have hdrc_10 := aq_rgu hdrc_9 hdc_10 (by omega) (by omega)
        generalize hdc_11 : aq_u c_10 (o + 6 + 3 * K) ((n : Int) + (l - 11)) ((l - 11) + 1) = c_11
        have sc_11 := aq_smu sc_10 hdc_11 hSd
        have hdrc_11 := aq_rgu hdrc_10 hdc_11 (by omega) (by omega)
        refine am_E.go (t2 := (123, [vR o, vI l, vI (l - 11)], [], aq_h m s F c_11)) rfl rfl ?_
        refine am_E.go (t2 := (124, [vR o, vI l, vI (l - 11)], [vR o], aq_h m s F c_11)) rfl rfl ?_
        refine am_E.go (t2 := (125, [vR o, vI l, vI (l - 11)], [vR o, vR o], aq_h m s F c_11)) rfl rfl ?_
        refine aq_gf (v := vR (o + 6 + 3 * K)) rfl (by omega) hFo (by decide) rfl ?_
        show am_E _ (128, [vR o, vI l, vI (l - 11)], [vR (o + 6 + 3 * K), vR o], aq_h m s F c_11) _
        refine aq_callv (y := 2) (as2 := [vR (o + 6 + 3 * K)]) (rest := []) rfl rfl (by decide) (Nat.le_of_ble_eq_true rfl) rfl rfl (Nat.le_of_ble_eq_true rfl) (by omega) hFo rfl (Nat.le_of_ble_eq_true rfl) (qn_X0_numberOf ⟨hm, hn1, hn4, hK, hFo, hFd, hFs⟩ hdrc_11) ?_
        rintro r5 h5 ⟨rfl, rfl⟩
        show am_E _ (131, [vR o, vI l, vI (l - 11)], [vI (nu_o (c_11 (o + 6 + 3 * K)) (2 * (n : Int)) 9 0 0 (2 * (n : Int) - 1))], aq_h m s F c_11) _
        refine am_E.ret rfl rfl ?_
        refine ⟨_, rfl, sc_11, hdrc_11, Or.inr ⟨by omega, fun i h5 h6 => ?_, rfl⟩⟩
        have e5 := hz i h5 (by omega)
        rw [← hdc_11, ← hdc_10, ← hdc_9, ← hdc_8]
        simp only [aq_u, bx_ol, true_and]
        (repeat' split) <;> omega
    · refine am_E.go (t2 := (25, [vR o, vI l, vI p], [vR o], aq_h m s F c)) rfl rfl ?_
      refine aq_gf (v := vR (o + 6 + 3 * K)) rfl (by omega) hFo (by decide) rfl ?_
      show am_E _ (28, [vR o, vI l, vI p], [vR (o + 6 + 3 * K)], aq_h m s F c) _
      refine am_E.go (t2 := (29, [vR o, vI l, vI p], [vI p, vR (o + 6 + 3 * K)], aq_h m s F c)) rfl rfl ?_
      refine am_E.go (t2 := (30, [vR o, vI l, vI p], [vR o, vI p, vR (o + 6 + 3 * K)], aq_h m s F c)) rfl rfl ?_
      refine am_E.go (t2 := (31, [vR o, vI l, vI p], [vI p, vR o, vI p, vR (o + 6 + 3 * K)], aq_h m s F c)) rfl rfl ?_
      refine aq_callv (y := 2) (as2 := [vI p]) (rest := [vI p, vR (o + 6 + 3 * K)]) rfl rfl (by decide) (Nat.le_of_ble_eq_true rfl) rfl rfl (Nat.le_of_ble_eq_true rfl) (by omega) hFo rfl (Nat.le_of_ble_eq_true rfl) (qn_X0_across ⟨hm, hn1, hn4, hK, hFo, hFd, hFs⟩ (by omega) (by omega)) ?_
      rintro r5 h5 ⟨rfl, v_12, rfl, hv_12⟩
      show am_E _ (34, [vR o, vI l, vI p], [vI v_12, vI p, vR (o + 6 + 3 * K)], aq_h m s F c) _
      refine aq_as (kd := 0) rfl rfl (by omega) hFd (by omega) (by omega) rfl rfl ?_
      show am_E _ (35, [vR o, vI l, vI p], [], aq_h m s F (aq_u c (o + 6 + 3 * K) p v_12)) _
      generalize hdc_13 : aq_u c (o + 6 + 3 * K) p v_12 = c_13
      have sc_13 := aq_smu hs hdc_13 hSd
      have hdrc_13 := aq_rgu hr hdc_13 (by omega) (by omega)
      refine ae_iinc rfl rfl (am_ri (by omega) (by omega)) ?_
      show am_E _ (38, [vR o, vI l, vI (p + 1)], [], aq_h m s F c_13) _
      refine am_E.go (t2 := (16, [vR o, vI l, vI (p + 1)], [], aq_h m s F c_13)) rfl rfl ?_
      exact qn_ofLetter_l ⟨hm, hn1, hn4, hK, hFo, hFd, hFs⟩ hSd hSs d (p + 1) c_13 sc_13 (by omega) (by omega) (by omega) hdrc_13 (aq_fl hz hdc_13 (by unfold bx_ac; split <;> omega)) (by omega)

theorem qn_X0_ofLetter {m s : Nat} {F : aq_F} {c : aq_C} {S : Nat → Prop} {o n K : Nat} (hB : bx_0 m F o n K) (hSd : S (o + 6 + 3 * K)) (hSs : S (o + 7 + 3 * K)) {l : Int} (hr : aq_rg (o + 6 + 3 * K) (2 * (n : Int)) 0 (2 * (n : Int)) c) : am_E ac_X0_ofLetter (0, [vR o, vI l, vU], [], aq_h m s F c) (aq_Z m s F S c (fun r d => aq_rg (o + 6 + 3 * K) (2 * (n : Int)) 0 (2 * (n : Int)) d ∧ ((¬ (l = 0 ∨ ((1 ≤ l ∧ l < (n : Int)) ∨ (11 ≤ l ∧ l < 10 + (n : Int)))) ∧ r = some (vI (-1))) ∨ ((l = 0 ∨ ((1 ≤ l ∧ l < (n : Int)) ∨ (11 ≤ l ∧ l < 10 + (n : Int)))) ∧ (∀ i, 0 ≤ i → i < 2 * (n : Int) → d (o + 6 + 3 * K) i = bx_ol n l i) ∧ r = some (vI (nu_o (d (o + 6 + 3 * K)) (2 * (n : Int)) 9 0 0 (2 * (n : Int) - 1))))))) := by
  obtain ⟨hm, hn1, hn4, hK, hFo, hFd, hFs⟩ := hB
  refine am_E.go (t2 := (1, [vR o, vI l, vU], [vI l], aq_h m s F c)) rfl rfl ?_
  refine ae_if0 rfl (fun (q_1 : l = 0) => ?_) (fun (q_1 : l ≠ 0) => ?_)
  · refine am_E.go (t2 := (15, [vR o, vI l, vU], [vI 0], aq_h m s F c)) rfl rfl ?_
    refine am_E.go (t2 := (16, [vR o, vI l, vI 0], [], aq_h m s F c)) rfl rfl ?_
    exact qn_ofLetter_l ⟨hm, hn1, hn4, hK, hFo, hFd, hFs⟩ hSd hSs 9 0 c aq_sm0 (by omega) (by omega) (by omega) hr (fun i h1 h2 => absurd h2 (by omega)) (by omega)
  · refine am_E.go (t2 := (5, [vR o, vI l, vU], [vR o], aq_h m s F c)) rfl rfl ?_
    refine am_E.go (t2 := (6, [vR o, vI l, vU], [vI l, vR o], aq_h m s F c)) rfl rfl ?_
    refine aq_callv (y := 2) (as2 := [vI l]) (rest := []) rfl rfl (by decide) (Nat.le_of_ble_eq_true rfl) rfl rfl (Nat.le_of_ble_eq_true rfl) (by omega) hFo rfl (Nat.le_of_ble_eq_true rfl) (qn_X0_isLetter ⟨hm, hn1, hn4, hK, hFo, hFd, hFs⟩) ?_
    rintro r5 h5 ⟨rfl, v_2, rfl, hv_2⟩
    show am_E _ (9, [vR o, vI l, vU], [vI v_2], aq_h m s F c) _
    refine ae_if0 rfl (fun (q_3 : v_2 ≠ 0) => ?_) (fun (q_3 : v_2 = 0) => ?_)
    · refine am_E.go (t2 := (15, [vR o, vI l, vU], [vI 0], aq_h m s F c)) rfl rfl ?_
      refine am_E.go (t2 := (16, [vR o, vI l, vI 0], [], aq_h m s F c)) rfl rfl ?_
      exact qn_ofLetter_l ⟨hm, hn1, hn4, hK, hFo, hFd, hFs⟩ hSd hSs 9 0 c aq_sm0 (by omega) (by omega) (by omega) hr (fun i h1 h2 => absurd h2 (by omega)) (by omega)
    · refine am_E.go (t2 := (13, [vR o, vI l, vU], [vI (-1)], aq_h m s F c)) rfl rfl ?_
      refine am_E.ret rfl rfl ?_
      exact ⟨_, rfl, aq_sm0, hr, Or.inl ⟨by omega, rfl⟩⟩

theorem qn_X0_letterAt {m s : Nat} {F : aq_F} {c : aq_C} {o n K : Nat} (hB : bx_0 m F o n K) {p : Int} : am_E ac_X0_letterAt (0, [vR o, vI p], [], aq_h m s F c) (aq_P m s F c aq_vi) := by
  obtain ⟨hm, hn1, hn4, hK, hFo, hFd, hFs⟩ := hB
  refine am_E.go (t2 := (1, [vR o, vI p], [vI p], aq_h m s F c)) rfl rfl ?_
  refine am_E.go (t2 := (2, [vR o, vI p], [vR o, vI p], aq_h m s F c)) rfl rfl ?_
  refine aq_gf (v := vI (n : Int)) rfl (by omega) hFo (by decide) rfl ?_
  show am_E _ (5, [vR o, vI p], [vI (n : Int), vI p], aq_h m s F c) _
  refine am_E.go (t2 := (6, [vR o, vI p], [vI 1, vI (n : Int), vI p], aq_h m s F c)) rfl rfl ?_
  refine am_E.go (t2 := (7, [vR o, vI p], [vI (am_w ((n : Int) - 1)), vI p], aq_h m s F c)) rfl rfl ?_
  refine ae_icmp rfl (fun (q_1 : (am_w ((n : Int) - 1)) ≤ p) => ?_) (fun (q_1 : p < (am_w ((n : Int) - 1))) => ?_)
  · refine am_E.go (t2 := (17, [vR o, vI p], [vI p], aq_h m s F c)) rfl rfl ?_
    refine am_E.go (t2 := (18, [vR o, vI p], [vR o, vI p], aq_h m s F c)) rfl rfl ?_
    refine aq_gf (v := vI (n : Int)) rfl (by omega) hFo (by decide) rfl ?_
    show am_E _ (21, [vR o, vI p], [vI (n : Int), vI p], aq_h m s F c) _
    refine am_E.go (t2 := (22, [vR o, vI p], [vI 1, vI (n : Int), vI p], aq_h m s F c)) rfl rfl ?_
    refine am_E.go (t2 := (23, [vR o, vI p], [vI (am_w ((n : Int) - 1)), vI p], aq_h m s F c)) rfl rfl ?_
    refine am_E.go (t2 := (24, [vR o, vI p], [vI (am_w (p - (am_w ((n : Int) - 1))))], aq_h m s F c)) rfl rfl ?_
    refine am_E.go (t2 := (26, [vR o, vI p], [vI 11, vI (am_w (p - (am_w ((n : Int) - 1))))], aq_h m s F c)) rfl rfl ?_
    refine am_E.go (t2 := (27, [vR o, vI p], [vI (am_w ((am_w (p - (am_w ((n : Int) - 1)))) + 11))], aq_h m s F c)) rfl rfl ?_
    refine am_E.ret rfl rfl ?_
    exact ⟨rfl, _, rfl⟩
  · refine am_E.go (t2 := (11, [vR o, vI p], [vI p], aq_h m s F c)) rfl rfl ?_
    refine am_E.go (t2 := (12, [vR o, vI p], [vI 1, vI p], aq_h m s F c)) rfl rfl ?_
    refine am_E.go (t2 := (13, [vR o, vI p], [vI (am_w (p + 1))], aq_h m s F c)) rfl rfl ?_
    refine am_E.go (t2 := (27, [vR o, vI p], [vI (am_w (p + 1))], aq_h m s F c)) rfl rfl ?_
    refine am_E.ret rfl rfl ?_
    exact ⟨rfl, _, rfl⟩

theorem qn_X0_letterOf {m s : Nat} {F : aq_F} {c : aq_C} {o n K : Nat} (hB : bx_0 m F o n K) {tL : Int → Int} {tG tN : Int → Int → Int} (hT : bx_w F o n K tL tG tN) {b i : Int} (hb0 : 0 ≤ b) (hbK : b < (K : Int)) (hi : 0 ≤ i) : am_E ac_X0_letterOf (0, [vR o, vI b, vI i], [], aq_h m s F c) (aq_P m s F c aq_vi) := by
  obtain ⟨hm, hn1, hn4, hK, hFo, hFd, hFs⟩ := hB
  obtain ⟨hL, hGg, hGr, hNg, hNr, hLt, hGt, hNt⟩ := hT
  refine am_E.go (t2 := (1, [vR o, vI b, vI i], [vI i], aq_h m s F c)) rfl rfl ?_
  refine am_E.go (t2 := (2, [vR o, vI b, vI i], [vR o, vI i], aq_h m s F c)) rfl rfl ?_
  refine aq_gf (v := vR (o + 3 + K)) rfl (by omega) hFo (by decide) rfl ?_
  show am_E _ (5, [vR o, vI b, vI i], [vR (o + 3 + K), vI i], aq_h m s F c) _
  refine am_E.go (t2 := (6, [vR o, vI b, vI i], [vI b, vR (o + 3 + K), vI i], aq_h m s F c)) rfl rfl ?_
  refine aq_alt (ok := fun k => k == 0) rfl rfl (by omega) hL rfl (by omega) (by omega) ?_
  show am_E _ (7, [vR o, vI b, vI i], [vI (tL b), vI i], aq_h m s F c) _
  refine ae_icmp rfl (fun (q_1 : (tL b) ≤ i) => ?_) (fun (q_1 : i < (tL b)) => ?_)
  · refine am_E.go (t2 := (27, [vR o, vI b, vI i], [vI (-4)], aq_h m s F c)) rfl rfl ?_
    refine am_E.ret rfl rfl ?_
    exact ⟨rfl, _, rfl⟩
  · have e5 := hLt b hb0 hbK
    refine am_E.go (t2 := (11, [vR o, vI b, vI i], [vR o], aq_h m s F c)) rfl rfl ?_
    refine am_E.go (t2 := (12, [vR o, vI b, vI i], [vR o, vR o], aq_h m s F c)) rfl rfl ?_
    refine aq_gf (v := vR (o + 4 + K)) rfl (by omega) hFo (by decide) rfl ?_
    show am_E _ (15, [vR o, vI b, vI i], [vR (o + 4 + K), vR o], aq_h m s F c) _
    refine am_E.go (t2 := (16, [vR o, vI b, vI i], [vI b, vR (o + 4 + K), vR o], aq_h m s F c)) rfl rfl ?_
    refine aq_al (ok := fun k => decide (3 ≤ k) && decide (k < 7)) (v := vR (o + 5 + K + b.toNat)) rfl rfl (by omega) hGg rfl (by omega) (by omega) (aq_gi (by omega)) ?_
    show am_E _ (17, [vR o, vI b, vI i], [vR (o + 5 + K + b.toNat), vR o], aq_h m s F c) _
    refine am_E.go (t2 := (18, [vR o, vI b, vI i], [vI i, vR (o + 5 + K + b.toNat), vR o], aq_h m s F c)) rfl rfl ?_
    refine aq_alt (ok := fun k => k == 0) rfl rfl (by omega) (hGr _ (by omega)) rfl (by omega) (by omega) ?_
    show am_E _ (19, [vR o, vI b, vI i], [vI (tG ((b.toNat : Nat) : Int) i), vR o], aq_h m s F c) _
    refine aq_callv (y := 2) (as2 := [vI (tG ((b.toNat : Nat) : Int) i)]) (rest := []) rfl rfl (by decide) (Nat.le_of_ble_eq_true rfl) rfl rfl (Nat.le_of_ble_eq_true rfl) (by omega) hFo rfl (Nat.le_of_ble_eq_true rfl) (qn_X0_letterAt ⟨hm, hn1, hn4, hK, hFo, hFd, hFs⟩) ?_
    rintro r5 h5 ⟨rfl, v_2, rfl⟩
    show am_E _ (22, [vR o, vI b, vI i], [vI v_2], aq_h m s F c) _
    refine am_E.go (t2 := (27, [vR o, vI b, vI i], [vI v_2], aq_h m s F c)) rfl rfl ?_
    refine am_E.ret rfl rfl ?_
    exact ⟨rfl, _, rfl⟩

theorem qn_stackOn_l {m s : Nat} {F : aq_F} {c : aq_C} {o n K : Nat} (hB : bx_0 m F o n K) {tL : Int → Int} {tG tN : Int → Int → Int} (hT : bx_w F o n K tL tG tN) {x y : Int} (hy0 : 0 ≤ y) (hyK : y < (K : Int)) : ∀ (d : Nat) (t : Int) (a : Int) (i : Int) (v6 : am_V) (h0 : 0 ≤ i) (h1 : i ≤ max 0 (tL y)) (h2 : 0 ≤ t) (h3 : t < (K : Int)) (h4 : 0 ≤ a) (h5 : a ≤ 5000 * i) (h6 : a % 1000 = 0) (hd : max 0 (tL y - i) < (d : Int)), am_E ac_X0_stackOn (8, [vR o, vI x, vI y, vI t, vI a, vI i, v6], [], aq_h m s F c) (aq_P m s F c (fun r => ∃ v, r = some (vI v) ∧ (0 ≤ v ∧ v < 31000 ∧ v % 1000 < (K : Int))))
  | 0, t, a, i, v6, h0, h1, h2, h3, h4, h5, h6, hd => by exfalso; omega
  | d + 1, t, a, i, v6, h0, h1, h2, h3, h4, h5, h6, hd => by
    obtain ⟨hm, hn1, hn4, hK, hFo, hFd, hFs⟩ := hB
    obtain ⟨hL, hGg, hGr, hNg, hNr, hLt, hGt, hNt⟩ := hT
    have e5 := hLt y hy0 hyK
    refine am_E.go (t2 := (10, [vR o, vI x, vI y, vI t, vI a, vI i, v6], [vI i], aq_h m s F c)) rfl rfl ?_
    refine am_E.go (t2 := (11, [vR o, vI x, vI y, vI t, vI a, vI i, v6], [vR o, vI i], aq_h m s F c)) rfl rfl ?_
    refine aq_gf (v := vR (o + 3 + K)) rfl (by omega) hFo (by decide) rfl ?_
    show am_E _ (14, [vR o, vI x, vI y, vI t, vI a, vI i, v6], [vR (o + 3 + K), vI i], aq_h m s F c) _
    refine am_E.go (t2 := (15, [vR o, vI x, vI y, vI t, vI a, vI i, v6], [vI y, vR (o + 3 + K), vI i], aq_h m s F c)) rfl rfl ?_
    refine aq_alt (ok := fun k => k == 0) rfl rfl (by omega) hL rfl (by omega) (by omega) ?_
    show am_E _ (16, [vR o, vI x, vI y, vI t, vI a, vI i, v6], [vI (tL y), vI i], aq_h m s F c) _
    refine ae_icmp rfl (fun (q_1 : (tL y) ≤ i) => ?_) (fun (q_1 : i < (tL y)) => ?_)
    · refine am_E.go (t2 := (60, [vR o, vI x, vI y, vI t, vI a, vI i, v6], [vI t], aq_h m s F c)) rfl rfl ?_
      refine am_E.go (t2 := (62, [vR o, vI x, vI y, vI t, vI a, vI i, v6], [vI a, vI t], aq_h m s F c)) rfl rfl ?_
      refine ae_add rfl (am_ri (by omega) (by omega)) ?_
      show am_E _ (63, [vR o, vI x, vI y, vI t, vI a, vI i, v6], [vI (t + a)], aq_h m s F c) _
      refine am_E.ret rfl rfl ?_
      exact ⟨rfl, _, rfl, by omega⟩
    · have e6 := hGt ((y.toNat : Nat) : Int) i (by omega) (by omega) h0 (by rw [Int.toNat_of_nonneg hy0]; omega)
      have e7 := hNt ((t.toNat : Nat) : Int) (tG ((y.toNat : Nat) : Int) i) (by omega) (by omega) (by omega) (by omega)
      refine am_E.go (t2 := (20, [vR o, vI x, vI y, vI t, vI a, vI i, v6], [vR o], aq_h m s F c)) rfl rfl ?_
      refine aq_gf (v := vR (o + 5 + 2 * K)) rfl (by omega) hFo (by decide) rfl ?_
      show am_E _ (23, [vR o, vI x, vI y, vI t, vI a, vI i, v6], [vR (o + 5 + 2 * K)], aq_h m s F c) _
      refine am_E.go (t2 := (24, [vR o, vI x, vI y, vI t, vI a, vI i, v6], [vI t, vR (o + 5 + 2 * K)], aq_h m s F c)) rfl rfl ?_
      refine aq_al (ok := fun k => decide (3 ≤ k) && decide (k < 7)) (v := vR (o + 6 + 2 * K + t.toNat)) rfl rfl (by omega) hNg rfl (by omega) (by omega) (aq_gi (by omega)) ?_
      show am_E _ (25, [vR o, vI x, vI y, vI t, vI a, vI i, v6], [vR (o + 6 + 2 * K + t.toNat)], aq_h m s F c) _
      refine am_E.go (t2 := (26, [vR o, vI x, vI y, vI t, vI a, vI i, v6], [vR o, vR (o + 6 + 2 * K + t.toNat)], aq_h m s F c)) rfl rfl ?_
      refine aq_gf (v := vR (o + 4 + K)) rfl (by omega) hFo (by decide) rfl ?_
      show am_E _ (29, [vR o, vI x, vI y, vI t, vI a, vI i, v6], [vR (o + 4 + K), vR (o + 6 + 2 * K + t.toNat)], aq_h m s F c) _
      refine am_E.go (t2 := (30, [vR o, vI x, vI y, vI t, vI a, vI i, v6], [vI y, vR (o + 4 + K), vR (o + 6 + 2 * K + t.toNat)], aq_h m s F c)) rfl rfl ?_
      refine aq_al (ok := fun k => decide (3 ≤ k) && decide (k < 7)) (v := vR (o + 5 + K + y.toNat)) rfl rfl (by omega) hGg rfl (by omega) (by omega) (aq_gi (by omega)) ?_
      show am_E _ (31, [vR o, vI x, vI y, vI t, vI a, vI i, v6], [vR (o + 5 + K + y.toNat), vR (o + 6 + 2 * K + t.toNat)], aq_h m s F c) _
      refine am_E.go (t2 := (33, [vR o, vI x, vI y, vI t, vI a, vI i, v6], [vI i, vR (o + 5 + K + y.toNat), vR (o + 6 + 2 * K + t.toNat)], aq_h m s F c)) rfl rfl ?_
      refine aq_alt (ok := fun k => k == 0) rfl rfl (by omega) (hGr _ (by omega)) rfl (by omega) (by omega) ?_
      show am_E _ (34, [vR o, vI x, vI y, vI t, vI a, vI i, v6], [vI (tG ((y.toNat : Nat) : Int) i), vR (o + 6 + 2 * K + t.toNat)], aq_h m s F c) _
      refine aq_alt (ok := fun k => k == 0) rfl rfl (by omega) (hNr _ (by omega)) rfl (by omega) (by omega) ?_
      show am_E _ (35, [vR o, vI x, vI y, vI t, vI a, vI i, v6], [vI (tN ((t.toNat : Nat) : Int) (tG ((y.toNat : Nat) : Int) i))], aq_h m s F c) _
      refine am_E.go (t2 := (37, [vR o, vI x, vI y, vI t, vI a, vI i, vI (tN ((t.toNat : Nat) : Int) (tG ((y.toNat : Nat) : Int) i))], [], aq_h m s F c)) rfl rfl ?_
      refine am_E.go (t2 := (39, [vR o, vI x, vI y, vI t, vI a, vI i, vI (tN ((t.toNat : Nat) : Int) (tG ((y.toNat : Nat) : Int) i))], [vI (tN ((t.toNat : Nat) : Int) (tG ((y.toNat : Nat) : Int) i))], aq_h m s F c)) rfl rfl ?_
      refine am_E.go (t2 := (42, [vR o, vI x, vI y, vI t, vI a, vI i, vI (tN ((t.toNat : Nat) : Int) (tG ((y.toNat : Nat) : Int) i))], [vI 1000, vI (tN ((t.toNat : Nat) : Int) (tG ((y.toNat : Nat) : Int) i))], aq_h m s F c)) rfl rfl ?_
      refine ae_bin (z := (tN ((t.toNat : Nat) : Int) (tG ((y.toNat : Nat) : Int) i)) % 1000) rfl rfl (am_rem_e (by omega) (by decide)) ?_
      show am_E _ (43, [vR o, vI x, vI y, vI t, vI a, vI i, vI (tN ((t.toNat : Nat) : Int) (tG ((y.toNat : Nat) : Int) i))], [vI ((tN ((t.toNat : Nat) : Int) (tG ((y.toNat : Nat) : Int) i)) % 1000)], aq_h m s F c) _
      refine am_E.go (t2 := (44, [vR o, vI x, vI y, vI ((tN ((t.toNat : Nat) : Int) (tG ((y.toNat : Nat) : Int) i)) % 1000), vI a, vI i, vI (tN ((t.toNat : Nat) : Int) (tG ((y.toNat : Nat) : Int) i))], [], aq_h m s F c)) rfl rfl ?_
      refine am_E.go (t2 := (46, [vR o, vI x, vI y, vI ((tN ((t.toNat : Nat) : Int) (tG ((y.toNat : Nat) : Int) i)) % 1000), vI a, vI i, vI (tN ((t.toNat : Nat) : Int) (tG ((y.toNat : Nat) : Int) i))], [vI a], aq_h m s F c)) rfl rfl ?_
      refine am_E.go (t2 := (48, [vR o, vI x, vI y, vI ((tN ((t.toNat : Nat) : Int) (tG ((y.toNat : Nat) : Int) i)) % 1000), vI a, vI i, vI (tN ((t.toNat : Nat) : Int) (tG ((y.toNat : Nat) : Int) i))], [vI (tN ((t.toNat : Nat) : Int) (tG ((y.toNat : Nat) : Int) i)), vI a], aq_h m s F c)) rfl rfl ?_
      refine am_E.go (t2 := (49, [vR o, vI x, vI y, vI ((tN ((t.toNat : Nat) : Int) (tG ((y.toNat : Nat) : Int) i)) % 1000), vI a, vI i, vI (tN ((t.toNat : Nat) : Int) (tG ((y.toNat : Nat) : Int) i))], [vI ((tN ((t.toNat : Nat) : Int) (tG ((y.toNat : Nat) : Int) i)) % 1000), vI (tN ((t.toNat : Nat) : Int) (tG ((y.toNat : Nat) : Int) i)), vI a], aq_h m s F c)) rfl rfl ?_
      refine ae_sub rfl (am_ri (by omega) (by omega)) ?_
      show am_E _ (50, [vR o, vI x, vI y, vI ((tN ((t.toNat : Nat) : Int) (tG ((y.toNat : Nat) : Int) i)) % 1000), vI a, vI i, vI (tN ((t.toNat : Nat) : Int) (tG ((y.toNat : Nat) : Int) i))], [vI ((tN ((t.toNat : Nat) : Int) (tG ((y.toNat : Nat) : Int) i)) - ((tN ((t.toNat : Nat) : Int) (tG ((y.toNat : Nat) : Int) i)) % 1000)), vI a], aq_h m s F c) _
      refine ae_add rfl (am_ri (by omega) (by omega)) ?_
      show am_E _ (51, [vR o, vI x, vI y, vI ((tN ((t.toNat : Nat) : Int) (tG ((y.toNat : Nat) : Int) i)) % 1000), vI a, vI i, vI (tN ((t.toNat : Nat) : Int) (tG ((y.toNat : Nat) : Int) i))], [vI (a + ((tN ((t.toNat : Nat) : Int) (tG ((y.toNat : Nat) : Int) i)) - ((tN ((t.toNat : Nat) : Int) (tG ((y.toNat : Nat) : Int) i)) % 1000)))], aq_h m s F c) _
      refine am_E.go (t2 := (53, [vR o, vI x, vI y, vI ((tN ((t.toNat : Nat) : Int) (tG ((y.toNat : Nat) : Int) i)) % 1000), vI (a + ((tN ((t.toNat : Nat) : Int) (tG ((y.toNat : Nat) : Int) i)) - ((tN ((t.toNat : Nat) : Int) (tG ((y.toNat : Nat) : Int) i)) % 1000))), vI i, vI (tN ((t.toNat : Nat) : Int) (tG ((y.toNat : Nat) : Int) i))], [], aq_h m s F c)) rfl rfl ?_
      refine ae_iinc rfl rfl (am_ri (by omega) (by omega)) ?_
      show am_E _ (56, [vR o, vI x, vI y, vI ((tN ((t.toNat : Nat) : Int) (tG ((y.toNat : Nat) : Int) i)) % 1000), vI (a + ((tN ((t.toNat : Nat) : Int) (tG ((y.toNat : Nat) : Int) i)) - ((tN ((t.toNat : Nat) : Int) (tG ((y.toNat : Nat) : Int) i)) % 1000))), vI (i + 1), vI (tN ((t.toNat : Nat) : Int) (tG ((y.toNat : Nat) : Int) i))], [], aq_h m s F c) _
      refine am_E.go (t2 := (8, [vR o, vI x, vI y, vI ((tN ((t.toNat : Nat) : Int) (tG ((y.toNat : Nat) : Int) i)) % 1000), vI (a + ((tN ((t.toNat : Nat) : Int) (tG ((y.toNat : Nat) : Int) i)) - ((tN ((t.toNat : Nat) : Int) (tG ((y.toNat : Nat) : Int) i)) % 1000))), vI (i + 1), vI (tN ((t.toNat : Nat) : Int) (tG ((y.toNat : Nat) : Int) i))], [], aq_h m s F c)) rfl rfl ?_
      exact qn_stackOn_l ⟨hm, hn1, hn4, hK, hFo, hFd, hFs⟩ ⟨hL, hGg, hGr, hNg, hNr, hLt, hGt, hNt⟩ hy0 hyK d ((tN ((t.toNat : Nat) : Int) (tG ((y.toNat : Nat) : Int) i)) % 1000) (a + ((tN ((t.toNat : Nat) : Int) (tG ((y.toNat : Nat) : Int) i)) - ((tN ((t.toNat : Nat) : Int) (tG ((y.toNat : Nat) : Int) i)) % 1000))) (i + 1) (vI (tN ((t.toNat : Nat) : Int) (tG ((y.toNat : Nat) : Int) i))) (by omega) (by omega) (by omega) (by omega) (by omega) (by omega) (by omega) (by omega)

theorem qn_X0_stackOn {m s : Nat} {F : aq_F} {c : aq_C} {o n K : Nat} (hB : bx_0 m F o n K) {tL : Int → Int} {tG tN : Int → Int → Int} (hT : bx_w F o n K tL tG tN) {x y : Int} (hy0 : 0 ≤ y) (hyK : y < (K : Int)) (hx0 : 0 ≤ x) (hxK : x < (K : Int)) : am_E ac_X0_stackOn (0, [vR o, vI x, vI y, vU, vU, vU, vU], [], aq_h m s F c) (aq_P m s F c (fun r => ∃ v, r = some (vI v) ∧ (0 ≤ v ∧ v < 31000 ∧ v % 1000 < (K : Int)))) := by
  obtain ⟨hm, hn1, hn4, hK, hFo, hFd, hFs⟩ := hB
  obtain ⟨hL, hGg, hGr, hNg, hNr, hLt, hGt, hNt⟩ := hT
  have e5 := hLt y hy0 hyK
  refine am_E.go (t2 := (1, [vR o, vI x, vI y, vU, vU, vU, vU], [vI x], aq_h m s F c)) rfl rfl ?_
  refine am_E.go (t2 := (2, [vR o, vI x, vI y, vI x, vU, vU, vU], [], aq_h m s F c)) rfl rfl ?_
  refine am_E.go (t2 := (3, [vR o, vI x, vI y, vI x, vU, vU, vU], [vI 0], aq_h m s F c)) rfl rfl ?_
  refine am_E.go (t2 := (5, [vR o, vI x, vI y, vI x, vI 0, vU, vU], [], aq_h m s F c)) rfl rfl ?_
  refine am_E.go (t2 := (6, [vR o, vI x, vI y, vI x, vI 0, vU, vU], [vI 0], aq_h m s F c)) rfl rfl ?_
  refine am_E.go (t2 := (8, [vR o, vI x, vI y, vI x, vI 0, vI 0, vU], [], aq_h m s F c)) rfl rfl ?_
  exact qn_stackOn_l ⟨hm, hn1, hn4, hK, hFo, hFd, hFs⟩ ⟨hL, hGg, hGr, hNg, hNr, hLt, hGt, hNt⟩ hy0 hyK 7 x 0 0 (vU) (by omega) (by omega) (by omega) (by omega) (by omega) (by omega) (by omega) (by omega)

theorem qn_ofPairs_l {m s : Nat} {F : aq_F} {c0 : aq_C} {S : Nat → Prop} {o n K : Nat} (hB : bx_0 m F o n K) (hSd : S (o + 6 + 3 * K)) (hSs : S (o + 7 + 3 * K)) {w : Int} : ∀ (d : Nat) (k : Int) (v4 : am_V) (v5 : am_V) (c : aq_C) (hs : aq_sm S c0 c) (h0 : 0 ≤ k) (h1 : k ≤ (n : Int)) (hr : aq_rg (o + 6 + 3 * K) (2 * (n : Int)) 0 (2 * (n : Int)) c) (hd : (n : Int) - k < (d : Int)), am_E ac_X0_ofPairs (22, [vR o, vL w, vU, vI k, v4, v5], [], aq_h m s F c) (aq_Z m s F S c0 (fun r d => aq_vi r ∧ aq_rg (o + 6 + 3 * K) (2 * (n : Int)) 0 (2 * (n : Int)) d))
  | 0, k, v4, v5, c, hs, h0, h1, hr, hd => by exfalso; omega
  | d + 1, k, v4, v5, c, hs, h0, h1, hr, hd => by
    obtain ⟨hm, hn1, hn4, hK, hFo, hFd, hFs⟩ := hB
    refine am_E.go (t2 := (23, [vR o, vL w, vU, vI k, v4, v5], [vI k], aq_h m s F c)) rfl rfl ?_
    refine am_E.go (t2 := (24, [vR o, vL w, vU, vI k, v4, v5], [vR o, vI k], aq_h m s F c)) rfl rfl ?_
    refine aq_gf (v := vI (n : Int)) rfl (by omega) hFo (by decide) rfl ?_
    show am_E _ (27, [vR o, vL w, vU, vI k, v4, v5], [vI (n : Int), vI k], aq_h m s F c) _
    refine ae_icmp rfl (fun (q_1 : (n : Int) ≤ k) => ?_) (fun (q_1 : k < (n : Int)) => ?_)
    · refine am_E.go (t2 := (137, [vR o, vL w, vU, vI k, v4, v5], [vR o], aq_h m s F c)) rfl rfl ?_
      refine am_E.go (t2 := (138, [vR o, vL w, vU, vI k, v4, v5], [vR o, vR o], aq_h m s F c)) rfl rfl ?_
      refine aq_gf (v := vR (o + 6 + 3 * K)) rfl (by omega) hFo (by decide) rfl ?_
      show am_E _ (141, [vR o, vL w, vU, vI k, v4, v5], [vR (o + 6 + 3 * K), vR o], aq_h m s F c) _
      refine aq_callv (y := 2) (as2 := [vR (o + 6 + 3 * K)]) (rest := []) rfl rfl (by decide) (Nat.le_of_ble_eq_true rfl) rfl rfl (Nat.le_of_ble_eq_true rfl) (by omega) hFo rfl (Nat.le_of_ble_eq_true rfl) (qn_X0_numberOf ⟨hm, hn1, hn4, hK, hFo, hFd, hFs⟩ hr) ?_
      rintro r5 h5 ⟨rfl, rfl⟩
      show am_E _ (144, [vR o, vL w, vU, vI k, v4, v5], [vI (nu_o (c (o + 6 + 3 * K)) (2 * (n : Int)) 9 0 0 (2 * (n : Int) - 1))], aq_h m s F c) _
      refine am_E.ret rfl rfl ?_
      exact ⟨_, rfl, hs, ⟨_, rfl⟩, hr⟩
    · refine am_E.go (t2 := (31, [vR o, vL w, vU, vI k, v4, v5], [vL w], aq_h m s F c)) rfl rfl ?_
      refine am_E.go (t2 := (33, [vR o, vL w, vU, vI k, v4, v5], [vI 8, vL w], aq_h m s F c)) rfl rfl ?_
      refine am_E.go (t2 := (34, [vR o, vL w, vU, vI k, v4, v5], [vI k, vI 8, vL w], aq_h m s F c)) rfl rfl ?_
      refine ae_mul rfl (am_ri (by omega) (by omega)) ?_
      show am_E _ (35, [vR o, vL w, vU, vI k, v4, v5], [vI (8 * k), vL w], aq_h m s F c) _
      refine am_E.go (t2 := (36, [vR o, vL w, vU, vI k, v4, v5], [vL (am_ushL w (8 * k))], aq_h m s F c)) rfl rfl ?_
      refine am_E.go (t2 := (37, [vR o, vL w, vU, vI k, v4, v5], [vI (am_w (am_ushL w (8 * k)))], aq_h m s F c)) rfl rfl ?_
      refine am_E.go (t2 := (39, [vR o, vL w, vU, vI k, v4, v5], [vI 15, vI (am_w (am_ushL w (8 * k)))], aq_h m s F c)) rfl rfl ?_
      have ew1 := am_and15 (am_w (am_ushL w (8 * k)))
      refine ae_bin (z := am_and (am_w (am_ushL w (8 * k))) 15) rfl rfl rfl ?_
      generalize am_and (am_w (am_ushL w (8 * k))) 15 = w1 at ew1 ⊢
      refine am_E.go (t2 := (42, [vR o, vL w, vU, vI k, vI w1, v5], [], aq_h m s F c)) rfl rfl ?_
      refine am_E.go (t2 := (43, [vR o, vL w, vU, vI k, vI w1, v5], [vL w], aq_h m s F c)) rfl rfl ?_
      refine am_E.go (t2 := (45, [vR o, vL w, vU, vI k, vI w1, v5], [vI 8, vL w], aq_h m s F c)) rfl rfl ?_
      refine am_E.go (t2 := (46, [vR o, vL w, vU, vI k, vI w1, v5], [vI k, vI 8, vL w], aq_h m s F c)) rfl rfl ?_
      refine ae_mul rfl (am_ri (by omega) (by omega)) ?_
      show am_E _ (47, [vR o, vL w, vU, vI k, vI w1, v5], [vI (8 * k), vL w], aq_h m s F c) _
      refine am_E.go (t2 := (48, [vR o, vL w, vU, vI k, vI w1, v5], [vI 4, vI (8 * k), vL w], aq_h m s F c)) rfl rfl ?_
      refine ae_add rfl (am_ri (by omega) (by omega)) ?_
      show am_E _ (49, [vR o, vL w, vU, vI k, vI w1, v5], [vI ((8 * k) + 4), vL w], aq_h m s F c) _
      refine am_E.go (t2 := (50, [vR o, vL w, vU, vI k, vI w1, v5], [vL (am_ushL w ((8 * k) + 4))], aq_h m s F c)) rfl rfl ?_
      refine am_E.go (t2 := (51, [vR o, vL w, vU, vI k, vI w1, v5], [vI (am_w (am_ushL w ((8 * k) + 4)))], aq_h m s F c)) rfl rfl ?_
      refine am_E.go (t2 := (53, [vR o, vL w, vU, vI k, vI w1, v5], [vI 15, vI (am_w (am_ushL w ((8 * k) + 4)))], aq_h m s F c)) rfl rfl ?_
      have ew2 := am_and15 (am_w (am_ushL w ((8 * k) + 4)))
      refine ae_bin (z := am_and (am_w (am_ushL w ((8 * k) + 4))) 15) rfl rfl rfl ?_
      generalize am_and (am_w (am_ushL w ((8 * k) + 4))) 15 = w2 at ew2 ⊢
      refine am_E.go (t2 := (56, [vR o, vL w, vU, vI k, vI w1, vI w2], [], aq_h m s F c)) rfl rfl ?_
      refine am_E.go (t2 := (58, [vR o, vL w, vU, vI k, vI w1, vI w2], [vI w1], aq_h m s F c)) rfl rfl ?_
      refine am_E.go (t2 := (59, [vR o, vL w, vU, vI k, vI w1, vI w2], [vR o, vI w1], aq_h m s F c)) rfl rfl ?_
      refine aq_gf (v := vI (2 * (n : Int))) rfl (by omega) hFo (by decide) rfl ?_
      show am_E _ (62, [vR o, vL w, vU, vI k, vI w1, vI w2], [vI (2 * (n : Int)), vI w1], aq_h m s F c) _
      refine ae_icmp rfl (fun (q_2 : (2 * (n : Int)) ≤ w1) => ?_) (fun (q_2 : w1 < (2 * (n : Int))) => ?_)
      · refine am_E.go (t2 := (102, [vR o, vL w, vU, vI k, vI w1, vI w2], [vI (-1)], aq_h m s F c)) rfl rfl ?_
        refine am_E.ret rfl rfl ?_
        exact ⟨_, rfl, hs, ⟨_, rfl⟩, hr⟩
      · refine am_E.go (t2 := (67, [vR o, vL w, vU, vI k, vI w1, vI w2], [vI w2], aq_h m s F c)) rfl rfl ?_
        refine am_E.go (t2 := (68, [vR o, vL w, vU, vI k, vI w1, vI w2], [vR o, vI w2], aq_h m s F c)) rfl rfl ?_
        refine aq_gf (v := vI (2 * (n : Int))) rfl (by omega) hFo (by decide) rfl ?_
        show am_E _ (71, [vR o, vL w, vU, vI k, vI w1, vI w2], [vI (2 * (n : Int)), vI w2], aq_h m s F c) _
        refine ae_icmp rfl (fun (q_3 : (2 * (n : Int)) ≤ w2) => ?_) (fun (q_3 : w2 < (2 * (n : Int))) => ?_)
        · refine am_E.go (t2 := (102, [vR o, vL w, vU, vI k, vI w1, vI w2], [vI (-1)], aq_h m s F c)) rfl rfl ?_
          refine am_E.ret rfl rfl ?_
          exact ⟨_, rfl, hs, ⟨_, rfl⟩, hr⟩
        · refine am_E.go (t2 := (76, [vR o, vL w, vU, vI k, vI w1, vI w2], [vI w1], aq_h m s F c)) rfl rfl ?_
          refine am_E.go (t2 := (78, [vR o, vL w, vU, vI k, vI w1, vI w2], [vI w2, vI w1], aq_h m s F c)) rfl rfl ?_
          refine ae_icmp rfl (fun (q_4 : w1 = w2) => ?_) (fun (q_4 : w1 ≠ w2) => ?_)
          · refine am_E.go (t2 := (102, [vR o, vL w, vU, vI k, vI w1, vI w2], [vI (-1)], aq_h m s F c)) rfl rfl ?_
            refine am_E.ret rfl rfl ?_
            exact ⟨_, rfl, hs, ⟨_, rfl⟩, hr⟩
          · refine am_E.go (t2 := (82, [vR o, vL w, vU, vI k, vI w1, vI w2], [vR o], aq_h m s F c)) rfl rfl ?_
            refine aq_gf (v := vR (o + 7 + 3 * K)) rfl (by omega) hFo (by decide) rfl ?_
            show am_E _ (85, [vR o, vL w, vU, vI k, vI w1, vI w2], [vR (o + 7 + 3 * K)], aq_h m s F c) _
            refine am_E.go (t2 := (87, [vR o, vL w, vU, vI k, vI w1, vI w2], [vI w1, vR (o + 7 + 3 * K)], aq_h m s F c)) rfl rfl ?_
            refine aq_al (ok := fun k => k == 1) (v := vI (c (o + 7 + 3 * K) w1)) rfl rfl (by omega) hFs rfl (by omega) (by omega) rfl ?_
            show am_E _ (88, [vR o, vL w, vU, vI k, vI w1, vI w2], [vI (c (o + 7 + 3 * K) w1)], aq_h m s F c) _
            refine ae_if0 rfl (fun (q_5 : (c (o + 7 + 3 * K) w1) ≠ 0) => ?_) (fun (q_5 : (c (o + 7 + 3 * K) w1) = 0) => ?_)
            · refine am_E.go (t2 := (102, [vR o, vL w, vU, vI k, vI w1, vI w2], [vI (-1)], aq_h m s F c)) rfl rfl ?_
              refine am_E.ret rfl rfl ?_
              exact ⟨_, rfl, hs, ⟨_, rfl⟩, hr⟩
            · refine am_E.go (t2 := (92, [vR o, vL w, vU, vI k, vI w1, vI w2], [vR o], aq_h m s F c)) rfl rfl ?_
              refine aq_gf (v := vR (o + 7 + 3 * K)) rfl (by omega) hFo (by decide) rfl ?_
              show am_E _ (95, [vR o, vL w, vU, vI k, vI w1, vI w2], [vR (o + 7 + 3 * K)], aq_h m s F c) _
              refine am_E.go (t2 := (97, [vR o, vL w, vU, vI k, vI w1, vI w2], [vI w2, vR (o + 7 + 3 * K)], aq_h m s F c)) rfl rfl ?_
              refine aq_al (ok := fun k => k == 1) (v := vI (c (o + 7 + 3 * K) w2)) rfl rfl (by omega) hFs rfl (by omega) (by omega) rfl ?_
              show am_E _ (98, [vR o, vL w, vU, vI k, vI w1, vI w2], [vI (c (o + 7 + 3 * K) w2)], aq_h m s F c) _
              refine ae_if0 rfl (fun (q_6 : (c (o + 7 + 3 * K) w2) = 0) => ?_) (fun (q_6 : (c (o + 7 + 3 * K) w2) ≠ 0) => ?_)
              · refine am_E.go (t2 := (104, [vR o, vL w, vU, vI k, vI w1, vI w2], [vR o], aq_h m s F c)) rfl rfl ?_
                refine aq_gf (v := vR (o + 7 + 3 * K)) rfl (by omega) hFo (by decide) rfl ?_
                show am_E _ (107, [vR o, vL w, vU, vI k, vI w1, vI w2], [vR (o + 7 + 3 * K)], aq_h m s F c) _
                refine am_E.go (t2 := (109, [vR o, vL w, vU, vI k, vI w1, vI w2], [vI w1, vR (o + 7 + 3 * K)], aq_h m s F c)) rfl rfl ?_
                refine am_E.go (t2 := (110, [vR o, vL w, vU, vI k, vI w1, vI w2], [vI 1, vI w1, vR (o + 7 + 3 * K)], aq_h m s F c)) rfl rfl ?_
                refine aq_as (kd := 1) rfl rfl (by omega) hFs (by omega) (by omega) rfl rfl ?_
                show am_E _ (111, [vR o, vL w, vU, vI k, vI w1, vI w2], [], aq_h m s F (aq_u c (o + 7 + 3 * K) w1 1)) _
                generalize hdc_7 : aq_u c (o + 7 + 3 * K) w1 1 = c_7
                have sc_7 := aq_smu hs hdc_7 hSs
                have hdrc_7 := aq_rgn hr hdc_7 (by omega)
                refine am_E.go (t2 := (112, [vR o, vL w, vU, vI k, vI w1, vI w2], [vR o], aq_h m s F c_7)) rfl rfl ?_
                refine aq_gf (v := vR (o + 7 + 3 * K)) rfl (by omega) hFo (by decide) rfl ?_
                show am_E _ (115, [vR o, vL w, vU, vI k, vI w1, vI w2], [vR (o + 7 + 3 * K)], aq_h m s F c_7) _
                refine am_E.go (t2 := (117, [vR o, vL w, vU, vI k, vI w1, vI w2], [vI w2, vR (o + 7 + 3 * K)], aq_h m s F c_7)) rfl rfl ?_
                refine am_E.go (t2 := (118, [vR o, vL w, vU, vI k, vI w1, vI w2], [vI 1, vI w2, vR (o + 7 + 3 * K)], aq_h m s F c_7)) rfl rfl ?_
                refine aq_as (kd := 1) rfl rfl (by omega) hFs (by omega) (by omega) rfl rfl ?_
                show am_E _ (119, [vR o, vL w, vU, vI k, vI w1, vI w2], [], aq_h m s F (aq_u c_7 (o + 7 + 3 * K) w2 1)) _
                generalize hdc_8 : aq_u c_7 (o + 7 + 3 * K) w2 1 = c_8
                have sc_8 := aq_smu sc_7 hdc_8 hSs
                have hdrc_8 := aq_rgn hdrc_7 hdc_8 (by omega)
                refine am_E.go (t2 := (120, [vR o, vL w, vU, vI k, vI w1, vI w2], [vR o], aq_h m s F c_8)) rfl rfl ?_
                refine aq_gf (v := vR (o + 6 + 3 * K)) rfl (by omega) hFo (by decide) rfl ?_
                show am_E _ (123, [vR o, vL w, vU, vI k, vI w1, vI w2], [vR (o + 6 + 3 * K)], aq_h m s F c_8) _
                refine am_E.go (t2 := (125, [vR o, vL w, vU, vI k, vI w1, vI w2], [vI w1, vR (o + 6 + 3 * K)], aq_h m s F c_8)) rfl rfl ?_
                refine am_E.go (t2 := (127, [vR o, vL w, vU, vI k, vI w1, vI w2], [vI w2, vI w1, vR (o + 6 + 3 * K)], aq_h m s F c_8)) rfl rfl ?_
                refine am_E.call rfl rfl rfl (Nat.le_of_ble_eq_true rfl) (qn_X0_pair (by omega) hFd (by omega) (by omega) (by omega) (by omega)) ?_
                rintro r5 h5 ⟨rfl, rfl⟩
                show am_E _ (130, [vR o, vL w, vU, vI k, vI w1, vI w2], [], aq_h m s F (aq_u (aq_u c_8 (o + 6 + 3 * K) w1 w2) (o + 6 + 3 * K) w2 w1)) _
                generalize hdc_9 : aq_u c_8 (o + 6 + 3 * K) w1 w2 = c_9
                have sc_9 := aq_smu sc_8 hdc_9 hSd
                have hdrc_9 := aq_rgu hdrc_8 hdc_9 (by omega) (by omega)
                generalize hdc_10 : aq_u c_9 (o + 6 + 3 * K) w2 w1 = c_10
                have sc_10 := aq_smu sc_9 hdc_10 hSd
                have hdrc_10 := aq_rgu hdrc_9 hdc_10 (by omega) (by omega)
                refine ae_iinc rfl rfl (am_ri (by omega) (by omega)) ?_
                show am_E _ (133, [vR o, vL w, vU, vI (k + 1), vI w1, vI w2], [], aq_h m s F c_10) _
                refine am_E.go (t2 := (22, [vR o, vL w, vU, vI (k + 1), vI w1, vI w2], [], aq_h m s F c_10)) rfl rfl ?_
                exact qn_ofPairs_l ⟨hm, hn1, hn4, hK, hFo, hFd, hFs⟩ hSd hSs d (k + 1) (vI w1) (vI w2) c_10 sc_10 (by omega) (by omega) hdrc_10 (by omega)
              · refine am_E.go (t2 := (102, [vR o, vL w, vU, vI k, vI w1, vI w2], [vI (-1)], aq_h m s F c)) rfl rfl ?_
                refine am_E.ret rfl rfl ?_
                exact ⟨_, rfl, hs, ⟨_, rfl⟩, hr⟩

theorem qn_X0_ofPairs {m s : Nat} {F : aq_F} {c : aq_C} {S : Nat → Prop} {o n K : Nat} (hB : bx_0 m F o n K) (hSd : S (o + 6 + 3 * K)) (hSs : S (o + 7 + 3 * K)) {w : Int} (hr : aq_rg (o + 6 + 3 * K) (2 * (n : Int)) 0 (2 * (n : Int)) c) : am_E ac_X0_ofPairs (0, [vR o, vL w, vU, vU, vU, vU], [], aq_h m s F c) (aq_Z m s F S c (fun r d => aq_vi r ∧ aq_rg (o + 6 + 3 * K) (2 * (n : Int)) 0 (2 * (n : Int)) d)) := by
  obtain ⟨hm, hn1, hn4, hK, hFo, hFd, hFs⟩ := hB
  refine am_E.go (t2 := (1, [vR o, vL w, vU, vU, vU, vU], [vL w], aq_h m s F c)) rfl rfl ?_
  refine am_E.go (t2 := (3, [vR o, vL w, vU, vU, vU, vU], [vI 8, vL w], aq_h m s F c)) rfl rfl ?_
  refine am_E.go (t2 := (4, [vR o, vL w, vU, vU, vU, vU], [vR o, vI 8, vL w], aq_h m s F c)) rfl rfl ?_
  refine aq_gf (v := vI (n : Int)) rfl (by omega) hFo (by decide) rfl ?_
  show am_E _ (7, [vR o, vL w, vU, vU, vU, vU], [vI (n : Int), vI 8, vL w], aq_h m s F c) _
  refine ae_mul rfl (am_ri (by omega) (by omega)) ?_
  show am_E _ (8, [vR o, vL w, vU, vU, vU, vU], [vI (8 * (n : Int)), vL w], aq_h m s F c) _
  refine am_E.go (t2 := (9, [vR o, vL w, vU, vU, vU, vU], [vL (am_ushL w (8 * (n : Int)))], aq_h m s F c)) rfl rfl ?_
  refine am_E.go (t2 := (10, [vR o, vL w, vU, vU, vU, vU], [vL 0, vL (am_ushL w (8 * (n : Int)))], aq_h m s F c)) rfl rfl ?_
  have ez_1 := am_lcf (am_ushL w (8 * (n : Int))) 0
  refine am_E.go (t2 := (11, [vR o, vL w, vU, vU, vU, vU], [vI (if (am_ushL w (8 * (n : Int))) < 0 then -1 else if (am_ushL w (8 * (n : Int))) = 0 then 0 else 1)], aq_h m s F c)) rfl rfl ?_
  generalize (if (am_ushL w (8 * (n : Int))) < 0 then -1 else if (am_ushL w (8 * (n : Int))) = 0 then 0 else 1) = z_1 at ez_1 ⊢
  refine ae_if0 rfl (fun (q_2 : z_1 = 0) => ?_) (fun (q_2 : z_1 ≠ 0) => ?_)
  · refine am_E.go (t2 := (17, [vR o, vL w, vU, vU, vU, vU], [vR o], aq_h m s F c)) rfl rfl ?_
    refine aq_callv (y := 1) (as2 := []) (rest := []) rfl rfl (by decide) (Nat.le_of_ble_eq_true rfl) rfl rfl (Nat.le_of_ble_eq_true rfl) (by omega) hFo rfl (Nat.le_of_ble_eq_true rfl) (qn_X0_forgetSeen ⟨hm, hn1, hn4, hK, hFo, hFd, hFs⟩) ?_
    rintro r5 h5 ⟨c_3, rfl, sc_3, rfl, hzc_3⟩
    show am_E _ (20, [vR o, vL w, vU, vU, vU, vU], [], aq_h m s F c_3) _
    refine am_E.go (t2 := (21, [vR o, vL w, vU, vU, vU, vU], [vI 0], aq_h m s F c_3)) rfl rfl ?_
    refine am_E.go (t2 := (22, [vR o, vL w, vU, vI 0, vU, vU], [], aq_h m s F c_3)) rfl rfl ?_
    exact qn_ofPairs_l ⟨hm, hn1, hn4, hK, hFo, hFd, hFs⟩ hSd hSs 9 0 (vU) (vU) c_3 (aq_smt aq_sm0 (aq_smi sc_3 (fun a h => by rw [h]; exact hSs))) (by omega) (by omega) (aq_rgs hr sc_3 (by omega)) (by omega)
  · refine am_E.go (t2 := (15, [vR o, vL w, vU, vU, vU, vU], [vI (-1)], aq_h m s F c)) rfl rfl ?_
    refine am_E.ret rfl rfl ?_
    exact ⟨_, rfl, aq_sm0, ⟨_, rfl⟩, hr⟩
def hv_t (o n z : Nat) : Nat → aq_T := fun y => match y with
  | 0 => .inr (vI (n : Int))
  | 1 => .inr (vR (o + 9))
  | 2 => .inr (vR (o + 1))
  | 3 => .inr (vR (o + 2))
  | 4 => .inr (vR (o + 16))
  | 5 => .inr (vR (o + 17))
  | 6 => .inr (vI (z : Int))
  | _ => .inl 0
def hv_0 (m : Nat) (F : aq_F) (o n z : Nat) (tl : Int → Int) (th : Int → Int → Int) : Prop := o + 18 ≤ m ∧ 1 ≤ n ∧ n ≤ 4 ∧ z ≤ 6 ∧ F o = (12, 7, hv_t o n z) ∧ F (o + 1) = (0, 6, fun j => .inr (vI (tl (j : Int)))) ∧ F (o + 2) = (3, 6, fun j => aq_g 6 j (o + 3 + j)) ∧ (∀ j, j < 6 → F (o + 3 + j) = (0, 6, fun _ => .inl 0)) ∧ F (o + 9) = (3, 6, fun j => aq_g 6 j (o + 10 + j)) ∧ (∀ h, h < 6 → F (o + 10 + h) = (0, n, fun j => .inr (vI (th (h : Int) (j : Int))))) ∧ F (o + 16) = (0, n, fun _ => .inl 0) ∧ F (o + 17) = (1, n, fun _ => .inl 0) ∧ ∀ h p : Int, 0 ≤ h → h < 6 → 0 ≤ p → p < (n : Int) → 0 ≤ th h p ∧ th h p ≤ (n : Int)
theorem rn_J9_floorMod {a b : Int} (hb : b ≠ 0) (h : am_H) : am_E ac_J9_floorMod_7cf53 (0, [vI a, vI b, vU], [], h) (fun r h2 => h2 = h ∧ aq_vi r) := by
  refine am_E.go (t2 := (1, [vI a, vI b, vU], [vI a], h)) rfl rfl ?_
  refine am_E.go (t2 := (2, [vI a, vI b, vU], [vI b, vI a], h)) rfl rfl ?_
  refine ae_bin (z := a.tmod b) rfl rfl (am_rem_s hb) ?_
  generalize a.tmod b = v
  refine am_E.go (t2 := (4, [vI a, vI b, vI v], [], h)) rfl rfl ?_
  refine am_E.go (t2 := (5, [vI a, vI b, vI v], [vI a], h)) rfl rfl ?_
  refine am_E.go (t2 := (6, [vI a, vI b, vI v], [vI b, vI a], h)) rfl rfl ?_
  refine am_E.go (t2 := (7, [vI a, vI b, vI v], [vI (am_xor a b)], h)) rfl rfl ?_
  refine ae_if0 rfl (fun _ => ?_) (fun _ => ?_)
  · refine am_E.go (t2 := (19, [vI a, vI b, vI v], [vI v], h)) rfl rfl ?_
    exact am_E.ret rfl rfl ⟨rfl, _, rfl⟩
  · refine am_E.go (t2 := (11, [vI a, vI b, vI v], [vI v], h)) rfl rfl ?_
    refine ae_if0 rfl (fun _ => ?_) (fun _ => ?_)
    · refine am_E.go (t2 := (19, [vI a, vI b, vI v], [vI v], h)) rfl rfl ?_
      exact am_E.ret rfl rfl ⟨rfl, _, rfl⟩
    · refine am_E.go (t2 := (15, [vI a, vI b, vI v], [vI v], h)) rfl rfl ?_
      refine am_E.go (t2 := (16, [vI a, vI b, vI v], [vI b, vI v], h)) rfl rfl ?_
      refine am_E.go (t2 := (17, [vI a, vI b, vI v], [vI (am_w (v + b))], h)) rfl rfl ?_
      exact am_E.ret rfl rfl ⟨rfl, _, rfl⟩
