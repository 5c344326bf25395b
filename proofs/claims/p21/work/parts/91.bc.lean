/-! Boxes: listPairings, its loop. Printed by wip/p20/sx/gBC8.py. -/

theorem qb_list_l {m s : Nat} {F : aq_F} {c0 : aq_C} {o n K : Nat} (hB : bx_0 m F o n K) (hKn : (K : Int) = bx_K (n : Int)) (hPg : F (o + 1) = (3, K, fun j => aq_g K j (o + 2 + j))) (hPr : ∀ b, b < K → F (o + 2 + b) = (0, 2 * n, fun _ => .inl 0)) {ap : Nat} (hap : ap < m) (hFp : F ap = (0, n, fun _ => .inl 0)) (hn1a : o + 8 + 3 * K ≤ ap) : ∀ (d : Nat) (b : Int) (c : aq_C) (hs : aq_sm (fun a => a = o + 7 + 3 * K ∨ a = ap ∨ (o + 2 ≤ a ∧ a < o + 2 + K)) c0 c) (h0 : 0 ≤ b) (h1 : b ≤ (K : Int)) (hpv : b < (K : Int) → ∀ i, 0 ≤ i → i < (n : Int) → c ap i = dgm (n : Int) b i) (hdn : ∀ b2 i : Int, 0 ≤ b2 → b2 < b → 0 ≤ i → i < 2 * (n : Int) → c (o + 2 + b2.toNat) i = prt (n : Int) b2 i) (hd : (K : Int) - b < (d : Int)), am_E ac_X0_listPairings (9, [vR o, vR ap, vI b], [], aq_h m s F c) (aq_Z m s F (fun a => a = o + 7 + 3 * K ∨ a = ap ∨ (o + 2 ≤ a ∧ a < o + 2 + K)) c0 (fun r d => r = none ∧ ∀ b i : Int, 0 ≤ b → b < (K : Int) → 0 ≤ i → i < 2 * (n : Int) → d (o + 2 + b.toNat) i = prt (n : Int) b i))
  | 0, b, c, hs, h0, h1, hpv, hdn, hd => by exfalso; omega
  | d + 1, b, c, hs, h0, h1, hpv, hdn, hd => by
    obtain ⟨hm, hn1, hn4, hK, hFo, hFd, hFs⟩ := hB
    refine am_E.go (t2 := (10, [vR o, vR ap, vI b], [vI b], aq_h m s F c)) rfl rfl ?_
    refine am_E.go (t2 := (11, [vR o, vR ap, vI b], [vR o, vI b], aq_h m s F c)) rfl rfl ?_
    refine aq_gf (v := vI (K : Int)) rfl (by omega) hFo (by decide) rfl ?_
    show am_E _ (14, [vR o, vR ap, vI b], [vI (K : Int), vI b], aq_h m s F c) _
    refine ae_icmp rfl (fun (q_1 : (K : Int) ≤ b) => ?_) (fun (q_1 : b < (K : Int)) => ?_)
    · refine am_E.ret rfl rfl ?_
      exact ⟨_, rfl, hs, rfl, fun b2 i k0 k1 k2 k3 => hdn b2 i k0 (by omega) k2 k3⟩
    · refine am_E.go (t2 := (18, [vR o, vR ap, vI b], [vR o], aq_h m s F c)) rfl rfl ?_
      refine am_E.go (t2 := (19, [vR o, vR ap, vI b], [vR ap, vR o], aq_h m s F c)) rfl rfl ?_
      refine am_E.go (t2 := (20, [vR o, vR ap, vI b], [vR o, vR ap, vR o], aq_h m s F c)) rfl rfl ?_
      refine aq_gf (v := vR (o + 1)) rfl (by omega) hFo (by decide) rfl ?_
      show am_E _ (23, [vR o, vR ap, vI b], [vR (o + 1), vR ap, vR o], aq_h m s F c) _
      refine am_E.go (t2 := (24, [vR o, vR ap, vI b], [vI b, vR (o + 1), vR ap, vR o], aq_h m s F c)) rfl rfl ?_
      refine aq_al (ok := fun k => decide (3 ≤ k) && decide (k < 7)) (v := vR (o + 2 + b.toNat)) rfl rfl (by omega) hPg rfl (by omega) (by omega) (aq_gi (by omega)) ?_
      show am_E _ (25, [vR o, vR ap, vI b], [vR (o + 2 + b.toNat), vR ap, vR o], aq_h m s F c) _
      refine aq_callv (y := 3) (as2 := [vR ap, vR (o + 2 + b.toNat)]) (rest := []) rfl rfl (by decide) (Nat.le_of_ble_eq_true rfl) rfl rfl (Nat.le_of_ble_eq_true rfl) (by omega) hFo rfl (Nat.le_of_ble_eq_true rfl) (qb_pairBy (ap := ap) (ar := o + 2 + b.toNat) ⟨hm, hn1, hn4, hK, hFo, hFd, hFs⟩ hap hFp (by omega) (hPr _ (by omega)) (by omega) (by omega) (by omega) (b := b) (by omega) (by omega) (hpv (by omega))) ?_
      rintro r5 h5 ⟨c_1, rfl, s_1, rfl, r_1⟩
      show am_E _ (28, [vR o, vR ap, vI b], [], aq_h m s F c_1) _
      refine am_E.go (t2 := (29, [vR o, vR ap, vI b], [vR o], aq_h m s F c_1)) rfl rfl ?_
      refine am_E.go (t2 := (30, [vR o, vR ap, vI b], [vR ap, vR o], aq_h m s F c_1)) rfl rfl ?_
      refine aq_callv (y := 2) (as2 := [vR ap]) (rest := []) rfl rfl (by decide) (Nat.le_of_ble_eq_true rfl) rfl rfl (Nat.le_of_ble_eq_true rfl) (by omega) hFo rfl (Nat.le_of_ble_eq_true rfl) (qb_countUp (ap := ap) ⟨hm, hn1, hn4, hK, hFo, hFd, hFs⟩ hap hFp (v := dgm (n : Int) b) (fun i h5 h6 => by rw [s_1 ap (by omega)]; exact hpv (by omega) i h5 h6) (fun i _ _ => dgm_r (by omega) (by omega) (by omega) (by omega))) ?_
      rintro r5 h5 ⟨c_2, rfl, s_2, rfl, r_2⟩
      show am_E _ (33, [vR o, vR ap, vI b], [], aq_h m s F c_2) _
      refine ae_iinc rfl rfl (am_ri (by omega) (by omega)) ?_
      show am_E _ (36, [vR o, vR ap, vI (b + 1)], [], aq_h m s F c_2) _
      refine am_E.go (t2 := (9, [vR o, vR ap, vI (b + 1)], [], aq_h m s F c_2)) rfl rfl ?_
      exact qb_list_l ⟨hm, hn1, hn4, hK, hFo, hFd, hFs⟩ hKn hPg hPr hap hFp hn1a d (b + 1) c_2 (aq_smt (aq_smt hs (aq_smi s_1 (fun a h => by omega))) (aq_smi s_2 (fun a h => by omega))) (by omega) (by omega) (fun h9 i h5 h6 => by rw [r_2 i h5 h6]; exact cu_n (by omega) (by omega) (by omega) (by omega) h5 h6) (fun b2 i k0 k1 k2 k3 => by rw [s_2 _ (by omega)]; by_cases e : b2 = b; (rw [e]; exact r_1 i k2 k3); rw [s_1 _ (by omega)]; exact hdn b2 i k0 (by omega) k2 k3) (by omega)
