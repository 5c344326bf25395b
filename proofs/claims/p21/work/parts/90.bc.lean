/-! Boxes: pairBy, whole. Printed by wip/p20/sx/gBC7.py. -/

theorem qb_pairBy {m s : Nat} {F : aq_F} {c : aq_C} {o n K : Nat} (hB : bx_0 m F o n K) {ap ar : Nat} (hap : ap < m) (hFp : F ap = (0, n, fun _ => .inl 0)) (har : ar < m) (hFr : F ar = (0, 2 * n, fun _ => .inl 0)) (hn1a : ap ≠ o + 7 + 3 * K) (hn2a : ap ≠ ar) (hn3a : ar ≠ o + 7 + 3 * K) {b : Int} (hb0 : 0 ≤ b) (hbK : b < bx_K (n : Int)) (hpv : ∀ i, 0 ≤ i → i < (n : Int) → c ap i = dgm (n : Int) b i) : am_E ac_X0_pairBy (0, [vR o, vR ap, vR ar, vU, vU, vU], [], aq_h m s F c) (aq_Z m s F (fun a => a = o + 7 + 3 * K ∨ a = ar) c (fun r d => r = none ∧ ∀ i, 0 ≤ i → i < 2 * (n : Int) → d ar i = prt (n : Int) b i)) := by
  obtain ⟨hm, hn1, hn4, hK, hFo, hFd, hFs⟩ := hB
  refine am_E.go (t2 := (1, [vR o, vR ap, vR ar, vU, vU, vU], [vR o], aq_h m s F c)) rfl rfl ?_
  refine aq_callv (y := 1) (as2 := []) (rest := []) rfl rfl (by decide) (Nat.le_of_ble_eq_true rfl) rfl rfl (Nat.le_of_ble_eq_true rfl) (by omega) hFo rfl (Nat.le_of_ble_eq_true rfl) (qn_X0_forgetSeen ⟨hm, hn1, hn4, hK, hFo, hFd, hFs⟩) ?_
  rintro r5 h5 ⟨c_z, rfl, s_z, rfl, hz⟩
  show am_E _ (4, [vR o, vR ap, vR ar, vU, vU, vU], [], aq_h m s F c_z) _
  refine am_E.go (t2 := (5, [vR o, vR ap, vR ar, vU, vU, vU], [vI 0], aq_h m s F c_z)) rfl rfl ?_
  refine am_E.go (t2 := (6, [vR o, vR ap, vR ar, vI 0, vU, vU], [], aq_h m s F c_z)) rfl rfl ?_
  refine am_E.go (t2 := (7, [vR o, vR ap, vR ar, vI 0, vU, vU], [vI 0], aq_h m s F c_z)) rfl rfl ?_
  refine am_E.go (t2 := (9, [vR o, vR ap, vR ar, vI 0, vI 0, vU], [], aq_h m s F c_z)) rfl rfl ?_
  exact qb_pairBy_l ⟨hm, hn1, hn4, hK, hFo, hFd, hFs⟩ hap hFp har hFr hn1a hn2a hn3a hb0 hbK hpv 9 (fun _ => 0) 0 0 (vU) c_z (aq_smt (aq_sm0 (c := c) (S := (fun a => a = o + 7 + 3 * K ∨ a = ar))) (aq_smi s_z (fun a h => Or.inl h))) (by omega) (by omega) (by omega) (by omega) hz (fun i _ _ h7 => absurd h7 (by decide)) (pb_n (by omega) (by omega) hb0 hbK)
