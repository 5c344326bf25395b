/-! Boxes: letterAt, ofLetter, stackLetters in the constructor. Printed by wip/p20/sx/gBD.py. -/

theorem ol_1 : ∀ l : Nat, l < 14 → (l = 0 ∨ ((1 ≤ l ∧ l < 1) ∨ (11 ≤ l ∧ l < 10 + 1))) → 0 ≤ nu_o (bx_ol 1 (l : Int)) 2 9 0 0 1 ∧ nu_o (bx_ol 1 (l : Int)) 2 9 0 0 1 < 1 := by decide +kernel
theorem ol_2 : ∀ l : Nat, l < 14 → (l = 0 ∨ ((1 ≤ l ∧ l < 2) ∨ (11 ≤ l ∧ l < 10 + 2))) → 0 ≤ nu_o (bx_ol 2 (l : Int)) 4 9 0 0 3 ∧ nu_o (bx_ol 2 (l : Int)) 4 9 0 0 3 < 3 := by decide +kernel
theorem ol_3 : ∀ l : Nat, l < 14 → (l = 0 ∨ ((1 ≤ l ∧ l < 3) ∨ (11 ≤ l ∧ l < 10 + 3))) → 0 ≤ nu_o (bx_ol 3 (l : Int)) 6 9 0 0 5 ∧ nu_o (bx_ol 3 (l : Int)) 6 9 0 0 5 < 15 := by decide +kernel
theorem ol_4 : ∀ l : Nat, l < 14 → (l = 0 ∨ ((1 ≤ l ∧ l < 4) ∨ (11 ≤ l ∧ l < 10 + 4))) → 0 ≤ nu_o (bx_ol 4 (l : Int)) 8 9 0 0 7 ∧ nu_o (bx_ol 4 (l : Int)) 8 9 0 0 7 < 105 := by decide +kernel
theorem ol_n {n : Nat} {l : Int} (h1 : 1 ≤ n) (h4 : n ≤ 4) (hl : l = 0 ∨ ((1 ≤ l ∧ l < (n : Int)) ∨ (11 ≤ l ∧ l < 10 + (n : Int)))) : 0 ≤ nu_o (bx_ol n l) (2 * (n : Int)) 9 0 0 (2 * (n : Int) - 1) ∧ nu_o (bx_ol n l) (2 * (n : Int)) 9 0 0 (2 * (n : Int) - 1) < bx_K (n : Int) := by
  have el : ((l.toNat : Nat) : Int) = l := Int.toNat_of_nonneg (by omega)
  have h : n = 1 ∨ n = 2 ∨ n = 3 ∨ n = 4 := by omega
  rcases h with h | h | h | h <;> subst h
  · have := ol_1 l.toNat (by omega) (by omega)
    rw [el] at this
    exact this
  · have := ol_2 l.toNat (by omega) (by omega)
    rw [el] at this
    exact this
  · have := ol_3 l.toNat (by omega) (by omega)
    rw [el] at this
    exact this
  · have := ol_4 l.toNat (by omega) (by omega)
    rw [el] at this
    exact this
theorem fi_c {n : Int} {f g : Int → Int} (h : fi n g) (e : ∀ i, 0 ≤ i → i < 2 * n → f i = g i) : fi n f := by
  intro p h0 h1
  obtain ⟨k1, k2, k3, k4⟩ := h p h0 h1
  rw [e p h0 h1]
  exact ⟨k1, k2, k3, by rw [e _ k1 k2]; exact k4⟩
/-- beneath lies in range -/
def bx_nb (o n K : Nat) (c : aq_C) : Prop := ∀ b : Nat, b < K → ∀ k : Int, 0 ≤ k → k < 2 * (n : Int) - 2 → 0 ≤ c (o + 6 + 2 * K + b) k ∧ c (o + 6 + 2 * K + b) k < 5000 ∧ c (o + 6 + 2 * K + b) k % 1000 < (K : Int)
theorem bx_nu {o n K a : Nat} {i x : Int} {c d : aq_C} (h : bx_nb o n K c) (he : aq_u c a i x = d) (h0 : 0 ≤ x) (h1 : x < 5000) (h2 : x % 1000 < (K : Int)) : bx_nb o n K d := by
  intro b hb k k0 k1
  rw [← he]
  unfold aq_u
  split
  · exact ⟨h0, h1, h2⟩
  · exact h b hb k k0 k1
theorem bx_ns {S : Nat → Prop} {o n K : Nat} {c d : aq_C} (h : bx_nb o n K c) (hs : aq_sm S c d) (hS : ∀ b, b < K → ¬ S (o + 6 + 2 * K + b)) : bx_nb o n K d := by
  intro b hb k k0 k1
  rw [hs _ (hS b hb)]
  exact h b hb k k0 k1

theorem qb_letterAt {m s : Nat} {F : aq_F} {c : aq_C} {o n K : Nat} (hB : bx_0 m F o n K) {p : Int} (h0 : 0 ≤ p) (h1 : p < 2 * (n : Int) - 2) : am_E ac_X0_letterAt (0, [vR o, vI p], [], aq_h m s F c) (aq_P m s F c (fun r => ∃ v, r = some (vI v) ∧ ((1 ≤ v ∧ v < (n : Int)) ∨ (11 ≤ v ∧ v < 10 + (n : Int))))) := by
  obtain ⟨hm, hn1, hn4, hK, hFo, hFd, hFs⟩ := hB
  refine am_E.go (t2 := (1, [vR o, vI p], [vI p], aq_h m s F c)) rfl rfl ?_
  refine am_E.go (t2 := (2, [vR o, vI p], [vR o, vI p], aq_h m s F c)) rfl rfl ?_
  refine aq_gf (v := vI (n : Int)) rfl (by omega) hFo (by decide) rfl ?_
  show am_E _ (5, [vR o, vI p], [vI (n : Int), vI p], aq_h m s F c) _
  refine am_E.go (t2 := (6, [vR o, vI p], [vI 1, vI (n : Int), vI p], aq_h m s F c)) rfl rfl ?_
  refine ae_sub rfl (am_ri (by omega) (by omega)) ?_
  show am_E _ (7, [vR o, vI p], [vI ((n : Int) - 1), vI p], aq_h m s F c) _
  refine ae_icmp rfl (fun (q_1 : ((n : Int) - 1) ≤ p) => ?_) (fun (q_1 : p < ((n : Int) - 1)) => ?_)
  · refine am_E.go (t2 := (17, [vR o, vI p], [vI p], aq_h m s F c)) rfl rfl ?_
    refine am_E.go (t2 := (18, [vR o, vI p], [vR o, vI p], aq_h m s F c)) rfl rfl ?_
    refine aq_gf (v := vI (n : Int)) rfl (by omega) hFo (by decide) rfl ?_
    show am_E _ (21, [vR o, vI p], [vI (n : Int), vI p], aq_h m s F c) _
    refine am_E.go (t2 := (22, [vR o, vI p], [vI 1, vI (n : Int), vI p], aq_h m s F c)) rfl rfl ?_
    refine ae_sub rfl (am_ri (by omega) (by omega)) ?_
    show am_E _ (23, [vR o, vI p], [vI ((n : Int) - 1), vI p], aq_h m s F c) _
    refine ae_sub rfl (am_ri (by omega) (by omega)) ?_
    show am_E _ (24, [vR o, vI p], [vI (p - ((n : Int) - 1))], aq_h m s F c) _
    refine am_E.go (t2 := (26, [vR o, vI p], [vI 11, vI (p - ((n : Int) - 1))], aq_h m s F c)) rfl rfl ?_
    refine ae_add rfl (am_ri (by omega) (by omega)) ?_
    show am_E _ (27, [vR o, vI p], [vI ((p - ((n : Int) - 1)) + 11)], aq_h m s F c) _
    refine am_E.ret rfl rfl ?_
    exact ⟨rfl, _, rfl, by omega⟩
  · refine am_E.go (t2 := (11, [vR o, vI p], [vI p], aq_h m s F c)) rfl rfl ?_
    refine am_E.go (t2 := (12, [vR o, vI p], [vI 1, vI p], aq_h m s F c)) rfl rfl ?_
    refine ae_add rfl (am_ri (by omega) (by omega)) ?_
    show am_E _ (13, [vR o, vI p], [vI (p + 1)], aq_h m s F c) _
    refine am_E.go (t2 := (27, [vR o, vI p], [vI (p + 1)], aq_h m s F c)) rfl rfl ?_
    refine am_E.ret rfl rfl ?_
    exact ⟨rfl, _, rfl, by omega⟩

theorem qb_ofLetter {m s : Nat} {F : aq_F} {c : aq_C} {o n K : Nat} (hB : bx_0 m F o n K) (hKn : (K : Int) = bx_K (n : Int)) {l : Int} (hl : l = 0 ∨ ((1 ≤ l ∧ l < (n : Int)) ∨ (11 ≤ l ∧ l < 10 + (n : Int)))) (hr : aq_rg (o + 6 + 3 * K) (2 * (n : Int)) 0 (2 * (n : Int)) c) : am_E ac_X0_ofLetter (0, [vR o, vI l, vU], [], aq_h m s F c) (aq_Z m s F (fun a => a = o + 6 + 3 * K ∨ a = o + 7 + 3 * K) c (fun r d => aq_rg (o + 6 + 3 * K) (2 * (n : Int)) 0 (2 * (n : Int)) d ∧ ∃ v, r = some (vI v) ∧ 0 ≤ v ∧ v < (K : Int))) := by
  refine (qn_X0_ofLetter (S := fun a => a = o + 6 + 3 * K ∨ a = o + 7 + 3 * K) hB (Or.inl rfl) (Or.inr rfl) hr).imp ?_
  rintro r h2 ⟨d, e1, e2, e3, e4⟩
  rcases e4 with e4 | ⟨-, e5, e6⟩
  · exact absurd hl e4.1
  · have hb := ol_n hB.2.1 hB.2.2.1 hl
    have en := nu_oc (N := 2 * (n : Int)) e5 (fun i k0 k1 => by have := e3 i k0 k1; omega) 9 0 0 (2 * (n : Int) - 1) (by omega)
    rw [← en, ← hKn] at hb
    exact ⟨d, e1, e2, e3, _, e6, hb.1, hb.2⟩

theorem qb_stack_i {m s : Nat} {F : aq_F} {c0 : aq_C} {S : Nat → Prop} {o n K : Nat} (hB : bx_0 m F o n K) (hSd : S (o + 6 + 3 * K)) (hSs : S (o + 7 + 3 * K)) {tP : Int → Int → Int} (hP : bx_p F o n K tP) (hNg : F (o + 5 + 2 * K) = (3, K, fun j => aq_g K j (o + 6 + 2 * K + j))) (hNr : ∀ b, b < K → F (o + 6 + 2 * K + b) = (0, 2 * n - 2, fun _ => .inl 0)) (hSn : ∀ b, b < K → S (o + 6 + 2 * K + b)) (hKn : (K : Int) = bx_K (n : Int)) (hfi : ∀ x : Int, 0 ≤ x → x < (K : Int) → fi (n : Int) (tP ((x.toNat : Nat) : Int))) {k lo : Int} (hk0 : 0 ≤ k) (hk1 : k < 2 * (n : Int) - 2) (hl0 : 0 ≤ lo) (hl1 : lo < (K : Int)) : ∀ (d : Nat) (b : Int) (c : aq_C) (hs : aq_sm S c0 c) (h0 : 0 ≤ b) (h1 : b ≤ (K : Int)) (hr : aq_rg (o + 6 + 3 * K) (2 * (n : Int)) 0 (2 * (n : Int)) c) (hn : bx_nb o n K c) (hd : (K : Int) - b < (d : Int)) (K0 : ∀ (b2 : Int) (c2 : aq_C) (hs2 : aq_sm S c0 c2) (hr2 : aq_rg (o + 6 + 3 * K) (2 * (n : Int)) 0 (2 * (n : Int)) c2) (hn2 : bx_nb o n K c2), am_E ac_X0_stackLetters (60, [vR o, vI k, vI lo, vI b2], [], aq_h m s F c2) (aq_Z m s F S c0 (fun r d => r = none ∧ aq_rg (o + 6 + 3 * K) (2 * (n : Int)) 0 (2 * (n : Int)) d ∧ bx_nb o n K d))), am_E ac_X0_stackLetters (22, [vR o, vI k, vI lo, vI b], [], aq_h m s F c) (aq_Z m s F S c0 (fun r d => r = none ∧ aq_rg (o + 6 + 3 * K) (2 * (n : Int)) 0 (2 * (n : Int)) d ∧ bx_nb o n K d))
  | 0, b, c, hs, h0, h1, hr, hn, hd, K0 => by exfalso; omega
  | d + 1, b, c, hs, h0, h1, hr, hn, hd, K0 => by
    obtain ⟨hm, hn1, hn4, hK, hFo, hFd, hFs⟩ := hB
    obtain ⟨hPg, hPr, hPt⟩ := hP
    refine am_E.go (t2 := (23, [vR o, vI k, vI lo, vI b], [vI b], aq_h m s F c)) rfl rfl ?_
    refine am_E.go (t2 := (24, [vR o, vI k, vI lo, vI b], [vR o, vI b], aq_h m s F c)) rfl rfl ?_
    refine aq_gf (v := vI (K : Int)) rfl (by omega) hFo (by decide) rfl ?_
    show am_E _ (27, [vR o, vI k, vI lo, vI b], [vI (K : Int), vI b], aq_h m s F c) _
    refine ae_icmp rfl (fun (q_1 : (K : Int) ≤ b) => ?_) (fun (q_1 : b < (K : Int)) => ?_)
    · exact K0 b c hs hr hn
    · refine am_E.go (t2 := (31, [vR o, vI k, vI lo, vI b], [vR o], aq_h m s F c)) rfl rfl ?_
      refine aq_gf (v := vR (o + 5 + 2 * K)) rfl (by omega) hFo (by decide) rfl ?_
      show am_E _ (34, [vR o, vI k, vI lo, vI b], [vR (o + 5 + 2 * K)], aq_h m s F c) _
      refine am_E.go (t2 := (35, [vR o, vI k, vI lo, vI b], [vI b, vR (o + 5 + 2 * K)], aq_h m s F c)) rfl rfl ?_
      refine aq_al (ok := fun k => decide (3 ≤ k) && decide (k < 7)) (v := vR (o + 6 + 2 * K + b.toNat)) rfl rfl (by omega) hNg rfl (by omega) (by omega) (aq_gi (by omega)) ?_
      show am_E _ (36, [vR o, vI k, vI lo, vI b], [vR (o + 6 + 2 * K + b.toNat)], aq_h m s F c) _
      refine am_E.go (t2 := (37, [vR o, vI k, vI lo, vI b], [vI k, vR (o + 6 + 2 * K + b.toNat)], aq_h m s F c)) rfl rfl ?_
      refine am_E.go (t2 := (38, [vR o, vI k, vI lo, vI b], [vR o, vI k, vR (o + 6 + 2 * K + b.toNat)], aq_h m s F c)) rfl rfl ?_
      refine am_E.go (t2 := (39, [vR o, vI k, vI lo, vI b], [vR o, vR o, vI k, vR (o + 6 + 2 * K + b.toNat)], aq_h m s F c)) rfl rfl ?_
      refine aq_gf (v := vR (o + 1)) rfl (by omega) hFo (by decide) rfl ?_
      show am_E _ (42, [vR o, vI k, vI lo, vI b], [vR (o + 1), vR o, vI k, vR (o + 6 + 2 * K + b.toNat)], aq_h m s F c) _
      refine am_E.go (t2 := (43, [vR o, vI k, vI lo, vI b], [vI b, vR (o + 1), vR o, vI k, vR (o + 6 + 2 * K + b.toNat)], aq_h m s F c)) rfl rfl ?_
      refine aq_al (ok := fun k => decide (3 ≤ k) && decide (k < 7)) (v := vR (o + 2 + b.toNat)) rfl rfl (by omega) hPg rfl (by omega) (by omega) (aq_gi (by omega)) ?_
      show am_E _ (44, [vR o, vI k, vI lo, vI b], [vR (o + 2 + b.toNat), vR o, vI k, vR (o + 6 + 2 * K + b.toNat)], aq_h m s F c) _
      refine am_E.go (t2 := (45, [vR o, vI k, vI lo, vI b], [vR o, vR (o + 2 + b.toNat), vR o, vI k, vR (o + 6 + 2 * K + b.toNat)], aq_h m s F c)) rfl rfl ?_
      refine aq_gf (v := vR (o + 1)) rfl (by omega) hFo (by decide) rfl ?_
      show am_E _ (48, [vR o, vI k, vI lo, vI b], [vR (o + 1), vR (o + 2 + b.toNat), vR o, vI k, vR (o + 6 + 2 * K + b.toNat)], aq_h m s F c) _
      refine am_E.go (t2 := (49, [vR o, vI k, vI lo, vI b], [vI lo, vR (o + 1), vR (o + 2 + b.toNat), vR o, vI k, vR (o + 6 + 2 * K + b.toNat)], aq_h m s F c)) rfl rfl ?_
      refine aq_al (ok := fun k => decide (3 ≤ k) && decide (k < 7)) (v := vR (o + 2 + lo.toNat)) rfl rfl (by omega) hPg rfl (by omega) (by omega) (aq_gi (by omega)) ?_
      show am_E _ (50, [vR o, vI k, vI lo, vI b], [vR (o + 2 + lo.toNat), vR (o + 2 + b.toNat), vR o, vI k, vR (o + 6 + 2 * K + b.toNat)], aq_h m s F c) _
      refine aq_callv (y := 3) (as2 := [vR (o + 2 + b.toNat), vR (o + 2 + lo.toNat)]) (rest := [vI k, vR (o + 6 + 2 * K + b.toNat)]) rfl rfl (by decide) (Nat.le_of_ble_eq_true rfl) rfl rfl (Nat.le_of_ble_eq_true rfl) (by omega) hFo rfl (Nat.le_of_ble_eq_true rfl) (qb_join (S := (fun a => a = o + 6 + 3 * K ∨ a = o + 7 + 3 * K)) ⟨hm, hn1, hn4, hK, hFo, hFd, hFs⟩ (Or.inl rfl) (Or.inr rfl) ⟨hPg, hPr, hPt⟩ (x := b) (y := lo) (by omega) (by omega) (by omega) (by omega) (hfi b (by omega) (by omega)) (hfi lo (by omega) (by omega)) hKn hr) ?_
      rintro r5 h5 ⟨c_2, rfl, sc_2, hrc_2, vc_2, rfl, hv0c_2, hv1c_2, hv2c_2⟩
      show am_E _ (53, [vR o, vI k, vI lo, vI b], [vI vc_2, vI k, vR (o + 6 + 2 * K + b.toNat)], aq_h m s F c_2) _
      refine aq_as (kd := 0) rfl rfl (by omega) (hNr _ (by omega)) (by omega) (by omega) rfl rfl ?_
      show am_E _ (54, [vR o, vI k, vI lo, vI b], [], aq_h m s F (aq_u c_2 (o + 6 + 2 * K + b.toNat) k vc_2)) _
      generalize hdc_3 : aq_u c_2 (o + 6 + 2 * K + b.toNat) k vc_2 = c_3
      have sc_3 := aq_smu (aq_smt hs (aq_smi sc_2 (fun a h => by rcases h with h | h <;> (rw [h]; assumption)))) hdc_3 (hSn _ (by omega))
      have hdrc_3 := aq_rgn hrc_2 hdc_3 (by omega)
      have hnbc_3 := bx_nu (bx_ns hn sc_2 (fun b hb => by omega)) hdc_3 (by omega) (by omega) (by omega)
      refine ae_iinc rfl rfl (am_ri (by omega) (by omega)) ?_
      show am_E _ (57, [vR o, vI k, vI lo, vI (b + 1)], [], aq_h m s F c_3) _
      refine am_E.go (t2 := (22, [vR o, vI k, vI lo, vI (b + 1)], [], aq_h m s F c_3)) rfl rfl ?_
      exact qb_stack_i ⟨hm, hn1, hn4, hK, hFo, hFd, hFs⟩ hSd hSs ⟨hPg, hPr, hPt⟩ hNg hNr hSn hKn hfi hk0 hk1 hl0 hl1 d (b + 1) c_3 sc_3 (by omega) (by omega) hdrc_3 hnbc_3 (by omega) K0

theorem qb_stack_o {m s : Nat} {F : aq_F} {c0 : aq_C} {S : Nat → Prop} {o n K : Nat} (hB : bx_0 m F o n K) (hSd : S (o + 6 + 3 * K)) (hSs : S (o + 7 + 3 * K)) {tP : Int → Int → Int} (hP : bx_p F o n K tP) (hNg : F (o + 5 + 2 * K) = (3, K, fun j => aq_g K j (o + 6 + 2 * K + j))) (hNr : ∀ b, b < K → F (o + 6 + 2 * K + b) = (0, 2 * n - 2, fun _ => .inl 0)) (hSn : ∀ b, b < K → S (o + 6 + 2 * K + b)) (hKn : (K : Int) = bx_K (n : Int)) (hfi : ∀ x : Int, 0 ≤ x → x < (K : Int) → fi (n : Int) (tP ((x.toNat : Nat) : Int))) : ∀ (d : Nat) (k : Int) (v2 : am_V) (v3 : am_V) (c : aq_C) (hs : aq_sm S c0 c) (h0 : 0 ≤ k) (h1 : k ≤ 2 * (n : Int) - 2) (hr : aq_rg (o + 6 + 3 * K) (2 * (n : Int)) 0 (2 * (n : Int)) c) (hn : bx_nb o n K c) (hd : 2 * (n : Int) - 2 - k < (d : Int)), am_E ac_X0_stackLetters (2, [vR o, vI k, v2, v3], [], aq_h m s F c) (aq_Z m s F S c0 (fun r d => r = none ∧ aq_rg (o + 6 + 3 * K) (2 * (n : Int)) 0 (2 * (n : Int)) d ∧ bx_nb o n K d))
  | 0, k, v2, v3, c, hs, h0, h1, hr, hn, hd => by exfalso; omega
  | d + 1, k, v2, v3, c, hs, h0, h1, hr, hn, hd => by
    obtain ⟨hm, hn1, hn4, hK, hFo, hFd, hFs⟩ := hB
    obtain ⟨hPg, hPr, hPt⟩ := hP
    refine am_E.go (t2 := (3, [vR o, vI k, v2, v3], [vI k], aq_h m s F c)) rfl rfl ?_
    refine am_E.go (t2 := (4, [vR o, vI k, v2, v3], [vR o, vI k], aq_h m s F c)) rfl rfl ?_
    refine aq_gf (v := vI (2 * (n : Int) - 2)) rfl (by omega) hFo (by decide) rfl ?_
    show am_E _ (7, [vR o, vI k, v2, v3], [vI (2 * (n : Int) - 2), vI k], aq_h m s F c) _
    refine ae_icmp rfl (fun (q_1 : (2 * (n : Int) - 2) ≤ k) => ?_) (fun (q_1 : k < (2 * (n : Int) - 2)) => ?_)
    · refine am_E.ret rfl rfl ?_
      exact ⟨_, rfl, hs, rfl, hr, hn⟩
    · refine am_E.go (t2 := (11, [vR o, vI k, v2, v3], [vR o], aq_h m s F c)) rfl rfl ?_
      refine am_E.go (t2 := (12, [vR o, vI k, v2, v3], [vR o, vR o], aq_h m s F c)) rfl rfl ?_
      refine am_E.go (t2 := (13, [vR o, vI k, v2, v3], [vI k, vR o, vR o], aq_h m s F c)) rfl rfl ?_
      refine aq_callv (y := 2) (as2 := [vI k]) (rest := [vR o]) rfl rfl (by decide) (Nat.le_of_ble_eq_true rfl) rfl rfl (Nat.le_of_ble_eq_true rfl) (by omega) hFo rfl (Nat.le_of_ble_eq_true rfl) (qb_letterAt ⟨hm, hn1, hn4, hK, hFo, hFd, hFs⟩ (by omega) (by omega)) ?_
      rintro r5 h5 ⟨rfl, v_2, rfl, hv_2⟩
      show am_E _ (16, [vR o, vI k, v2, v3], [vI v_2, vR o], aq_h m s F c) _
      refine aq_callv (y := 2) (as2 := [vI v_2]) (rest := []) rfl rfl (by decide) (Nat.le_of_ble_eq_true rfl) rfl rfl (Nat.le_of_ble_eq_true rfl) (by omega) hFo rfl (Nat.le_of_ble_eq_true rfl) (qb_ofLetter ⟨hm, hn1, hn4, hK, hFo, hFd, hFs⟩ hKn (by omega) hr) ?_
      rintro r5 h5 ⟨c_3, rfl, sc_3, hrc_3, vc_3, rfl, hv0c_3, hv1c_3⟩
      show am_E _ (19, [vR o, vI k, v2, v3], [vI vc_3], aq_h m s F c_3) _
      refine am_E.go (t2 := (20, [vR o, vI k, vI vc_3, v3], [], aq_h m s F c_3)) rfl rfl ?_
      refine am_E.go (t2 := (21, [vR o, vI k, vI vc_3, v3], [vI 0], aq_h m s F c_3)) rfl rfl ?_
      refine am_E.go (t2 := (22, [vR o, vI k, vI vc_3, vI 0], [], aq_h m s F c_3)) rfl rfl ?_
      refine qb_stack_i ⟨hm, hn1, hn4, hK, hFo, hFd, hFs⟩ hSd hSs ⟨hPg, hPr, hPt⟩ hNg hNr hSn hKn hfi (by omega) (by omega) (by omega) (by omega) 106 0 c_3 (aq_smt hs (aq_smi sc_3 (fun a h => by rcases h with h | h <;> (rw [h]; assumption)))) (by omega) (by omega) hrc_3 (bx_ns hn sc_3 (fun b hb => by omega)) (by omega) ?_
      · intro b2_22 c_4 sc_4 hr2_22 hn2_22
        refine ae_iinc rfl rfl (am_ri (by omega) (by omega)) ?_
        show am_E _ (63, [vR o, vI (k + 1), vI vc_3, vI b2_22], [], aq_h m s F c_4) _
        refine am_E.go (t2 := (2, [vR o, vI (k + 1), vI vc_3, vI b2_22], [], aq_h m s F c_4)) rfl rfl ?_
        exact qb_stack_o ⟨hm, hn1, hn4, hK, hFo, hFd, hFs⟩ hSd hSs ⟨hPg, hPr, hPt⟩ hNg hNr hSn hKn hfi d (k + 1) (vI vc_3) (vI b2_22) c_4 sc_4 (by omega) (by omega) hr2_22 hn2_22 (by omega)

theorem qb_stackLetters {m s : Nat} {F : aq_F} {c : aq_C} {S : Nat → Prop} {o n K : Nat} (hB : bx_0 m F o n K) (hSd : S (o + 6 + 3 * K)) (hSs : S (o + 7 + 3 * K)) {tP : Int → Int → Int} (hP : bx_p F o n K tP) (hNg : F (o + 5 + 2 * K) = (3, K, fun j => aq_g K j (o + 6 + 2 * K + j))) (hNr : ∀ b, b < K → F (o + 6 + 2 * K + b) = (0, 2 * n - 2, fun _ => .inl 0)) (hSn : ∀ b, b < K → S (o + 6 + 2 * K + b)) (hKn : (K : Int) = bx_K (n : Int)) (hfi : ∀ x : Int, 0 ≤ x → x < (K : Int) → fi (n : Int) (tP ((x.toNat : Nat) : Int))) (hr : aq_rg (o + 6 + 3 * K) (2 * (n : Int)) 0 (2 * (n : Int)) c) (hn : bx_nb o n K c) : am_E ac_X0_stackLetters (0, [vR o, vU, vU, vU], [], aq_h m s F c) (aq_Z m s F S c (fun r d => r = none ∧ aq_rg (o + 6 + 3 * K) (2 * (n : Int)) 0 (2 * (n : Int)) d ∧ bx_nb o n K d)) := by
  obtain ⟨hm, hn1, hn4, hK, hFo, hFd, hFs⟩ := hB
  obtain ⟨hPg, hPr, hPt⟩ := hP
  refine am_E.go (t2 := (1, [vR o, vU, vU, vU], [vI 0], aq_h m s F c)) rfl rfl ?_
  refine am_E.go (t2 := (2, [vR o, vI 0, vU, vU], [], aq_h m s F c)) rfl rfl ?_
  exact qb_stack_o ⟨hm, hn1, hn4, hK, hFo, hFd, hFs⟩ hSd hSs ⟨hPg, hPr, hPt⟩ hNg hNr hSn hKn hfi 9 0 (vU) (vU) c aq_sm0 (by omega) (by omega) hr hn (by omega)
