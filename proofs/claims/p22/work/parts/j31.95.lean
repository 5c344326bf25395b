/-! Boxes: letterAt, ofLetter, stackLetters in the constructor. Printed by wip/p20/sx/gBD.py. -/

theorem ol_1 : ∀ l : Nat, l < 14 → (l = 0 ∨ ((1 ≤ l ∧ l < 1) ∨ (11 ≤ l ∧ l < 10 + 1))) → 0 ≤ nu_o (bx_ol 1 (l : Int)) 2 9 0 0 1 ∧ nu_o (bx_ol 1 (l : Int)) 2 9 0 0 1 < 1 := by decide +kernel
theorem ol_2 : ∀ l : Nat, l < 14 → (l = 0 ∨ ((1 ≤ l ∧ l < 2) ∨ (11 ≤ l ∧ l < 10 + 2))) → 0 ≤ nu_o (bx_ol 2 (l : Int)) 4 9 0 0 3 ∧ nu_o (bx_ol 2 (l : Int)) 4 9 0 0 3 < 3 := by decide +kernel
theorem ol_3 : ∀ l : Nat, l < 14 → (l = 0 ∨ ((1 ≤ l ∧ l < 3) ∨ (11 ≤ l ∧ l < 10 + 3))) → 0 ≤ nu_o (bx_ol 3 (l : Int)) 6 9 0 0 5 ∧ nu_o (bx_ol 3 (l : Int)) 6 9 0 0 5 < 15 := by decide +kernel
theorem ol_4 : ∀ l : Nat, l < 14 → (l = 0 ∨ ((1 ≤ l ∧ l < 4) ∨ (11 ≤ l ∧ l < 10 + 4))) → 0 ≤ nu_o (bx_ol 4 (l : Int)) 8 9 0 0 7 ∧ nu_o (bx_ol 4 (l : Int)) 8 9 0 0 7 < 105 := by decide +kernel
theorem ol_n {n : Nat} {l : Int} (h1 : 1 ≤ n) (h4 : n ≤ 4) (hl : l = 0 ∨ ((1 ≤ l ∧ l < (n : Int)) ∨ (11 ≤ l ∧ l < 10 + (n : Int)))) : 0 ≤ nu_o (bx_ol n l) (2 * (n : Int)) 9 0 0 (2 * (n : Int) - 1) ∧ nu_o (bx_ol n l) (2 * (n : Int)) 9 0 0 (2 * (n : Int) - 1) < bx_K (n : Int) := by
  have el : ((l.toNat : Nat) : Int) = l := Int.toNat_of_nonneg (by omega)
  have h : n = 1 ∨ n = 2 ∨ n = 3 ∨ n = 4 := by omega
  rcases h with h | h | h | h <;> subst h
  · have := ol_1 l.toNat (by omega) (by omega)
    rw [el] at this
    exact this
  · have := ol_2 l.toNat (by omega) (by omega)
    rw [el] at this
    exact this
  · have := ol_3 l.toNat (by omega) (by omega)
    rw [el] at this
    exact this
  · have := ol_4 l.toNat (by omega) (by omega)
    rw [el] at this
    exact this
theorem fi_c {n : Int} {f g : Int → Int} (h : fi n g) (e : ∀ i, 0 ≤ i → i < 2 * n → f i = g i) : fi n f := by
  intro p h0 h1
  obtain ⟨k1, k2, k3, k4⟩ := h p h0 h1
  rw [e p h0 h1]
  exact ⟨k1, k2, k3, by rw [e _ k1 k2]; exact k4⟩
/-- beneath lies in range -/
def bx_nb (o n K : Nat) (c : aq_C) : Prop := ∀ b : Nat, b < K → ∀ k : Int, 0 ≤ k → k < 2 * (n : Int) - 2 → 0 ≤ c (o + 6 + 2 * K + b) k ∧ c (o + 6 + 2 * K + b) k < 5000 ∧ c (o + 6 + 2 * K + b) k % 1000 < (K : Int)
theorem bx_nu {o n K a : Nat} {i x : Int} {c d : aq_C} (h : bx_nb o n K c) (he : aq_u c a i x = d) (h0 : 0 ≤ x) (h1 : x < 5000) (h2 : x % 1000 < (K : Int)) : bx_nb o n K d := by
  intro b hb k k0 k1
  rw [← he]
  unfold aq_u
  split
  · exact ⟨h0, h1, h2⟩
  · exact h b hb k k0 k1
theorem bx_ns {S : Nat → Prop} {o n K : Nat} {c d : aq_C} (h : bx_nb o n K c) (hs : aq_sm S c d) (hS : ∀ b, b < K → ¬ S (o + 6 + 2 * K + b)) : bx_nb o n K d := by
  intro b hb k k0 k1
  rw [hs _ (hS b hb)]
  exact h b hb k k0 k1

theorem qb_letterAt {m s : Nat} {F : aq_F} {c : aq_C} {o n K : Nat} (hB : bx_0 m F o n K) {p : Int} (h0 : 0 ≤ p) (h1 : p < 2 * (n : Int) - 2) : am_E ac_X0_letterAt (0, [vR o, vI p], [], aq_h m s F c) (aq_P m s F c (fun r => ∃ v, r = some (vI v) ∧ ((1 ≤ v ∧ v < (n : Int)) ∨ (11 ≤ v ∧ v < 10 + (n : Int))))) := by
  obtain ⟨hm, hn1, hn4, hK, hFo, hFd, hFs⟩ := hB
  refine am_E.go (t2 := (1, [vR o, vI p], [vI p], aq_h m s F c)) rfl rfl ?_
  refine am_E.go (t2 := (2, [vR o, vI p], [vR o, vI p], aq_h m s F c)) rfl rfl ?_
  refine aq_gf (v := vI (n : Int)) rfl (by omega) hFo (by decide) rfl ?_
  show am_E _ (5, [vR o, vI p], [vI (n : Int), vI p], aq_h m s F c) _
  refine am_E.go (t2 := (6, [vR o, vI p], [vI 1, vI (n : Int), vI p], aq_h m s F c)) rfl rfl ?_
  refine ae_sub rfl (am_ri (by omega) (by omega)) ?_
  show am_E _ (7, [vR o, vI p], [vI ((n : Int) - 1), vI p], aq_h m s F c) _
  refine ae_icmp rfl (fun (q_1 : ((n : Int) - 1) ≤ p) => ?_) (fun (q_1 : p < ((n : Int) - 1)) => ?_)
  · refine am_E.go (t2 := (17, [vR o, vI p], [vI p], aq_h m s F c)) rfl rfl ?_
    refine am_E.go (t2 := (18, [vR o, vI p], [vR o, vI p], aq_h m s F c)) rfl rfl ?_
    refine aq_gf (v := vI (n : Int)) rfl (by omega) hFo (by decide) rfl ?_
    show am_E _ (21, [vR o, vI p], [vI (n : Int), vI p], aq_h m s F c) _
    refine am_E.go (t2 := (22, [vR o, vI p], [vI 1, vI (n : Int), vI p], aq_h m s F c)) rfl rfl ?_
    refine ae_sub rfl (am_ri (by omega) (by omega)) ?_
    show am_E _ (23, [vR o, vI p], [vI ((n : Int) - 1), vI p], aq_h m s F c) _
    refine ae_sub rfl (am_ri (by omega) (by omega)) ?_
    show am_E _ (24, [vR o, vI p], [vI (p - ((n : Int) - 1))], aq_h m s F c) _
    refine am_E.go (t2 := (26, [vR o, vI p], [vI 11, vI (p - ((n : Int) - 1))], aq_h m s F c)) rfl rfl ?_
    refine ae_add rfl (am_ri (by omega) (by omega)) ?_
    show am_E _ (27, [vR o, vI p], [vI ((p - ((n : Int) - 1)) + 11)], aq_h m s F c) _
    refine am_E.ret rfl rfl ?_
    exact ⟨rfl, _, rfl, by omega⟩
  · refine am_E.go (t2 := (11, [vR o, vI p], [vI p], aq_h m s F c)) rfl rfl ?_
    refine am_E.go (t2 := (12, [vR o, vI p], [vI 1, vI p], aq_h m s F c)) rfl rfl ?_
    refine ae_add rfl (am_ri (by omega) (by omega)) ?_
    show am_E _ (13, [vR o, vI p], [vI (p + 1)], aq_h m s F c) _
    refine am_E.go (t2 := (27, [vR o, vI p], [vI (p + 1)], aq_h m s F c)) rfl rfl ?_
    refine am_E.ret rfl rfl ?_
    exact ⟨rfl, _, rfl, by omega⟩

theorem qb_ofLetter {m s : Nat} {F : aq_F} {c : aq_C} {o n K : Nat} (hB : bx_0 m F o n K) (hKn : (K : Int) = bx_K (n : Int)) {l : Int} (hl : l = 0 ∨ ((1 ≤ l ∧ l < (n : Int)) ∨ (11 ≤ l ∧ l < 10 + (n : Int)))) (hr : aq_rg (o + 6 + 3 * K) (2 * (n : Int)) 0 (2 * (n : Int)) c) : am_E ac_X0_ofLetter (0, [vR o, vI l, vU], [], aq_h m s F c) (aq_Z m s F (fun a => a = o + 6 + 3 * K ∨ a = o + 7 + 3 * K) c (fun r d => aq_rg (o + 6 + 3 * K) (2 * (n : Int)) 0 (2 * (n : Int)) d ∧ ∃ v, r = some (vI v) ∧ 0 ≤ v ∧ v < (K : Int))) := by
  refine (qn_X0_ofLetter (S := fun a => a = o + 6 + 3 * K ∨ a = o + 7 + 3 * K) hB (Or.inl rfl) (Or.inr rfl) hr).imp ?_
  rintro r h2 ⟨d, e1, e2, e3, e4⟩
  rcases e4 with e4 | ⟨-, e5, e6⟩
  · exact absurd hl e4.1
  · have hb := ol_n hB.2.1 hB.2.2.1 hl
    have en := nu_oc (N := 2 * (n : Int)) e5 (fun i k0 k1 => by have := e3 i k0 k1; omega) 9 0 0 (2 * (n : Int) - 1) (by omega)
    rw [← en, ← hKn] at hb
    exact ⟨d, e1, e2, e3, _, e6, hb.1, hb.2⟩

theorem qb_stack_i {m s : Nat} {F : aq_F} {c0 : aq_C} {S : Nat → Prop} {o n K : Nat} (hB : bx_0 m F o n K) (hSd : S (o + 6 + 3 * K)) (hSs : S (o + 7 + 3 * K)) {tP : Int → Int → Int} (hP : bx_p F o n K tP) (hNg : F (o + 5 + 2 * K) = (3, K, fun j => aq_g K j (o + 6 + 2 * K + j))) (hNr : ∀ b, b < K → F (o + 6 + 2 * K + b) = (0, 2 * n - 2, fun _ => .inl 0)) (hSn : ∀ b, b < K → S (o + 6 + 2 * K + b)) (hKn : (K : Int) = bx_K (n : Int)) (hfi : ∀ x : Int, 0 ≤ x → x < (K : Int) → fi (n : Int) (tP ((x.toNat : Nat) : Int))) {k lo : Int} (hk0 : 0 ≤ k) (hk1 : k < 2 * (n : Int) - 2) (hl0 : 0 ≤ lo) (hl1 : lo < (K : Int)) : ∀ (d : Nat) (b : Int) (c : aq_C) (hs : aq_sm S c0 c) (h0 : 0 ≤ b) (h1 : b ≤ (K : Int)) (hr : aq_rg (o + 6 + 3 * K) (2 * (n : Int)) 0 (2 * (n : Int)) c) (hn : bx_nb o n K c) (hd : (K : Int) - b < (d : Int)) (K0 : ∀ (b2 : Int) (c2 : aq_C) (hs2 : aq_sm S c0 c2) (hr2 : aq_rg (o + 6 + 3 * K) (2 * (n : Int)) 0 (2 * (n : Int)) c2) (hn2 : bx_nb o n K c2), am_E ac_X0_stackLetters (60, [vR o, vI k, vI lo, vI b2], [], aq_h m s F c2) (aq_Z m s F S c0 (fun r d => r = none ∧ aq_rg (o + 6 + 3 * K) (2 * (n : Int)) 0 (2 * (n : Int)) d ∧ bx_nb o n K d))), am_E ac_X0_stackLetters (22, [vR o, vI k, vI lo, vI b], [], aq_h m s F c) (aq_Z m s F S c0 (fun r d => r = none ∧ aq_rg (o + 6 + 3 * K) (2 * (n : Int)) 0 (2 * (n : Int)) d ∧ bx_nb o n K d))
  | 0, b, c, hs, h0, h1, hr, hn, hd, K0 => by exfalso; omega
  | d + 1, b, c, hs, h0, h1, hr, hn, hd, K0 => by
    obtain ⟨hm, hn1, hn4, hK, hFo, hFd, hFs⟩ := hB
    obtain ⟨hPg, hPr, hPt⟩ := hP
    refine am_E.go (t2 := (23, [vR o, vI k, vI lo, vI b], [vI b], aq_h m s F c)) rfl rfl ?_
    refine am_E.go (t2 := (24, [vR o, vI k, vI lo, vI b], [vR o, vI b], aq_h m s F c)) rfl rfl ?_
    refine aq_gf (v := vI (K : Int)) rfl (by omega) hFo (by decide) rfl ?_
    show am_E _ (27, [vR o, vI k, vI lo, vI b], [vI (K : Int), vI b], aq_h m s F c) _
    refine ae_icmp rfl (fun (q_1 : (K : Int) ≤ b) => ?_) (fun (q_1 : b < (K : Int)) => ?_)
    · exact K0 b c hs hr hn
    · refine am_E.go (t2 := (31, [vR o, vI k, vI lo, vI b], [vR o], aq_h m s F c)) rfl rfl ?_
      refine aq_gf (v := vR (o + 5 + 2 * K)) rfl (by omega) hFo (by decide) rfl ?_
      show am_E _ (34, [vR o, vI k, vI lo, vI b], [vR (o + 5 + 2 * K)], aq_h m s F c) _
      refine am_E.go (t2 := (35, [vR o, vI k, vI lo, vI b], [vI b, vR (o + 5 + 2 * K)], aq_h m s F c)) rfl rfl ?_
      refine aq_al (ok := fun k => decide (3 ≤ k) && decide (k < 7)) (v := vR (o + 6 + 2 * K + b.toNat)) rfl rfl (by omega) hNg rfl (by omega) (by omega) (aq_gi (by omega)) ?_
      show am_E _ (36, [vR o, vI k, vI lo, vI b], [vR (o + 6 + 2 * K + b.toNat)], aq_h m s F c) _
      refine am_E.go (t2 := (37, [vR o, vI k, vI lo, vI b], [vI k, vR (o + 6 + 2 * K + b.toNat)], aq_h m s F c)) rfl rfl ?_
      refine am_E.go (t2 := (38, [vR o, vI k, vI lo, vI b], [vR o, vI k, vR (o + 6 + 2 * K + b.toNat)], aq_h m s F c)) rfl rfl ?_
      refine am_E.go (t2 := (39, [vR o, vI k, vI lo, vI b], [vR o, vR o, vI k, vR (o + 6 + 2 * K + b.toNat)], aq_h m s F c)) rfl rfl ?_
      refine aq_gf (v := vR (o + 1)) rfl (by omega) hFo (by decide) rfl ?_
      show am_E _ (42, [vR o, vI k, vI lo, vI b], [vR (o + 1), vR o, vI k, vR (o + 6 + 2 * K + b.toNat)], aq_h m s F c) _
      refine am_E.go (t2 := (43, [vR o, vI k, vI lo, vI b], [vI b, vR (o + 1), vR o, vI k, vR (o + 6 + 2 * K + b.toNat)], aq_h m s F c)) rfl rfl ?_
      refine aq_al (ok := fun k => decide (3 ≤ k) && decide (k < 7)) (v := vR (o + 2 + b.toNat)) rfl rfl (by omega) hPg rfl (by omega) (by omega) (aq_gi (by omega)) ?_
      show am_E _ (44, [vR o, vI k, vI lo, vI b], [vR (o + 2 + b.toNat), vR o, vI k, vR (o + 6 + 2 * K + b.toNat)], aq_h m s F c) _
      refine am_E.go (t2 := (45, [vR o, vI k, vI lo, vI b], [vR o, vR (o + 2 + b.toNat), vR o, vI k, vR (o + 6 + 2 * K + b.toNat)], aq_h m s F c)) rfl rfl ?_
      refine aq_gf (v := vR (o + 1)) rfl (by omega) hFo (by decide) rfl ?_
      show am_E _ (48, [vR o, vI k, vI lo, vI b], [vR (o + 1), vR (o + 2 + b.toNat), vR o, vI k, vR (o + 6 + 2 * K + b.toNat)], aq_h m s F c) _
      refine am_E.go (t2 := (49, [vR o, vI k, vI lo, vI b], [vI lo, vR (o + 1), vR (o + 2 + b.toNat), vR o, vI k, vR (o + 6 + 2 * K + b.toNat)], aq_h m s F c)) rfl rfl ?_
      refine aq_al (ok := fun k => decide (3 ≤ k) && decide (k < 7)) (v := vR (o + 2 + lo.toNat)) rfl rfl (by omega) hPg rfl (by omega) (by omega) (aq_gi (by omega)) ?_
      show am_E _ (50, [vR o, vI k, vI lo, vI b], [vR (o + 2 + lo.toNat), vR (o + 2 + b.toNat), vR o, vI k, vR (o + 6 + 2 * K + b.toNat)], aq_h m s F c) _
      refine aq_callv (y := 3) (as2 := [vR (o + 2 + b.toNat), vR (o + 2 + lo.toNat)]) (rest := [vI k, vR (o + 6 + 2 * K + b.toNat)]) rfl rfl (by decide) (Nat.le_of_ble_eq_true rfl) rfl rfl (Nat.le_of_ble_eq_true rfl) (by omega) hFo rfl (Nat.le_of_ble_eq_true rfl) (qb_join (S := (fun a => a = o + 6 + 3 * K ∨ a = o + 7 + 3 * K)) ⟨hm, hn1, hn4, hK, hFo, hFd, hFs⟩ (Or.inl rfl) (Or.inr rfl) ⟨hPg, hPr, hPt⟩ (x := b) (y := lo) (by omega) (by omega) (by omega) (by omega) (hfi b (by omega) (by omega)) (hfi lo (by omega) (by omega)) hKn hr) ?_
      rintro r5 h5 ⟨c_2, rfl, sc_2, hrc_2, vc_2, rfl, hv0c_2, hv1c_2, hv2c_2⟩
      show am_E _ (53, [vR o, vI k, vI lo, vI b], [vI vc_2, vI k, vR (o + 6 + 2 * K + b.toNat)], aq_h m s F c_2) _
      refine aq_as (kd := 0) rfl rfl (by omega) (hNr _ (by omega)) (by omega) (by omega) rfl rfl ?_
      show am_E _ (54, [vR o, vI k, vI lo, vI b], [], aq_h m s F (aq_u c_2 (o + 6 + 2 * K + b.toNat) k vc_2)) _
      generalize hdc_3 : aq_u c_2 (o + 6 + 2 * K + b.toNat) k vc_2 = c_3
      have sc_3 := aq_smu (aq_smt hs (aq_smi sc_2 (fun a h => by rcases h with h | h <;> (rw [h]; assumption)))) hdc_3 (hSn _ (by omega))
      have hdrc_3 := aq_rgn hrc_2 hdc_3 (by omega)
      have hnbc_3 := bx_nu (bx_ns hn sc_2 (fun b hb => by omega)) hdc_3 (by omega) (by omega) (by omega)
      refine ae_iinc rfl rfl (am_ri (by omega) (by omega)) ?_
      show am_E _ (57, [vR o, vI k, vI lo, vI (b + 1)], [], aq_h m s F c_3) _
      refine am_E.go (t2 := (22, [vR o, vI k, vI lo, vI (b + 1)], [], aq_h m s F c_3)) rfl rfl ?_
      exact qb_stack_i ⟨hm, hn1, hn4, hK, hFo, hFd, hFs⟩ hSd hSs ⟨hPg, hPr, hPt⟩ hNg hNr hSn hKn hfi hk0 hk1 hl0 hl1 d (b + 1) c_3 sc_3 (by omega) (by omega) hdrc_3 hnbc_3 (by omega) K0

theorem qb_stack_o {m s : Nat} {F : aq_F} {c0 : aq_C} {S : Nat → Prop} {o n K : Nat} (hB : bx_0 m F o n K) (hSd : S (o + 6 + 3 * K)) (hSs : S (o + 7 + 3 * K)) {tP : Int → Int → Int} (hP : bx_p F o n K tP) (hNg : F (o + 5 + 2 * K) = (3, K, fun j => aq_g K j (o + 6 + 2 * K + j))) (hNr : ∀ b, b < K → F (o + 6 + 2 * K + b) = (0, 2 * n - 2, fun _ => .inl 0)) (hSn : ∀ b, b < K → S (o + 6 + 2 * K + b)) (hKn : (K : Int) = bx_K (n : Int)) (hfi : ∀ x : Int, 0 ≤ x → x < (K : Int) → fi (n : Int) (tP ((x.toNat : Nat) : Int))) : ∀ (d : Nat) (k : Int) (v2 : am_V) (v3 : am_V) (c : aq_C) (hs : aq_sm S c0 c) (h0 : 0 ≤ k) (h1 : k ≤ 2 * (n : Int) - 2) (hr : aq_rg (o + 6 + 3 * K) (2 * (n : Int)) 0 (2 * (n : Int)) c) (hn : bx_nb o n K c) (hd : 2 * (n : Int) - 2 - k < (d : Int)), am_E ac_X0_stackLetters (2, [vR o, vI k, v2, v3], [], aq_h m s F c) (aq_Z m s F S c0 (fun r d => r = none ∧ aq_rg (o + 6 + 3 * K) (2 * (n : Int)) 0 (2 * (n : Int)) d ∧ bx_nb o n K d))
  | 0, k, v2, v3, c, hs, h0, h1, hr, hn, hd => by exfalso; omega
  | d + 1, k, v2, v3, c, hs, h0, h1, hr, hn, hd => by
    obtain ⟨hm, hn1, hn4, hK, hFo, hFd, hFs⟩ := hB
    obtain ⟨hPg, hPr, hPt⟩ := hP
    refine am_E.go (t2 := (3, [vR o, vI k, v2, v3], [vI k], aq_h m s F c)) rfl rfl ?_
    refine am_E.go (t2 := (4, [vR o, vI k, v2, v3], [vR o, vI k], aq_h m s F c)) rfl rfl ?_
    refine aq_gf (v := vI (2 * (n : Int) - 2)) rfl (by omega) hFo (by decide) rfl ?_
    show am_E _ (7, [vR o, vI k, v2, v3], [vI (2 * (n : Int) - 2), vI k], aq_h m s F c) _
    refine ae_icmp rfl (fun (q_1 : (2 * (n : Int) - 2) ≤ k) => ?_) (fun (q_1 : k < (2 * (n : Int) - 2)) => ?_)
    · refine am_E.ret rfl rfl ?_
      exact ⟨_, rfl, hs, rfl, hr, hn⟩
    · refine am_E.go (t2 := (11, [vR o, vI k, v2, v3], [vR o], aq_h m s F c)) rfl rfl ?_
      refine am_E.go (t2 := (12, [vR o, vI k, v2, v3], [vR o, vR o], aq_h m s F c)) rfl rfl ?_
      refine am_E.go (t2 := (13, [vR o, vI k, v2, v3], [vI k, vR o, vR o], aq_h m s F c)) rfl rfl ?_
      refine aq_callv (y := 2) (as2 := [vI k]) (rest := [vR o]) rfl rfl (by decide) (Nat.le_of_ble_eq_true rfl) rfl rfl (Nat.le_of_ble_eq_true rfl) (by omega) hFo rfl (Nat.le_of_ble_eq_true rfl) (qb_letterAt ⟨hm, hn1, hn4, hK, hFo, hFd, hFs⟩ (by omega) (by omega)) ?_
      rintro r5 h5 ⟨rfl, v_2, rfl, hv_2⟩
      show am_E _ (16, [vR o, vI k, v2, v3], [vI v_2, vR o], aq_h m s F c) _
      refine aq_callv (y := 2) (as2 := [vI v_2]) (rest := []) rfl rfl (by decide) (Nat.le_of_ble_eq_true rfl) rfl rfl (Nat.le_of_ble_eq_true rfl) (by omega) hFo rfl (Nat.le_of_ble_eq_true rfl) (qb_ofLetter ⟨hm, hn1, hn4, hK, hFo, hFd, hFs⟩ hKn (by omega) hr) ?_
      rintro r5 h5 ⟨c_3, rfl, sc_3, hrc_3, vc_3, rfl, hv0c_3, hv1c_3⟩
      show am_E _ (19, [vR o, vI k, v2, v3], [vI vc_3], aq_h m s F c_3) _
      refine am_E.go (t2 := (20, [vR o, vI k, vI vc_3, v3], [], aq_h m s F c_3)) rfl rfl ?_
      refine am_E.go (t2 := (21, [vR o, vI k, vI vc_3, v3], [vI 0], aq_h m s F c_3)) rfl rfl ?_
      refine am_E.go (t2 := (22, [vR o, vI k, vI vc_3, vI 0], [], aq_h m s F c_3)) rfl rfl ?_
      refine qb_stack_i ⟨hm, hn1, hn4, hK, hFo, hFd, hFs⟩ hSd hSs ⟨hPg, hPr, hPt⟩ hNg hNr hSn hKn hfi (by omega) (by omega) (by omega) (by omega) 106 0 c_3 (aq_smt hs (aq_smi sc_3 (fun a h => by rcases h with h | h <;> (rw [h]; assumption)))) (by omega) (by omega) hrc_3 (bx_ns hn sc_3 (fun b hb => by omega)) (by omega) ?_
      · intro b2_22 c_4 sc_4 hr2_22 hn2_22
        refine ae_iinc rfl rfl (am_ri (by omega) (by omega)) ?_
        show am_E _ (63, [vR o, vI (k + 1), vI vc_3, vI b2_22], [], aq_h m s F c_4) _
        refine am_E.go (t2 := (2, [vR o, vI (k + 1), vI vc_3, vI b2_22], [], aq_h m s F c_4)) rfl rfl ?_
        exact qb_stack_o ⟨hm, hn1, hn4, hK, hFo, hFd, hFs⟩ hSd hSs ⟨hPg, hPr, hPt⟩ hNg hNr hSn hKn hfi d (k + 1) (vI vc_3) (vI b2_22) c_4 sc_4 (by omega) (by omega) hr2_22 hn2_22 (by omega)

theorem qb_stackLetters {m s : Nat} {F : aq_F} {c : aq_C} {S : Nat → Prop} {o n K : Nat} (hB : bx_0 m F o n K) (hSd : S (o + 6 + 3 * K)) (hSs : S (o + 7 + 3 * K)) {tP : Int → Int → Int} (hP : bx_p F o n K tP) (hNg : F (o + 5 + 2 * K) = (3, K, fun j => aq_g K j (o + 6 + 2 * K + j))) (hNr : ∀ b, b < K → F (o + 6 + 2 * K + b) = (0, 2 * n - 2, fun _ => .inl 0)) (hSn : ∀ b, b < K → S (o + 6 + 2 * K + b)) (hKn : (K : Int) = bx_K (n : Int)) (hfi : ∀ x : Int, 0 ≤ x → x < (K : Int) → fi (n : Int) (tP ((x.toNat : Nat) : Int))) (hr : aq_rg (o + 6 + 3 * K) (2 * (n : Int)) 0 (2 * (n : Int)) c) (hn : bx_nb o n K c) : am_E ac_X0_stackLetters (0, [vR o, vU, vU, vU], [], aq_h m s F c) (aq_Z m s F S c (fun r d => r = none ∧ aq_rg (o + 6 + 3 * K) (2 * (n : Int)) 0 (2 * (n : Int)) d ∧ bx_nb o n K d)) := by
  obtain ⟨hm, hn1, hn4, hK, hFo, hFd, hFs⟩ := hB
  obtain ⟨hPg, hPr, hPt⟩ := hP
  refine am_E.go (t2 := (1, [vR o, vU, vU, vU], [vI 0], aq_h m s F c)) rfl rfl ?_
  refine am_E.go (t2 := (2, [vR o, vI 0, vU, vU], [], aq_h m s F c)) rfl rfl ?_
  exact qb_stack_o ⟨hm, hn1, hn4, hK, hFo, hFd, hFs⟩ hSd hSs ⟨hPg, hPr, hPt⟩ hNg hNr hSn hKn hfi 9 0 (vU) (vU) c aq_sm0 (by omega) (by omega) hr hn (by omega)
/-! Boxes: spellBehind, spellAll. Printed by wip/p20/sx/gBE.py. -/

theorem rn_J9_min {a b : Int} (h : am_H) : am_E ac_J9_min_7cf53 (0, [vI a, vI b], [], h) (fun r h2 => h2 = h ∧ ∃ v, r = some (vI v) ∧ ((a ≤ b ∧ v = a) ∨ (b < a ∧ v = b))) := by
  refine am_E.go (t2 := (1, [vI a, vI b], [vI a], h)) rfl rfl ?_
  refine am_E.go (t2 := (2, [vI a, vI b], [vI b, vI a], h)) rfl rfl ?_
  refine ae_icmp rfl (fun (q : b < a) => ?_) (fun (q : a ≤ b) => ?_)
  · refine am_E.go (t2 := (10, [vI a, vI b], [vI b], h)) rfl rfl ?_
    exact am_E.ret rfl rfl ⟨rfl, _, rfl, by omega⟩
  · refine am_E.go (t2 := (6, [vI a, vI b], [vI a], h)) rfl rfl ?_
    refine am_E.go (t2 := (10, [vI a, vI b], [vI a], h)) rfl rfl ?_
    exact am_E.ret rfl rfl ⟨rfl, _, rfl, by omega⟩
/-- lengths and spellings lie in range -/
def bx_sp (o n K : Nat) (c : aq_C) : Prop := ∀ b : Nat, b < K → -1 ≤ c (o + 3 + K) (b : Int) ∧ c (o + 3 + K) (b : Int) ≤ 6 ∧ ∀ i : Int, 0 ≤ i → i < c (o + 3 + K) (b : Int) → 0 ≤ c (o + 5 + K + b) i ∧ c (o + 5 + K + b) i < 2 * (n : Int) - 2
theorem bx_sb {o n K : Nat} {b w k l : Int} {c c1 c2 c3 : aq_C} (h : bx_sp o n K c) (hb0 : 0 ≤ b) (hbK : b < (K : Int)) (hw0 : 0 ≤ w) (hwK : w < (K : Int)) (hk0 : 0 ≤ k) (hk1 : k < 2 * (n : Int) - 2) (hl0 : 0 ≤ l) (hl5 : l ≤ 5) (hlw : l ≤ c (o + 3 + K) w) (e1 : aq_cp c (o + 5 + K + w.toNat) (0 : Int).toNat (o + 5 + K + b.toNat) (0 : Int).toNat l.toNat = c1) (e2 : aq_u c1 (o + 5 + K + b.toNat) l k = c2) (e3 : aq_u c2 (o + 3 + K) b (l + 1) = c3) : bx_sp o n K c3 ∧ 0 ≤ c3 (o + 3 + K) b ∧ ∀ j, j ≠ b → c3 (o + 3 + K) j = c (o + 3 + K) j := by
  have g1 : c3 (o + 3 + K) b = l + 1 := by rw [← e3, aq_us]
  have g2 : ∀ j, j ≠ b → c3 (o + 3 + K) j = c (o + 3 + K) j := fun j hj => by
    rw [← e3, aq_un (Or.inr hj), ← e2, aq_un (Or.inl (by omega)), ← e1]
    unfold aq_cp
    rw [if_neg (by omega)]
  refine ⟨fun x hx => ?_, by omega, g2⟩
  by_cases e : (x : Int) = b
  · have ex : b.toNat = x := by omega
    rw [e, g1]
    refine ⟨by omega, by omega, fun i i0 i1 => ?_⟩
    rw [← e3, aq_un (Or.inl (by omega)), ← e2, ex]
    by_cases ei : i = l
    · rw [ei, aq_us]
      exact ⟨hk0, hk1⟩
    · rw [aq_un (Or.inr ei), ← e1, ex]
      unfold aq_cp
      have z0 : (((0 : Int).toNat : Nat) : Int) = 0 := rfl
      rw [z0, if_pos (by omega)]
      have hw := (h w.toNat (by omega)).2.2 i i0 (by rw [Int.toNat_of_nonneg hw0]; omega)
      rw [show (0 : Int) + (i - 0) = i by omega]
      exact hw
  · rw [g2 _ e]
    obtain ⟨k1, k2, k3⟩ := h x hx
    refine ⟨k1, k2, fun i i0 i1 => ?_⟩
    rw [← e3, aq_un (Or.inl (by omega)), ← e2, aq_un (Or.inl (by omega)), ← e1]
    unfold aq_cp
    rw [if_neg (by omega)]
    exact k3 i i0 i1
theorem bx_ss {S : Nat → Prop} {o n K : Nat} {c d : aq_C} (h : bx_sp o n K c) (hs : aq_sm S c d) (h3 : ¬ S (o + 3 + K)) (h5 : ∀ b, b < K → ¬ S (o + 5 + K + b)) : bx_sp o n K d := by
  intro b hb
  simp only [hs _ h3, hs _ (h5 b hb)]
  exact h b hb
theorem bx_sn {o n K a : Nat} {i x : Int} {c d : aq_C} (h : bx_sp o n K c) (he : aq_u c a i x = d) (ha : o + 8 + 3 * K ≤ a) : bx_sp o n K d :=
  bx_ss (S := fun b => b = a) h (fun b hb j => by rw [← he, aq_un (Or.inl hb)]) (by omega) (fun b hb => by omega)
/-- what is found is known -/
def bx_fd (o K f : Nat) (z : Int) (c : aq_C) : Prop := ∀ j, 0 ≤ j → j < z → 0 ≤ c f j ∧ c f j < (K : Int) ∧ 0 ≤ c (o + 3 + K) (c f j)
theorem bx_fu {o K f : Nat} {z v : Int} {c d e : aq_C} (h : bx_fd o K f z c) (hf : ∀ j, d f j = c f j) (h0 : 0 ≤ d (o + 3 + K) v) (ho : ∀ j, j ≠ v → d (o + 3 + K) j = c (o + 3 + K) j) (hv0 : 0 ≤ v) (hvK : v < (K : Int)) (he : aq_u d f z v = e) (hfL : f ≠ o + 3 + K) : bx_fd o K f (z + 1) e := by
  intro j j0 j1
  have g : ∀ i, e (o + 3 + K) i = d (o + 3 + K) i := fun i => by rw [← he, aq_un (Or.inl (Ne.symm hfL))]
  rw [g]
  by_cases ej : j = z
  · rw [← he, ej, aq_us]
    exact ⟨hv0, hvK, h0⟩
  · rw [← he, aq_un (Or.inr ej), hf]
    obtain ⟨k1, k2, k3⟩ := h j j0 (by omega)
    refine ⟨k1, k2, ?_⟩
    by_cases e2 : c f j = v
    · rw [e2]; exact h0
    · rw [ho _ e2]; exact k3

theorem qb_spellBehind {m s : Nat} {F : aq_F} {c : aq_C} {S : Nat → Prop} {o n K : Nat} (hB : bx_0 m F o n K) (hL : F (o + 3 + K) = (0, K, fun _ => .inl 0)) (hGg : F (o + 4 + K) = (3, K, fun j => aq_g K j (o + 5 + K + j))) (hGr : ∀ b, b < K → F (o + 5 + K + b) = (0, 6, fun _ => .inl 0)) (hSl : S (o + 3 + K)) (hSg : ∀ b, b < K → S (o + 5 + K + b)) (hsp : bx_sp o n K c) {b w k : Int} (hb0 : 0 ≤ b) (hbK : b < (K : Int)) (hw0 : 0 ≤ w) (hwK : w < (K : Int)) (hk0 : 0 ≤ k) (hk1 : k < 2 * (n : Int) - 2) (hlw : 0 ≤ c (o + 3 + K) w) : am_E ac_X0_spellBehind (0, [vR o, vI b, vI w, vI k, vU], [], aq_h m s F c) (aq_Z m s F S c (fun r d => r = none ∧ bx_sp o n K d ∧ 0 ≤ d (o + 3 + K) b ∧ ∀ j, j ≠ b → d (o + 3 + K) j = c (o + 3 + K) j)) := by
  obtain ⟨hm, hn1, hn4, hK, hFo, hFd, hFs⟩ := hB
  refine am_E.go (t2 := (1, [vR o, vI b, vI w, vI k, vU], [vR o], aq_h m s F c)) rfl rfl ?_
  refine aq_gf (v := vR (o + 3 + K)) rfl (by omega) hFo (by decide) rfl ?_
  show am_E _ (4, [vR o, vI b, vI w, vI k, vU], [vR (o + 3 + K)], aq_h m s F c) _
  refine am_E.go (t2 := (5, [vR o, vI b, vI w, vI k, vU], [vI w, vR (o + 3 + K)], aq_h m s F c)) rfl rfl ?_
  refine aq_al (ok := fun k => k == 0) (v := vI (c (o + 3 + K) w)) rfl rfl (by omega) hL rfl (by omega) (by omega) rfl ?_
  show am_E _ (6, [vR o, vI b, vI w, vI k, vU], [vI (c (o + 3 + K) w)], aq_h m s F c) _
  have f_1 := hsp (w).toNat (by omega)
  rw [Int.toNat_of_nonneg (show 0 ≤ w by omega)] at f_1
  refine am_E.go (t2 := (7, [vR o, vI b, vI w, vI k, vU], [vI 5, vI (c (o + 3 + K) w)], aq_h m s F c)) rfl rfl ?_
  refine am_E.call rfl rfl rfl (Nat.le_of_ble_eq_true rfl) (rn_J9_min _) ?_
  rintro r5 h5 ⟨rfl, v_2, rfl, hv_2⟩
  show am_E _ (10, [vR o, vI b, vI w, vI k, vU], [vI v_2], aq_h m s F c) _
  refine am_E.go (t2 := (12, [vR o, vI b, vI w, vI k, vI v_2], [], aq_h m s F c)) rfl rfl ?_
  refine am_E.go (t2 := (13, [vR o, vI b, vI w, vI k, vI v_2], [vR o], aq_h m s F c)) rfl rfl ?_
  refine aq_gf (v := vR (o + 4 + K)) rfl (by omega) hFo (by decide) rfl ?_
  show am_E _ (16, [vR o, vI b, vI w, vI k, vI v_2], [vR (o + 4 + K)], aq_h m s F c) _
  refine am_E.go (t2 := (17, [vR o, vI b, vI w, vI k, vI v_2], [vI w, vR (o + 4 + K)], aq_h m s F c)) rfl rfl ?_
  refine aq_al (ok := fun k => decide (3 ≤ k) && decide (k < 7)) (v := vR (o + 5 + K + w.toNat)) rfl rfl (by omega) hGg rfl (by omega) (by omega) (aq_gi (by omega)) ?_
  show am_E _ (18, [vR o, vI b, vI w, vI k, vI v_2], [vR (o + 5 + K + w.toNat)], aq_h m s F c) _
  refine am_E.go (t2 := (19, [vR o, vI b, vI w, vI k, vI v_2], [vI 0, vR (o + 5 + K + w.toNat)], aq_h m s F c)) rfl rfl ?_
  refine am_E.go (t2 := (20, [vR o, vI b, vI w, vI k, vI v_2], [vR o, vI 0, vR (o + 5 + K + w.toNat)], aq_h m s F c)) rfl rfl ?_
  refine aq_gf (v := vR (o + 4 + K)) rfl (by omega) hFo (by decide) rfl ?_
  show am_E _ (23, [vR o, vI b, vI w, vI k, vI v_2], [vR (o + 4 + K), vI 0, vR (o + 5 + K + w.toNat)], aq_h m s F c) _
  refine am_E.go (t2 := (24, [vR o, vI b, vI w, vI k, vI v_2], [vI b, vR (o + 4 + K), vI 0, vR (o + 5 + K + w.toNat)], aq_h m s F c)) rfl rfl ?_
  refine aq_al (ok := fun k => decide (3 ≤ k) && decide (k < 7)) (v := vR (o + 5 + K + b.toNat)) rfl rfl (by omega) hGg rfl (by omega) (by omega) (aq_gi (by omega)) ?_
  show am_E _ (25, [vR o, vI b, vI w, vI k, vI v_2], [vR (o + 5 + K + b.toNat), vI 0, vR (o + 5 + K + w.toNat)], aq_h m s F c) _
  refine am_E.go (t2 := (26, [vR o, vI b, vI w, vI k, vI v_2], [vI 0, vR (o + 5 + K + b.toNat), vI 0, vR (o + 5 + K + w.toNat)], aq_h m s F c)) rfl rfl ?_
  refine am_E.go (t2 := (28, [vR o, vI b, vI w, vI k, vI v_2], [vI v_2, vI 0, vR (o + 5 + K + b.toNat), vI 0, vR (o + 5 + K + w.toNat)], aq_h m s F c)) rfl rfl ?_
  refine aq_cpy (n := (v_2 : Int).toNat) (sp := (0 : Int).toNat) (dp := (0 : Int).toNat) rfl (by omega) (by omega) (hGr _ (by omega)) (hGr _ (by omega)) (by decide) (by omega) (by omega) (by omega) (by omega) (by omega) ?_
  show am_E _ (31, [vR o, vI b, vI w, vI k, vI v_2], [], aq_h m s F (aq_cp c (o + 5 + K + w.toNat) (0 : Int).toNat (o + 5 + K + b.toNat) (0 : Int).toNat (v_2 : Int).toNat)) _
  generalize hdc_3 : aq_cp c (o + 5 + K + w.toNat) (0 : Int).toNat (o + 5 + K + b.toNat) (0 : Int).toNat (v_2 : Int).toNat = c_3
  have sc_3 := aq_smc aq_sm0 hdc_3 (hSg _ (by omega))
  refine am_E.go (t2 := (32, [vR o, vI b, vI w, vI k, vI v_2], [vR o], aq_h m s F c_3)) rfl rfl ?_
  refine aq_gf (v := vR (o + 4 + K)) rfl (by omega) hFo (by decide) rfl ?_
  show am_E _ (35, [vR o, vI b, vI w, vI k, vI v_2], [vR (o + 4 + K)], aq_h m s F c_3) _
  refine am_E.go (t2 := (36, [vR o, vI b, vI w, vI k, vI v_2], [vI b, vR (o + 4 + K)], aq_h m s F c_3)) rfl rfl ?_
  refine aq_al (ok := fun k => decide (3 ≤ k) && decide (k < 7)) (v := vR (o + 5 + K + b.toNat)) rfl rfl (by omega) hGg rfl (by omega) (by omega) (aq_gi (by omega)) ?_
  show am_E _ (37, [vR o, vI b, vI w, vI k, vI v_2], [vR (o + 5 + K + b.toNat)], aq_h m s F c_3) _
  refine am_E.go (t2 := (39, [vR o, vI b, vI w, vI k, vI v_2], [vI v_2, vR (o + 5 + K + b.toNat)], aq_h m s F c_3)) rfl rfl ?_
  refine am_E.go (t2 := (40, [vR o, vI b, vI w, vI k, vI v_2], [vI k, vI v_2, vR (o + 5 + K + b.toNat)], aq_h m s F c_3)) rfl rfl ?_
  refine aq_as (kd := 0) rfl rfl (by omega) (hGr _ (by omega)) (by omega) (by omega) rfl rfl ?_
  show am_E _ (41, [vR o, vI b, vI w, vI k, vI v_2], [], aq_h m s F (aq_u c_3 (o + 5 + K + b.toNat) v_2 k)) _
  generalize hdc_4 : aq_u c_3 (o + 5 + K + b.toNat) v_2 k = c_4
  have sc_4 := aq_smu sc_3 hdc_4 (hSg _ (by omega))
  refine am_E.go (t2 := (42, [vR o, vI b, vI w, vI k, vI v_2], [vR o], aq_h m s F c_4)) rfl rfl ?_
  refine aq_gf (v := vR (o + 3 + K)) rfl (by omega) hFo (by decide) rfl ?_
  show am_E _ (45, [vR o, vI b, vI w, vI k, vI v_2], [vR (o + 3 + K)], aq_h m s F c_4) _
  refine am_E.go (t2 := (46, [vR o, vI b, vI w, vI k, vI v_2], [vI b, vR (o + 3 + K)], aq_h m s F c_4)) rfl rfl ?_
  refine am_E.go (t2 := (48, [vR o, vI b, vI w, vI k, vI v_2], [vI v_2, vI b, vR (o + 3 + K)], aq_h m s F c_4)) rfl rfl ?_
  refine am_E.go (t2 := (49, [vR o, vI b, vI w, vI k, vI v_2], [vI 1, vI v_2, vI b, vR (o + 3 + K)], aq_h m s F c_4)) rfl rfl ?_
  refine ae_add rfl (am_ri (by omega) (by omega)) ?_
  show am_E _ (50, [vR o, vI b, vI w, vI k, vI v_2], [vI (v_2 + 1), vI b, vR (o + 3 + K)], aq_h m s F c_4) _
  refine aq_as (kd := 0) rfl rfl (by omega) hL (by omega) (by omega) rfl rfl ?_
  show am_E _ (51, [vR o, vI b, vI w, vI k, vI v_2], [], aq_h m s F (aq_u c_4 (o + 3 + K) b (v_2 + 1))) _
  generalize hdc_5 : aq_u c_4 (o + 3 + K) b (v_2 + 1) = c_5
  have sc_5 := aq_smu sc_4 hdc_5 hSl
  refine am_E.ret rfl rfl ?_
  have fin := bx_sb hsp hb0 hbK hw0 hwK hk0 hk1 (by omega) (by omega) (by omega) hdc_3 hdc_4 hdc_5
  exact ⟨_, rfl, sc_5, rfl, fin⟩

theorem qb_spell_i {m s : Nat} {F : aq_F} {c0 : aq_C} {S : Nat → Prop} {o n K : Nat} (hB : bx_0 m F o n K) (hSd : S (o + 6 + 3 * K)) (hSs : S (o + 7 + 3 * K)) (hL : F (o + 3 + K) = (0, K, fun _ => .inl 0)) (hGg : F (o + 4 + K) = (3, K, fun j => aq_g K j (o + 5 + K + j))) (hGr : ∀ b, b < K → F (o + 5 + K + b) = (0, 6, fun _ => .inl 0)) (hSl : S (o + 3 + K)) (hSg : ∀ b, b < K → S (o + 5 + K + b)) {tN : Int → Int → Int} (hNg : F (o + 5 + 2 * K) = (3, K, fun j => aq_g K j (o + 6 + 2 * K + j))) (hNr : ∀ b, b < K → F (o + 6 + 2 * K + b) = (0, 2 * n - 2, fun j => .inr (vI (tN (b : Int) (j : Int))))) (hNt : ∀ b k : Int, 0 ≤ b → b < (K : Int) → 0 ≤ k → k < 2 * (n : Int) - 2 → 0 ≤ tN b k) (hKn : (K : Int) = bx_K (n : Int)) {f : Nat} (hf : f < m) (hff : F f = (0, K, fun _ => .inl 0)) (hfo : o + 8 + 3 * K ≤ f) (hSf : S f) {i : Int} (hi0 : 0 ≤ i) : ∀ (d : Nat) (z : Int) (k : Int) (v5 : am_V) (c : aq_C) (hs : aq_sm S c0 c) (h0 : 0 ≤ k) (h1 : k ≤ 2 * (n : Int) - 2) (h2 : i < z) (h3 : z ≤ (K : Int)) (hr : aq_rg (o + 6 + 3 * K) (2 * (n : Int)) 0 (2 * (n : Int)) c) (hsp : bx_sp o n K c) (hfd : bx_fd o K f z c) (hd : 2 * (n : Int) - 2 - k < (d : Int)) (K0 : ∀ (z2 : Int) (k2 : Int) (v52 : am_V) (c2 : aq_C) (hs2 : aq_sm S c0 c2) (g1 : i < z2) (g2 : z2 ≤ (K : Int)) (hr2 : aq_rg (o + 6 + 3 * K) (2 * (n : Int)) 0 (2 * (n : Int)) c2) (hsp2 : bx_sp o n K c2) (hfd2 : bx_fd o K f z2 c2), am_E ac_X0_spellAll (142, [vR o, vR f, vI z2, vI i, vI k2, v52], [], aq_h m s F c2) (aq_Z m s F S c0 (fun r d => r = none ∧ aq_rg (o + 6 + 3 * K) (2 * (n : Int)) 0 (2 * (n : Int)) d ∧ bx_sp o n K d))), am_E ac_X0_spellAll (67, [vR o, vR f, vI z, vI i, vI k, v5], [], aq_h m s F c) (aq_Z m s F S c0 (fun r d => r = none ∧ aq_rg (o + 6 + 3 * K) (2 * (n : Int)) 0 (2 * (n : Int)) d ∧ bx_sp o n K d))
  | 0, z, k, v5, c, hs, h0, h1, h2, h3, hr, hsp, hfd, hd, K0 => by exfalso; omega
  | d + 1, z, k, v5, c, hs, h0, h1, h2, h3, hr, hsp, hfd, hd, K0 => by
    obtain ⟨hm, hn1, hn4, hK, hFo, hFd, hFs⟩ := hB
    refine am_E.go (t2 := (69, [vR o, vR f, vI z, vI i, vI k, v5], [vI k], aq_h m s F c)) rfl rfl ?_
    refine am_E.go (t2 := (70, [vR o, vR f, vI z, vI i, vI k, v5], [vR o, vI k], aq_h m s F c)) rfl rfl ?_
    refine aq_gf (v := vI (2 * (n : Int) - 2)) rfl (by omega) hFo (by decide) rfl ?_
    show am_E _ (73, [vR o, vR f, vI z, vI i, vI k, v5], [vI (2 * (n : Int) - 2), vI k], aq_h m s F c) _
    refine ae_icmp rfl (fun (q_1 : (2 * (n : Int) - 2) ≤ k) => ?_) (fun (q_1 : k < (2 * (n : Int) - 2)) => ?_)
    · exact K0 z k (v5) c hs (by omega) (by omega) hr hsp hfd
    · refine am_E.go (t2 := (77, [vR o, vR f, vI z, vI i, vI k, v5], [vR o], aq_h m s F c)) rfl rfl ?_
      refine aq_gf (v := vR (o + 5 + 2 * K)) rfl (by omega) hFo (by decide) rfl ?_
      show am_E _ (80, [vR o, vR f, vI z, vI i, vI k, v5], [vR (o + 5 + 2 * K)], aq_h m s F c) _
      refine am_E.go (t2 := (81, [vR o, vR f, vI z, vI i, vI k, v5], [vR f, vR (o + 5 + 2 * K)], aq_h m s F c)) rfl rfl ?_
      refine am_E.go (t2 := (82, [vR o, vR f, vI z, vI i, vI k, v5], [vI i, vR f, vR (o + 5 + 2 * K)], aq_h m s F c)) rfl rfl ?_
      refine aq_al (ok := fun k => k == 0) (v := vI (c f i)) rfl rfl hf hff rfl (by omega) (by omega) rfl ?_
      show am_E _ (83, [vR o, vR f, vI z, vI i, vI k, v5], [vI (c f i), vR (o + 5 + 2 * K)], aq_h m s F c) _
      have f_2 := hfd i (by omega) (by omega)
      refine aq_al (ok := fun k => decide (3 ≤ k) && decide (k < 7)) (v := vR (o + 6 + 2 * K + (c f i).toNat)) rfl rfl (by omega) hNg rfl (by omega) (by omega) (aq_gi (by omega)) ?_
      show am_E _ (84, [vR o, vR f, vI z, vI i, vI k, v5], [vR (o + 6 + 2 * K + (c f i).toNat)], aq_h m s F c) _
      refine am_E.go (t2 := (86, [vR o, vR f, vI z, vI i, vI k, v5], [vI k, vR (o + 6 + 2 * K + (c f i).toNat)], aq_h m s F c)) rfl rfl ?_
      refine aq_alt (ok := fun k => k == 0) rfl rfl (by omega) (hNr _ (by omega)) rfl (by omega) (by omega) ?_
      show am_E _ (87, [vR o, vR f, vI z, vI i, vI k, v5], [vI (tN (((c f i).toNat : Nat) : Int) k)], aq_h m s F c) _
      have f_3 := hNt (((c f i).toNat : Nat) : Int) k (by omega) (by omega) (by omega) (by omega)
      refine am_E.go (t2 := (89, [vR o, vR f, vI z, vI i, vI k, vI (tN (((c f i).toNat : Nat) : Int) k)], [], aq_h m s F c)) rfl rfl ?_
      refine am_E.go (t2 := (91, [vR o, vR f, vI z, vI i, vI k, vI (tN (((c f i).toNat : Nat) : Int) k)], [vI (tN (((c f i).toNat : Nat) : Int) k)], aq_h m s F c)) rfl rfl ?_
      refine am_E.go (t2 := (92, [vR o, vR f, vI z, vI i, vI k, vI (tN (((c f i).toNat : Nat) : Int) k)], [vR o, vI (tN (((c f i).toNat : Nat) : Int) k)], aq_h m s F c)) rfl rfl ?_
      refine aq_gf (v := vI (K : Int)) rfl (by omega) hFo (by decide) rfl ?_
      show am_E _ (95, [vR o, vR f, vI z, vI i, vI k, vI (tN (((c f i).toNat : Nat) : Int) k)], [vI (K : Int), vI (tN (((c f i).toNat : Nat) : Int) k)], aq_h m s F c) _
      refine ae_icmp rfl (fun (q_4 : (K : Int) ≤ (tN (((c f i).toNat : Nat) : Int) k)) => ?_) (fun (q_4 : (tN (((c f i).toNat : Nat) : Int) k) < (K : Int)) => ?_)
      · refine ae_iinc rfl rfl (am_ri (by omega) (by omega)) ?_
        show am_E _ (139, [vR o, vR f, vI z, vI i, vI (k + 1), vI (tN (((c f i).toNat : Nat) : Int) k)], [], aq_h m s F c) _
        refine am_E.go (t2 := (67, [vR o, vR f, vI z, vI i, vI (k + 1), vI (tN (((c f i).toNat : Nat) : Int) k)], [], aq_h m s F c)) rfl rfl ?_
        exact qb_spell_i ⟨hm, hn1, hn4, hK, hFo, hFd, hFs⟩ hSd hSs hL hGg hGr hSl hSg hNg hNr hNt hKn hf hff hfo hSf hi0 d z (k + 1) (vI (tN (((c f i).toNat : Nat) : Int) k)) c hs (by omega) (by omega) (by omega) (by omega) hr hsp hfd (by omega) K0
      · refine am_E.go (t2 := (99, [vR o, vR f, vI z, vI i, vI k, vI (tN (((c f i).toNat : Nat) : Int) k)], [vR o], aq_h m s F c)) rfl rfl ?_
        refine aq_gf (v := vR (o + 3 + K)) rfl (by omega) hFo (by decide) rfl ?_
        show am_E _ (102, [vR o, vR f, vI z, vI i, vI k, vI (tN (((c f i).toNat : Nat) : Int) k)], [vR (o + 3 + K)], aq_h m s F c) _
        refine am_E.go (t2 := (104, [vR o, vR f, vI z, vI i, vI k, vI (tN (((c f i).toNat : Nat) : Int) k)], [vI (tN (((c f i).toNat : Nat) : Int) k), vR (o + 3 + K)], aq_h m s F c)) rfl rfl ?_
        refine aq_al (ok := fun k => k == 0) (v := vI (c (o + 3 + K) (tN (((c f i).toNat : Nat) : Int) k))) rfl rfl (by omega) hL rfl (by omega) (by omega) rfl ?_
        show am_E _ (105, [vR o, vR f, vI z, vI i, vI k, vI (tN (((c f i).toNat : Nat) : Int) k)], [vI (c (o + 3 + K) (tN (((c f i).toNat : Nat) : Int) k))], aq_h m s F c) _
        have f_5 := hsp ((tN (((c f i).toNat : Nat) : Int) k)).toNat (by omega)
        rw [Int.toNat_of_nonneg (show 0 ≤ (tN (((c f i).toNat : Nat) : Int) k) by omega)] at f_5
        refine am_E.go (t2 := (106, [vR o, vR f, vI z, vI i, vI k, vI (tN (((c f i).toNat : Nat) : Int) k)], [vI (-1), vI (c (o + 3 + K) (tN (((c f i).toNat : Nat) : Int) k))], aq_h m s F c)) rfl rfl ?_
        refine ae_icmp rfl (fun (q_6 : (c (o + 3 + K) (tN (((c f i).toNat : Nat) : Int) k)) ≠ (-1)) => ?_) (fun (q_6 : (c (o + 3 + K) (tN (((c f i).toNat : Nat) : Int) k)) = (-1)) => ?_)
        · refine ae_iinc rfl rfl (am_ri (by omega) (by omega)) ?_
          show am_E _ (139, [vR o, vR f, vI z, vI i, vI (k + 1), vI (tN (((c f i).toNat : Nat) : Int) k)], [], aq_h m s F c) _
          refine am_E.go (t2 := (67, [vR o, vR f, vI z, vI i, vI (k + 1), vI (tN (((c f i).toNat : Nat) : Int) k)], [], aq_h m s F c)) rfl rfl ?_
          exact qb_spell_i ⟨hm, hn1, hn4, hK, hFo, hFd, hFs⟩ hSd hSs hL hGg hGr hSl hSg hNg hNr hNt hKn hf hff hfo hSf hi0 d z (k + 1) (vI (tN (((c f i).toNat : Nat) : Int) k)) c hs (by omega) (by omega) (by omega) (by omega) hr hsp hfd (by omega) K0
        · refine am_E.go (t2 := (110, [vR o, vR f, vI z, vI i, vI k, vI (tN (((c f i).toNat : Nat) : Int) k)], [vI z], aq_h m s F c)) rfl rfl ?_
          refine am_E.go (t2 := (111, [vR o, vR f, vI z, vI i, vI k, vI (tN (((c f i).toNat : Nat) : Int) k)], [vR o, vI z], aq_h m s F c)) rfl rfl ?_
          refine aq_gf (v := vI (K : Int)) rfl (by omega) hFo (by decide) rfl ?_
          show am_E _ (114, [vR o, vR f, vI z, vI i, vI k, vI (tN (((c f i).toNat : Nat) : Int) k)], [vI (K : Int), vI z], aq_h m s F c) _
          refine ae_icmp rfl (fun (q_7 : (K : Int) ≤ z) => ?_) (fun (q_7 : z < (K : Int)) => ?_)
          · refine ae_iinc rfl rfl (am_ri (by omega) (by omega)) ?_
            show am_E _ (139, [vR o, vR f, vI z, vI i, vI (k + 1), vI (tN (((c f i).toNat : Nat) : Int) k)], [], aq_h m s F c) _
            refine am_E.go (t2 := (67, [vR o, vR f, vI z, vI i, vI (k + 1), vI (tN (((c f i).toNat : Nat) : Int) k)], [], aq_h m s F c)) rfl rfl ?_
            exact qb_spell_i ⟨hm, hn1, hn4, hK, hFo, hFd, hFs⟩ hSd hSs hL hGg hGr hSl hSg hNg hNr hNt hKn hf hff hfo hSf hi0 d z (k + 1) (vI (tN (((c f i).toNat : Nat) : Int) k)) c hs (by omega) (by omega) (by omega) (by omega) hr hsp hfd (by omega) K0
          · refine am_E.go (t2 := (118, [vR o, vR f, vI z, vI i, vI k, vI (tN (((c f i).toNat : Nat) : Int) k)], [vR o], aq_h m s F c)) rfl rfl ?_
            refine am_E.go (t2 := (120, [vR o, vR f, vI z, vI i, vI k, vI (tN (((c f i).toNat : Nat) : Int) k)], [vI (tN (((c f i).toNat : Nat) : Int) k), vR o], aq_h m s F c)) rfl rfl ?_
            refine am_E.go (t2 := (121, [vR o, vR f, vI z, vI i, vI k, vI (tN (((c f i).toNat : Nat) : Int) k)], [vR f, vI (tN (((c f i).toNat : Nat) : Int) k), vR o], aq_h m s F c)) rfl rfl ?_
            refine am_E.go (t2 := (122, [vR o, vR f, vI z, vI i, vI k, vI (tN (((c f i).toNat : Nat) : Int) k)], [vI i, vR f, vI (tN (((c f i).toNat : Nat) : Int) k), vR o], aq_h m s F c)) rfl rfl ?_
            refine aq_al (ok := fun k => k == 0) (v := vI (c f i)) rfl rfl hf hff rfl (by omega) (by omega) rfl ?_
            show am_E _ (123, [vR o, vR f, vI z, vI i, vI k, vI (tN (((c f i).toNat : Nat) : Int) k)], [vI (c f i), vI (tN (((c f i).toNat : Nat) : Int) k), vR o], aq_h m s F c) _
            have f_8 := hfd i (by omega) (by omega)
            refine am_E.go (t2 := (125, [vR o, vR f, vI z, vI i, vI k, vI (tN (((c f i).toNat : Nat) : Int) k)], [vI k, vI (c f i), vI (tN (((c f i).toNat : Nat) : Int) k), vR o], aq_h m s F c)) rfl rfl ?_
            refine aq_callv (y := 4) (as2 := [vI (tN (((c f i).toNat : Nat) : Int) k), vI (c f i), vI k]) (rest := []) rfl rfl (by decide) (Nat.le_of_ble_eq_true rfl) rfl rfl (Nat.le_of_ble_eq_true rfl) (by omega) hFo rfl (Nat.le_of_ble_eq_true rfl) (qb_spellBehind (S := (fun a => a = o + 3 + K ∨ (o + 5 + K ≤ a ∧ a < o + 5 + K + K))) ⟨hm, hn1, hn4, hK, hFo, hFd, hFs⟩ hL hGg hGr (Or.inl rfl) (fun b hb => Or.inr (by omega)) hsp (b := (tN (((c f i).toNat : Nat) : Int) k)) (w := (c f i)) (k := k) (by omega) (by omega) (by omega) (by omega) (by omega) (by omega) (by omega)) ?_
            rintro r5 h5 ⟨c_9, rfl, sc_9, rfl, hspc_9, hL0c_9, hLoc_9⟩
            show am_E _ (128, [vR o, vR f, vI z, vI i, vI k, vI (tN (((c f i).toNat : Nat) : Int) k)], [], aq_h m s F c_9) _
            refine am_E.go (t2 := (129, [vR o, vR f, vI z, vI i, vI k, vI (tN (((c f i).toNat : Nat) : Int) k)], [vR f], aq_h m s F c_9)) rfl rfl ?_
            refine am_E.go (t2 := (130, [vR o, vR f, vI z, vI i, vI k, vI (tN (((c f i).toNat : Nat) : Int) k)], [vI z, vR f], aq_h m s F c_9)) rfl rfl ?_
            refine am_E.go (t2 := (132, [vR o, vR f, vI z, vI i, vI k, vI (tN (((c f i).toNat : Nat) : Int) k)], [vI (tN (((c f i).toNat : Nat) : Int) k), vI z, vR f], aq_h m s F c_9)) rfl rfl ?_
            refine aq_as (kd := 0) rfl rfl hf hff (by omega) (by omega) rfl rfl ?_
            show am_E _ (133, [vR o, vR f, vI z, vI i, vI k, vI (tN (((c f i).toNat : Nat) : Int) k)], [], aq_h m s F (aq_u c_9 f z (tN (((c f i).toNat : Nat) : Int) k))) _
            generalize hdc_10 : aq_u c_9 f z (tN (((c f i).toNat : Nat) : Int) k) = c_10
            have sc_10 := aq_smu (aq_smt hs (aq_smi sc_9 (fun a h => by rcases h with h | h; (rw [h]; exact hSl); (have := hSg (a - (o + 5 + K)) (by omega); rw [show o + 5 + K + (a - (o + 5 + K)) = a by omega] at this; exact this)))) hdc_10 hSf
            have hdrc_10 := aq_rgn (aq_rgs hr sc_9 (by omega)) hdc_10 (by omega)
            have hspc_10 := bx_sn hspc_9 hdc_10 hfo
            refine ae_iinc rfl rfl (am_ri (by omega) (by omega)) ?_
            show am_E _ (136, [vR o, vR f, vI (z + 1), vI i, vI k, vI (tN (((c f i).toNat : Nat) : Int) k)], [], aq_h m s F c_10) _
            refine ae_iinc rfl rfl (am_ri (by omega) (by omega)) ?_
            show am_E _ (139, [vR o, vR f, vI (z + 1), vI i, vI (k + 1), vI (tN (((c f i).toNat : Nat) : Int) k)], [], aq_h m s F c_10) _
            refine am_E.go (t2 := (67, [vR o, vR f, vI (z + 1), vI i, vI (k + 1), vI (tN (((c f i).toNat : Nat) : Int) k)], [], aq_h m s F c_10)) rfl rfl ?_
            exact qb_spell_i ⟨hm, hn1, hn4, hK, hFo, hFd, hFs⟩ hSd hSs hL hGg hGr hSl hSg hNg hNr hNt hKn hf hff hfo hSf hi0 d (z + 1) (k + 1) (vI (tN (((c f i).toNat : Nat) : Int) k)) c_10 sc_10 (by omega) (by omega) (by omega) (by omega) hdrc_10 hspc_10 (bx_fu hfd (fun j => by rw [sc_9 f (by omega)]) hL0c_9 hLoc_9 (by omega) (by omega) hdc_10 (by omega)) (by omega) K0

theorem qb_spell_o {m s : Nat} {F : aq_F} {c0 : aq_C} {S : Nat → Prop} {o n K : Nat} (hB : bx_0 m F o n K) (hSd : S (o + 6 + 3 * K)) (hSs : S (o + 7 + 3 * K)) (hL : F (o + 3 + K) = (0, K, fun _ => .inl 0)) (hGg : F (o + 4 + K) = (3, K, fun j => aq_g K j (o + 5 + K + j))) (hGr : ∀ b, b < K → F (o + 5 + K + b) = (0, 6, fun _ => .inl 0)) (hSl : S (o + 3 + K)) (hSg : ∀ b, b < K → S (o + 5 + K + b)) {tN : Int → Int → Int} (hNg : F (o + 5 + 2 * K) = (3, K, fun j => aq_g K j (o + 6 + 2 * K + j))) (hNr : ∀ b, b < K → F (o + 6 + 2 * K + b) = (0, 2 * n - 2, fun j => .inr (vI (tN (b : Int) (j : Int))))) (hNt : ∀ b k : Int, 0 ≤ b → b < (K : Int) → 0 ≤ k → k < 2 * (n : Int) - 2 → 0 ≤ tN b k) (hKn : (K : Int) = bx_K (n : Int)) {f : Nat} (hf : f < m) (hff : F f = (0, K, fun _ => .inl 0)) (hfo : o + 8 + 3 * K ≤ f) (hSf : S f) : ∀ (d : Nat) (z : Int) (i : Int) (v4 : am_V) (v5 : am_V) (c : aq_C) (hs : aq_sm S c0 c) (h0 : 0 ≤ i) (h1 : i ≤ z) (h3 : z ≤ (K : Int)) (hr : aq_rg (o + 6 + 3 * K) (2 * (n : Int)) 0 (2 * (n : Int)) c) (hsp : bx_sp o n K c) (hfd : bx_fd o K f z c) (hd : (K : Int) - i < (d : Int)), am_E ac_X0_spellAll (51, [vR o, vR f, vI z, vI i, v4, v5], [], aq_h m s F c) (aq_Z m s F S c0 (fun r d => r = none ∧ aq_rg (o + 6 + 3 * K) (2 * (n : Int)) 0 (2 * (n : Int)) d ∧ bx_sp o n K d))
  | 0, z, i, v4, v5, c, hs, h0, h1, h3, hr, hsp, hfd, hd => by exfalso; omega
  | d + 1, z, i, v4, v5, c, hs, h0, h1, h3, hr, hsp, hfd, hd => by
    obtain ⟨hm, hn1, hn4, hK, hFo, hFd, hFs⟩ := hB
    refine am_E.go (t2 := (52, [vR o, vR f, vI z, vI i, v4, v5], [vI i], aq_h m s F c)) rfl rfl ?_
    refine am_E.go (t2 := (53, [vR o, vR f, vI z, vI i, v4, v5], [vI z, vI i], aq_h m s F c)) rfl rfl ?_
    refine ae_icmp rfl (fun (q_1 : z ≤ i) => ?_) (fun (q_1 : i < z) => ?_)
    · refine am_E.ret rfl rfl ?_
      exact ⟨_, rfl, hs, rfl, hr, hsp⟩
    · refine am_E.go (t2 := (57, [vR o, vR f, vI z, vI i, v4, v5], [vI z], aq_h m s F c)) rfl rfl ?_
      refine am_E.go (t2 := (58, [vR o, vR f, vI z, vI i, v4, v5], [vR o, vI z], aq_h m s F c)) rfl rfl ?_
      refine aq_gf (v := vI (K : Int)) rfl (by omega) hFo (by decide) rfl ?_
      show am_E _ (61, [vR o, vR f, vI z, vI i, v4, v5], [vI (K : Int), vI z], aq_h m s F c) _
      refine ae_icmp rfl (fun (q_2 : (K : Int) ≤ z) => ?_) (fun (q_2 : z < (K : Int)) => ?_)
      · refine am_E.ret rfl rfl ?_
        exact ⟨_, rfl, hs, rfl, hr, hsp⟩
      · refine am_E.go (t2 := (65, [vR o, vR f, vI z, vI i, v4, v5], [vI 0], aq_h m s F c)) rfl rfl ?_
        refine am_E.go (t2 := (67, [vR o, vR f, vI z, vI i, vI 0, v5], [], aq_h m s F c)) rfl rfl ?_
        refine qb_spell_i ⟨hm, hn1, hn4, hK, hFo, hFd, hFs⟩ hSd hSs hL hGg hGr hSl hSg hNg hNr hNt hKn hf hff hfo hSf (by omega) 9 z 0 (v5) c hs (by omega) (by omega) (by omega) (by omega) hr hsp hfd (by omega) ?_
        · intro z2_67 k2_67 v52_67 c_3 sc_3 g1_67 g2_67 hr2_67 hsp2_67 hfd2_67
          refine ae_iinc rfl rfl (am_ri (by omega) (by omega)) ?_
          show am_E _ (145, [vR o, vR f, vI z2_67, vI (i + 1), vI k2_67, v52_67], [], aq_h m s F c_3) _
          refine am_E.go (t2 := (51, [vR o, vR f, vI z2_67, vI (i + 1), vI k2_67, v52_67], [], aq_h m s F c_3)) rfl rfl ?_
          exact qb_spell_o ⟨hm, hn1, hn4, hK, hFo, hFd, hFs⟩ hSd hSs hL hGg hGr hSl hSg hNg hNr hNt hKn hf hff hfo hSf d z2_67 (i + 1) (vI k2_67) (v52_67) c_3 sc_3 (by omega) (by omega) (by omega) hr2_67 hsp2_67 hfd2_67 (by omega)

theorem qb_spell_u {m s : Nat} {F : aq_F} {c0 : aq_C} {S : Nat → Prop} {o n K : Nat} (hB : bx_0 m F o n K) (hSd : S (o + 6 + 3 * K)) (hSs : S (o + 7 + 3 * K)) (hL : F (o + 3 + K) = (0, K, fun _ => .inl 0)) (hSl : S (o + 3 + K)) {Z : Option am_V → am_H → Prop} : ∀ (d : Nat) (b : Int) (c : aq_C) (hs : aq_sm S c0 c) (h0 : 0 ≤ b) (h1 : b ≤ (K : Int)) (hr : aq_rg (o + 6 + 3 * K) (2 * (n : Int)) 0 (2 * (n : Int)) c) (hz : ∀ i, 0 ≤ i → i < b → c (o + 3 + K) i = (fun _ => -1) i) (hd : (K : Int) - b < (d : Int)) (K0 : ∀ (b2 : Int) (c2 : aq_C) (hs2 : aq_sm S c0 c2) (hr2 : aq_rg (o + 6 + 3 * K) (2 * (n : Int)) 0 (2 * (n : Int)) c2) (hz2 : ∀ i, 0 ≤ i → i < (K : Int) → c2 (o + 3 + K) i = -1), am_E ac_X0_spellAll (23, [vR o, vI b2, vU, vU, vU, vU], [], aq_h m s F c2) Z), am_E ac_X0_spellAll (2, [vR o, vI b, vU, vU, vU, vU], [], aq_h m s F c) Z
  | 0, b, c, hs, h0, h1, hr, hz, hd, K0 => by exfalso; omega
  | d + 1, b, c, hs, h0, h1, hr, hz, hd, K0 => by
    obtain ⟨hm, hn1, hn4, hK, hFo, hFd, hFs⟩ := hB
    refine am_E.go (t2 := (3, [vR o, vI b, vU, vU, vU, vU], [vI b], aq_h m s F c)) rfl rfl ?_
    refine am_E.go (t2 := (4, [vR o, vI b, vU, vU, vU, vU], [vR o, vI b], aq_h m s F c)) rfl rfl ?_
    refine aq_gf (v := vI (K : Int)) rfl (by omega) hFo (by decide) rfl ?_
    show am_E _ (7, [vR o, vI b, vU, vU, vU, vU], [vI (K : Int), vI b], aq_h m s F c) _
    refine ae_icmp rfl (fun (q_1 : (K : Int) ≤ b) => ?_) (fun (q_1 : b < (K : Int)) => ?_)
    · exact K0 b c hs hr (fun i i0 i1 => hz i i0 (by omega))
    · refine am_E.go (t2 := (11, [vR o, vI b, vU, vU, vU, vU], [vR o], aq_h m s F c)) rfl rfl ?_
      refine aq_gf (v := vR (o + 3 + K)) rfl (by omega) hFo (by decide) rfl ?_
      show am_E _ (14, [vR o, vI b, vU, vU, vU, vU], [vR (o + 3 + K)], aq_h m s F c) _
      refine am_E.go (t2 := (15, [vR o, vI b, vU, vU, vU, vU], [vI b, vR (o + 3 + K)], aq_h m s F c)) rfl rfl ?_
      refine am_E.go (t2 := (16, [vR o, vI b, vU, vU, vU, vU], [vI (-1), vI b, vR (o + 3 + K)], aq_h m s F c)) rfl rfl ?_
      refine aq_as (kd := 0) rfl rfl (by omega) hL (by omega) (by omega) rfl rfl ?_
      show am_E _ (17, [vR o, vI b, vU, vU, vU, vU], [], aq_h m s F (aq_u c (o + 3 + K) b (-1))) _
      generalize hdc_2 : aq_u c (o + 3 + K) b (-1) = c_2
      have sc_2 := aq_smu hs hdc_2 hSl
      have hdrc_2 := aq_rgn hr hdc_2 (by omega)
      refine ae_iinc rfl rfl (am_ri (by omega) (by omega)) ?_
      show am_E _ (20, [vR o, vI (b + 1), vU, vU, vU, vU], [], aq_h m s F c_2) _
      refine am_E.go (t2 := (2, [vR o, vI (b + 1), vU, vU, vU, vU], [], aq_h m s F c_2)) rfl rfl ?_
      exact qb_spell_u ⟨hm, hn1, hn4, hK, hFo, hFd, hFs⟩ hSd hSs hL hSl d (b + 1) c_2 sc_2 (by omega) (by omega) hdrc_2 (aq_fl hz hdc_2 rfl) (by omega) K0
/-! Boxes: listPairings and spellAll, whole; the loop over rings. Printed by wip/p20/sx/gBF.py. -/

theorem bx_0m {m m2 o n K : Nat} {F F2 : aq_F} (hB : bx_0 m F o n K) (h : ∀ a, a < o + 8 + 3 * K → F2 a = F a) (hm : m ≤ m2) : bx_0 m2 F2 o n K := by
  obtain ⟨k1, k2, k3, k4, k5, k6, k7⟩ := hB
  exact ⟨by omega, k2, k3, k4, by rw [h _ (by omega)]; exact k5, by rw [h _ (by omega)]; exact k6, by rw [h _ (by omega)]; exact k7⟩
theorem dgm_0 (n k : Int) : dgm n 0 k = 0 := by
  unfold dgm
  (repeat' split) <;> rfl
theorem bx_s0 {o n K : Nat} {c d : aq_C} {v : Int} (hz : ∀ i, 0 ≤ i → i < (K : Int) → c (o + 3 + K) i = -1) (he : aq_u c (o + 3 + K) v 0 = d) : bx_sp o n K d := by
  intro b hb
  have h1 := hz (b : Int) (by omega) (by omega)
  have h2 : d (o + 3 + K) (b : Int) = 0 ∨ d (o + 3 + K) (b : Int) = -1 := by
    rw [← he]
    unfold aq_u
    split
    · exact Or.inl rfl
    · exact Or.inr h1
  exact ⟨by omega, by omega, fun i i0 i1 => absurd i1 (by omega)⟩
theorem bx_f0 {o K f : Nat} {d e : aq_C} {v : Int} (hv : d f 0 = v) (h0 : 0 ≤ v) (h1 : v < (K : Int)) (h2 : aq_u d (o + 3 + K) v 0 = e) (hf : f ≠ o + 3 + K) : bx_fd o K f 1 e := by
  intro j j0 j1
  have ej : j = 0 := by omega
  have e1 : e f 0 = v := by rw [← h2, aq_un (Or.inl hf)]; exact hv
  rw [ej, e1, ← h2, aq_us]
  exact ⟨h0, h1, by omega⟩

theorem qb_listPairings {m s : Nat} {F : aq_F} {c : aq_C} {o n K : Nat} (hB : bx_0 m F o n K) (hKn : (K : Int) = bx_K (n : Int)) (hPg : F (o + 1) = (3, K, fun j => aq_g K j (o + 2 + j))) (hPr : ∀ b, b < K → F (o + 2 + b) = (0, 2 * n, fun _ => .inl 0)) : am_E ac_X0_listPairings (0, [vR o, vU, vU], [], aq_h m s F c) (fun r h2 => ∃ (s2 : Nat) (F2 : aq_F) (d : aq_C), r = none ∧ h2 = aq_h (m + 1) s2 F2 d ∧ s2 = s + n ∧ (∀ a, a ≠ m → F2 a = F a) ∧ aq_sm (fun a => a = o + 7 + 3 * K ∨ a = m ∨ (o + 2 ≤ a ∧ a < o + 2 + K)) c d ∧ ∀ b i : Int, 0 ≤ b → b < (K : Int) → 0 ≤ i → i < 2 * (n : Int) → d (o + 2 + b.toNat) i = prt (n : Int) b i) := by
  obtain ⟨hm, hn1, hn4, hK, hFo, hFd, hFs⟩ := hB
  refine am_E.go (t2 := (1, [vR o, vU, vU], [vR o], aq_h m s F c)) rfl rfl ?_
  refine aq_gf (v := vI (n : Int)) rfl (by omega) hFo (by decide) rfl ?_
  refine aq_nwa (n := n) (a := m) (m2 := m + 1) rfl (by decide) rfl (by omega) rfl rfl ?_
  intro s2 F2 c2 es e1 e2 e3 e4
  refine am_E.go (t2 := (7, [vR o, vR m, vU], [], aq_h (m + 1) s2 F2 c2)) rfl rfl ?_
  refine am_E.go (t2 := (8, [vR o, vR m, vU], [vI 0], aq_h (m + 1) s2 F2 c2)) rfl rfl ?_
  refine am_E.go (t2 := (9, [vR o, vR m, vI 0], [], aq_h (m + 1) s2 F2 c2)) rfl rfl ?_
  have hB2 : bx_0 (m + 1) F2 o n K := bx_0m ⟨hm, hn1, hn4, hK, hFo, hFd, hFs⟩ (fun a ha => e2 a (by omega)) (by omega)
  refine am_E.imp (qb_list_l hB2 hKn (by rw [e2 _ (by omega)]; exact hPg) (fun b hb => by rw [e2 _ (by omega)]; exact hPr b hb) (ap := m) (by omega) e1 (by omega) 106 0 c2 aq_sm0 (by omega) (by omega) (fun _ i _ _ => by rw [e3, dgm_0]) (fun b2 i k0 k1 => absurd k1 (by omega)) (by omega)) ?_
  rintro r h2 ⟨d, rfl, g2, rfl, g4⟩
  refine ⟨s2, F2, d, rfl, rfl, es, e2, fun a ha i => ?_, g4⟩
  rw [g2 a ha i]
  exact e4 a (by omega) i

theorem qb_rings_l {m s : Nat} {F : aq_F} {c0 : aq_C} {S : Nat → Prop} {o n K : Nat} (hB : bx_0 m F o n K) (hSd : S (o + 6 + 3 * K)) (hSs : S (o + 7 + 3 * K)) {tP : Int → Int → Int} (hP : bx_p F o n K tP) (hR : F (o + 2 + K) = (0, K, fun _ => .inl 0)) (hSr : S (o + 2 + K)) {nn : Int} {Z : Option am_V → am_H → Prop} : ∀ (d : Nat) (b : Int) (c : aq_C) (hs : aq_sm S c0 c) (h0 : 0 ≤ b) (h1 : b ≤ (K : Int)) (hr : aq_rg (o + 6 + 3 * K) (2 * (n : Int)) 0 (2 * (n : Int)) c) (hg : aq_rg (o + 2 + K) (K : Int) 0 9 c) (hd : (K : Int) - b < (d : Int)) (K0 : ∀ (b2 : Int) (c2 : aq_C) (hs2 : aq_sm S c0 c2) (hr2 : aq_rg (o + 6 + 3 * K) (2 * (n : Int)) 0 (2 * (n : Int)) c2) (hg2 : aq_rg (o + 2 + K) (K : Int) 0 9 c2), am_E ac_X0_init (158, [vR o, vI nn, vI b2], [], aq_h m s F c2) Z), am_E ac_X0_init (128, [vR o, vI nn, vI b], [], aq_h m s F c) Z
  | 0, b, c, hs, h0, h1, hr, hg, hd, K0 => by exfalso; omega
  | d + 1, b, c, hs, h0, h1, hr, hg, hd, K0 => by
    obtain ⟨hm, hn1, hn4, hK, hFo, hFd, hFs⟩ := hB
    obtain ⟨hPg, hPr, hPt⟩ := hP
    refine am_E.go (t2 := (129, [vR o, vI nn, vI b], [vI b], aq_h m s F c)) rfl rfl ?_
    refine am_E.go (t2 := (130, [vR o, vI nn, vI b], [vR o, vI b], aq_h m s F c)) rfl rfl ?_
    refine aq_gf (v := vI (K : Int)) rfl (by omega) hFo (by decide) rfl ?_
    show am_E _ (133, [vR o, vI nn, vI b], [vI (K : Int), vI b], aq_h m s F c) _
    refine ae_icmp rfl (fun (q_1 : (K : Int) ≤ b) => ?_) (fun (q_1 : b < (K : Int)) => ?_)
    · exact K0 b c hs hr hg
    · refine am_E.go (t2 := (137, [vR o, vI nn, vI b], [vR o], aq_h m s F c)) rfl rfl ?_
      refine aq_gf (v := vR (o + 2 + K)) rfl (by omega) hFo (by decide) rfl ?_
      show am_E _ (140, [vR o, vI nn, vI b], [vR (o + 2 + K)], aq_h m s F c) _
      refine am_E.go (t2 := (141, [vR o, vI nn, vI b], [vI b, vR (o + 2 + K)], aq_h m s F c)) rfl rfl ?_
      refine am_E.go (t2 := (142, [vR o, vI nn, vI b], [vR o, vI b, vR (o + 2 + K)], aq_h m s F c)) rfl rfl ?_
      refine am_E.go (t2 := (143, [vR o, vI nn, vI b], [vR o, vR o, vI b, vR (o + 2 + K)], aq_h m s F c)) rfl rfl ?_
      refine aq_gf (v := vR (o + 1)) rfl (by omega) hFo (by decide) rfl ?_
      show am_E _ (146, [vR o, vI nn, vI b], [vR (o + 1), vR o, vI b, vR (o + 2 + K)], aq_h m s F c) _
      refine am_E.go (t2 := (147, [vR o, vI nn, vI b], [vI b, vR (o + 1), vR o, vI b, vR (o + 2 + K)], aq_h m s F c)) rfl rfl ?_
      refine aq_al (ok := fun k => decide (3 ≤ k) && decide (k < 7)) (v := vR (o + 2 + b.toNat)) rfl rfl (by omega) hPg rfl (by omega) (by omega) (aq_gi (by omega)) ?_
      show am_E _ (148, [vR o, vI nn, vI b], [vR (o + 2 + b.toNat), vR o, vI b, vR (o + 2 + K)], aq_h m s F c) _
      refine aq_callv (y := 2) (as2 := [vR (o + 2 + b.toNat)]) (rest := [vI b, vR (o + 2 + K)]) rfl rfl (by decide) (Nat.le_of_ble_eq_true rfl) rfl rfl (Nat.le_of_ble_eq_true rfl) (by omega) hFo rfl (Nat.le_of_ble_eq_true rfl) (qb_closeRings (S := fun a => a = o + 7 + 3 * K) ⟨hm, hn1, hn4, hK, hFo, hFd, hFs⟩ rfl ⟨hPg, hPr, hPt⟩ (x := b) (by omega) (by omega)) ?_
      rintro r5 h5 ⟨c_2, rfl, sc_2, vc_2, rfl, hv0c_2, hv1c_2⟩
      show am_E _ (151, [vR o, vI nn, vI b], [vI vc_2, vI b, vR (o + 2 + K)], aq_h m s F c_2) _
      refine aq_as (kd := 0) rfl rfl (by omega) hR (by omega) (by omega) rfl rfl ?_
      show am_E _ (152, [vR o, vI nn, vI b], [], aq_h m s F (aq_u c_2 (o + 2 + K) b vc_2)) _
      generalize hdc_3 : aq_u c_2 (o + 2 + K) b vc_2 = c_3
      have sc_3 := aq_smu (aq_smt hs (aq_smi sc_2 (fun a h => by rw [h]; exact hSs))) hdc_3 hSr
      have hdrc_3 := aq_rgn (aq_rgs hr sc_2 (by omega)) hdc_3 (by omega)
      have hrgc_3 := aq_rgu (aq_rgs hg sc_2 (by omega)) hdc_3 (by omega) (by omega)
      refine ae_iinc rfl rfl (am_ri (by omega) (by omega)) ?_
      show am_E _ (155, [vR o, vI nn, vI (b + 1)], [], aq_h m s F c_3) _
      refine am_E.go (t2 := (128, [vR o, vI nn, vI (b + 1)], [], aq_h m s F c_3)) rfl rfl ?_
      exact qb_rings_l ⟨hm, hn1, hn4, hK, hFo, hFd, hFs⟩ hSd hSs ⟨hPg, hPr, hPt⟩ hR hSr d (b + 1) c_3 sc_3 (by omega) (by omega) hdrc_3 hrgc_3 (by omega) K0

theorem qb_spellAll {m s : Nat} {F : aq_F} {c : aq_C} {o n K : Nat} (hB : bx_0 m F o n K) (hKn : (K : Int) = bx_K (n : Int)) (hK1 : 1 ≤ K) (hL : F (o + 3 + K) = (0, K, fun _ => .inl 0)) (hGg : F (o + 4 + K) = (3, K, fun j => aq_g K j (o + 5 + K + j))) (hGr : ∀ b, b < K → F (o + 5 + K + b) = (0, 6, fun _ => .inl 0)) {tN : Int → Int → Int} (hNg : F (o + 5 + 2 * K) = (3, K, fun j => aq_g K j (o + 6 + 2 * K + j))) (hNr : ∀ b, b < K → F (o + 6 + 2 * K + b) = (0, 2 * n - 2, fun j => .inr (vI (tN (b : Int) (j : Int))))) (hNt : ∀ b k : Int, 0 ≤ b → b < (K : Int) → 0 ≤ k → k < 2 * (n : Int) - 2 → 0 ≤ tN b k) (hr : aq_rg (o + 6 + 3 * K) (2 * (n : Int)) 0 (2 * (n : Int)) c) : am_E ac_X0_spellAll (0, [vR o, vU, vU, vU, vU, vU], [], aq_h m s F c) (fun r h2 => ∃ (s2 : Nat) (F2 : aq_F) (d : aq_C), r = none ∧ h2 = aq_h (m + 1) s2 F2 d ∧ s2 = s + K ∧ (∀ a, a ≠ m → F2 a = F a) ∧ aq_sm (fun a => a = o + 6 + 3 * K ∨ a = o + 7 + 3 * K ∨ a = o + 3 + K ∨ (o + 5 + K ≤ a ∧ a < o + 5 + K + K) ∨ a = m) c d ∧ aq_rg (o + 6 + 3 * K) (2 * (n : Int)) 0 (2 * (n : Int)) d ∧ bx_sp o n K d) := by
  obtain ⟨hm, hn1, hn4, hK, hFo, hFd, hFs⟩ := hB
  refine am_E.go (t2 := (1, [vR o, vU, vU, vU, vU, vU], [vI 0], aq_h m s F c)) rfl rfl ?_
  refine am_E.go (t2 := (2, [vR o, vI 0, vU, vU, vU, vU], [], aq_h m s F c)) rfl rfl ?_
  refine qb_spell_u (S := (fun a => a = o + 6 + 3 * K ∨ a = o + 7 + 3 * K ∨ a = o + 3 + K ∨ (o + 5 + K ≤ a ∧ a < o + 5 + K + K) ∨ a = m)) ⟨hm, hn1, hn4, hK, hFo, hFd, hFs⟩ (by omega) (by omega) hL (by omega) 106 0 c (aq_sm0 (c := c)) (by omega) (by omega) hr (fun i h1 h2 => absurd h2 (by omega)) (by omega) ?_
  intro b1 c1 s1 hr1 hz1
  refine am_E.go (t2 := (24, [vR o, vI b1, vU, vU, vU, vU], [vR o], aq_h m s F c1)) rfl rfl ?_
  refine aq_gf (v := vI (K : Int)) rfl (by omega) hFo (by decide) rfl ?_
  refine aq_nwa (n := K) (a := m) (m2 := m + 1) rfl (by decide) rfl (by omega) rfl rfl ?_
  intro s2 F2 c2 es e1 e2 e3 e4
  have hB2 : bx_0 (m + 1) F2 o n K := bx_0m ⟨hm, hn1, hn4, hK, hFo, hFd, hFs⟩ (fun a ha => e2 a (by omega)) (by omega)
  have hL2 : F2 (o + 3 + K) = (0, K, fun _ => .inl 0) := by rw [e2 _ (by omega)]; exact hL
  have hGg2 : F2 (o + 4 + K) = (3, K, fun j => aq_g K j (o + 5 + K + j)) := by rw [e2 _ (by omega)]; exact hGg
  have hGr2 : ∀ b, b < K → F2 (o + 5 + K + b) = (0, 6, fun _ => .inl 0) := fun b hb => by rw [e2 _ (by omega)]; exact hGr b hb
  have hNg2 : F2 (o + 5 + 2 * K) = (3, K, fun j => aq_g K j (o + 6 + 2 * K + j)) := by rw [e2 _ (by omega)]; exact hNg
  have hNr2 : ∀ b, b < K → F2 (o + 6 + 2 * K + b) = (0, 2 * n - 2, fun j => .inr (vI (tN (b : Int) (j : Int)))) := fun b hb => by rw [e2 _ (by omega)]; exact hNr b hb
  have hr2 : aq_rg (o + 6 + 3 * K) (2 * (n : Int)) 0 (2 * (n : Int)) c2 := fun i i0 i1 => by rw [e4 _ (by omega)]; exact hr1 i i0 i1
  have hz2 : ∀ i, 0 ≤ i → i < (K : Int) → c2 (o + 3 + K) i = -1 := fun i i0 i1 => by rw [e4 _ (by omega)]; exact hz1 i i0 i1
  refine am_E.imp (Z := aq_Z (m + 1) s2 F2 (fun a => a = o + 6 + 3 * K ∨ a = o + 7 + 3 * K ∨ a = o + 3 + K ∨ (o + 5 + K ≤ a ∧ a < o + 5 + K + K) ∨ a = m) c2 (fun r d => r = none ∧ aq_rg (o + 6 + 3 * K) (2 * (n : Int)) 0 (2 * (n : Int)) d ∧ bx_sp o n K d)) ?_ ?_
  · obtain ⟨hm, hn1, hn4, hK, hFo, hFd, hFs⟩ := hB2
    show am_E _ (29, [vR o, vI b1, vU, vU, vU, vU], [vR m], aq_h (m + 1) s2 F2 c2) _
    refine am_E.go (t2 := (30, [vR o, vR m, vU, vU, vU, vU], [], aq_h (m + 1) s2 F2 c2)) rfl rfl ?_
    refine am_E.go (t2 := (31, [vR o, vR m, vU, vU, vU, vU], [vR m], aq_h (m + 1) s2 F2 c2)) rfl rfl ?_
    refine am_E.go (t2 := (32, [vR o, vR m, vU, vU, vU, vU], [vI 0, vR m], aq_h (m + 1) s2 F2 c2)) rfl rfl ?_
    refine am_E.go (t2 := (33, [vR o, vR m, vU, vU, vU, vU], [vR o, vI 0, vR m], aq_h (m + 1) s2 F2 c2)) rfl rfl ?_
    refine am_E.go (t2 := (34, [vR o, vR m, vU, vU, vU, vU], [vI 0, vR o, vI 0, vR m], aq_h (m + 1) s2 F2 c2)) rfl rfl ?_
    refine aq_callv (y := 2) (as2 := [vI 0]) (rest := [vI 0, vR m]) rfl rfl (by decide) (Nat.le_of_ble_eq_true rfl) rfl rfl (Nat.le_of_ble_eq_true rfl) (by omega) hFo rfl (Nat.le_of_ble_eq_true rfl) (qb_ofLetter ⟨hm, hn1, hn4, hK, hFo, hFd, hFs⟩ hKn (by omega) hr2) ?_
    rintro r5 h5 ⟨c_51, rfl, sc_51, hrc_51, vc_51, rfl, hv0c_51, hv1c_51⟩
    show am_E _ (37, [vR o, vR m, vU, vU, vU, vU], [vI vc_51, vI 0, vR m], aq_h (m + 1) s2 F2 c_51) _
    refine aq_as (kd := 0) rfl rfl (by omega) e1 (by omega) (by omega) rfl rfl ?_
    show am_E _ (38, [vR o, vR m, vU, vU, vU, vU], [], aq_h (m + 1) s2 F2 (aq_u c_51 m 0 vc_51)) _
    generalize hdc_52 : aq_u c_51 m 0 vc_51 = c_52
    have sc_52 := aq_smu (aq_smt (aq_sm0 (c := c2) (S := (fun a => a = o + 6 + 3 * K ∨ a = o + 7 + 3 * K ∨ a = o + 3 + K ∨ (o + 5 + K ≤ a ∧ a < o + 5 + K + K) ∨ a = m))) (aq_smi sc_51 (fun a h => by omega))) hdc_52 (by omega)
    have hdrc_52 := aq_rgn hrc_51 hdc_52 (by omega)
    refine am_E.go (t2 := (39, [vR o, vR m, vU, vU, vU, vU], [vR o], aq_h (m + 1) s2 F2 c_52)) rfl rfl ?_
    refine aq_gf (v := vR (o + 3 + K)) rfl (by omega) hFo (by decide) rfl ?_
    show am_E _ (42, [vR o, vR m, vU, vU, vU, vU], [vR (o + 3 + K)], aq_h (m + 1) s2 F2 c_52) _
    refine am_E.go (t2 := (43, [vR o, vR m, vU, vU, vU, vU], [vR m, vR (o + 3 + K)], aq_h (m + 1) s2 F2 c_52)) rfl rfl ?_
    refine am_E.go (t2 := (44, [vR o, vR m, vU, vU, vU, vU], [vI 0, vR m, vR (o + 3 + K)], aq_h (m + 1) s2 F2 c_52)) rfl rfl ?_
    refine aq_al (ok := fun k => k == 0) (v := vI (c_52 m 0)) rfl rfl (by omega) e1 rfl (by omega) (by omega) rfl ?_
    show am_E _ (45, [vR o, vR m, vU, vU, vU, vU], [vI (c_52 m 0), vR (o + 3 + K)], aq_h (m + 1) s2 F2 c_52) _
    have f_53 : c_52 m 0 = vc_51 := by rw [← hdc_52, aq_us]
    refine am_E.go (t2 := (46, [vR o, vR m, vU, vU, vU, vU], [vI 0, vI (c_52 m 0), vR (o + 3 + K)], aq_h (m + 1) s2 F2 c_52)) rfl rfl ?_
    refine aq_as (kd := 0) rfl rfl (by omega) hL2 (by omega) (by omega) rfl rfl ?_
    show am_E _ (47, [vR o, vR m, vU, vU, vU, vU], [], aq_h (m + 1) s2 F2 (aq_u c_52 (o + 3 + K) (c_52 m 0) 0)) _
    generalize hdc_54 : aq_u c_52 (o + 3 + K) (c_52 m 0) 0 = c_54
    have sc_54 := aq_smu sc_52 hdc_54 (by omega)
    have hdrc_54 := aq_rgn hdrc_52 hdc_54 (by omega)
    refine am_E.go (t2 := (48, [vR o, vR m, vU, vU, vU, vU], [vI 1], aq_h (m + 1) s2 F2 c_54)) rfl rfl ?_
    refine am_E.go (t2 := (49, [vR o, vR m, vI 1, vU, vU, vU], [], aq_h (m + 1) s2 F2 c_54)) rfl rfl ?_
    refine am_E.go (t2 := (50, [vR o, vR m, vI 1, vU, vU, vU], [vI 0], aq_h (m + 1) s2 F2 c_54)) rfl rfl ?_
    refine am_E.go (t2 := (51, [vR o, vR m, vI 1, vI 0, vU, vU], [], aq_h (m + 1) s2 F2 c_54)) rfl rfl ?_
    exact qb_spell_o (S := (fun a => a = o + 6 + 3 * K ∨ a = o + 7 + 3 * K ∨ a = o + 3 + K ∨ (o + 5 + K ≤ a ∧ a < o + 5 + K + K) ∨ a = m)) ⟨hm, hn1, hn4, hK, hFo, hFd, hFs⟩ (by omega) (by omega) hL2 hGg2 hGr2 (by omega) (fun b hb => by omega) hNg2 hNr2 hNt hKn (f := m) (by omega) e1 (by omega) (by omega) 106 1 0 (vU) (vU) c_54 sc_54 (by omega) (by omega) (by omega) hdrc_54 (bx_s0 (fun i i0 i1 => by rw [← hdc_52, aq_un (Or.inl (by omega)), sc_51 _ (by omega)]; exact hz2 i i0 i1) hdc_54) (bx_f0 rfl (by omega) (by omega) hdc_54 (by omega)) (by omega)
  · rintro r h2 ⟨d, rfl, g2, rfl, g4, g5⟩
    refine ⟨s2, F2, d, rfl, rfl, es, e2, fun a ha i => ?_, g4, g5⟩
    rw [g2 a ha i, e4 a (by omega) i]
    exact s1 a ha i
/-! Boxes: the constructor, whole. -/
def bx_Z (o n K sT : Nat) (F : aq_F) (c : aq_C) : Option am_V → am_H → Prop := fun r h2 => ∃ (s2 : Nat) (F2 : aq_F) (c2 : aq_C), r = none ∧ h2 = aq_h (o + 10 + 3 * K) s2 F2 c2 ∧ s2 ≤ sT ∧ sb_B (o + 10 + 3 * K) F2 o n K ∧ (∀ b, b < o → F2 b = F b) ∧ (∀ b, b < o → ∀ j, c2 b j = c b j) ∧ aq_rg (o + 6 + 3 * K) (2 * (n : Int)) 0 (2 * (n : Int)) c2
theorem qb_ini1 {m s : Nat} {F : aq_F} {c : aq_C} {o n K : Nat} {tP : Int → Int → Int} (hm : m = o + 9 + 3 * K) (h1 : 1 ≤ n) (h4 : n ≤ 4) (hK : (K : Int) = bx_K (n : Int)) (hB : bx_0 m F o n K) (hP : bx_p F o n K tP) (hfi : ∀ x : Int, 0 ≤ x → x < (K : Int) → fi (n : Int) (tP ((x.toNat : Nat) : Int)))
    (hR : F (o + 2 + K) = (0, K, fun _ => .inl 0)) (hL : F (o + 3 + K) = (0, K, fun _ => .inl 0)) (hGg : F (o + 4 + K) = (3, K, fun j => aq_g K j (o + 5 + K + j))) (hGr : ∀ b, b < K → F (o + 5 + K + b) = (0, 6, fun _ => .inl 0)) (hNg : F (o + 5 + 2 * K) = (3, K, fun j => aq_g K j (o + 6 + 2 * K + j))) (hNr : ∀ b, b < K → F (o + 6 + 2 * K + b) = (0, 2 * n - 2, fun _ => .inl 0))
    (hz : ∀ b, o + 2 + K ≤ b → b < o + 7 + 3 * K → ∀ j, c b j = 0) : am_E ac_X0_init (128, [vR o, vI (n : Int), vI 0], [], aq_h m s F c) (bx_Z o n K (s + K) F c) := by
  have hKb := bx_K105 h1 h4 hK
  refine qb_rings_l (S := fun a => a = o + 6 + 3 * K ∨ a = o + 7 + 3 * K ∨ a = o + 2 + K) hB (Or.inl rfl) (Or.inr (Or.inl rfl)) hP hR (Or.inr (Or.inr rfl)) 106 0 c (aq_sm0 (c := c)) (by omega) (by omega) (fun i i0 i1 => by rw [hz _ (by omega) (by omega)]; omega) (fun i i0 i1 => by rw [hz _ (by omega) (by omega)]; omega) (by omega) ?_
  intro b1 c1 s1 r1 g1
  have hFo := hB.2.2.2.2.1
  refine am_E.go (t2 := (159, [vR o, vI (n : Int), vI b1], [vR o], aq_h m s F c1)) rfl rfl ?_
  refine aq_callv (y := 1) (as2 := []) (rest := []) rfl rfl (by decide) (Nat.le_of_ble_eq_true rfl) rfl rfl (Nat.le_of_ble_eq_true rfl) (by omega) hFo rfl (Nat.le_of_ble_eq_true rfl) (qb_stackLetters (S := fun a => a = o + 6 + 3 * K ∨ a = o + 7 + 3 * K ∨ (o + 6 + 2 * K ≤ a ∧ a < o + 6 + 3 * K)) hB (Or.inl rfl) (Or.inr (Or.inl rfl)) hP hNg hNr (fun b hb => Or.inr (Or.inr (by omega))) hK hfi r1 (fun b hb k k0 k1 => by rw [s1 _ (by omega), hz _ (by omega) (by omega)]; omega)) ?_
  rintro r5 h5 ⟨c2, rfl, s2, rfl, r2, n2⟩
  show am_E _ (162, [vR o, vI (n : Int), vI b1], [], aq_h m s F c2) _
  have g2 : aq_rg (o + 2 + K) (K : Int) 0 9 c2 := aq_rgs g1 s2 (by omega)
  have f0 : ∀ a, (a = o + 2 + K ∨ (o + 6 + 2 * K ≤ a ∧ a < o + 6 + 3 * K)) → ∃ w, F a = (0, w, fun _ => .inl 0) := by
    intro a ha
    rcases ha with ha | ha
    · exact ⟨K, by rw [ha]; exact hR⟩
    · have := hNr (a - (o + 6 + 2 * K)) (by omega)
      rw [show o + 6 + 2 * K + (a - (o + 6 + 2 * K)) = a by omega] at this
      exact ⟨_, this⟩
  rw [aq_fzh f0]
  have y1 : ∀ a, ¬ (a = o + 2 + K ∨ (o + 6 + 2 * K ≤ a ∧ a < o + 6 + 3 * K)) → aq_fz (fun a => a = o + 2 + K ∨ (o + 6 + 2 * K ≤ a ∧ a < o + 6 + 3 * K)) F c2 a = F a := fun a ha => aq_fzn ha
  have y2 : aq_fz (fun a => a = o + 2 + K ∨ (o + 6 + 2 * K ≤ a ∧ a < o + 6 + 3 * K)) F c2 (o + 2 + K) = (0, K, fun j => .inr (vI (c2 (o + 2 + K) (j : Int)))) := aq_fzy (Or.inl rfl) hR
  have y3 : ∀ b, b < K → aq_fz (fun a => a = o + 2 + K ∨ (o + 6 + 2 * K ≤ a ∧ a < o + 6 + 3 * K)) F c2 (o + 6 + 2 * K + b) = (0, 2 * n - 2, fun j => .inr (vI (c2 (o + 6 + 2 * K + ((b : Int)).toNat) (j : Int)))) := fun b hb => by
    rw [Int.toNat_natCast]
    exact aq_fzy (Or.inr (by omega)) (hNr b hb)
  generalize aq_fz (fun a => a = o + 2 + K ∨ (o + 6 + 2 * K ≤ a ∧ a < o + 6 + 3 * K)) F c2 = F3 at y1 y2 y3 ⊢
  have hB3 : bx_0 m F3 o n K := by
    obtain ⟨k1, k2, k3, k4, k5, k6, k7⟩ := hB
    exact ⟨k1, k2, k3, k4, by rw [y1 _ (by omega)]; exact k5, by rw [y1 _ (by omega)]; exact k6, by rw [y1 _ (by omega)]; exact k7⟩
  have hP3 : bx_p F3 o n K tP := ⟨by rw [y1 _ (by omega)]; exact hP.1, fun b hb => by rw [y1 _ (by omega)]; exact hP.2.1 b hb, hP.2.2⟩
  have hNt3 : ∀ b k : Int, 0 ≤ b → b < (K : Int) → 0 ≤ k → k < 2 * (n : Int) - 2 → 0 ≤ c2 (o + 6 + 2 * K + b.toNat) k ∧ c2 (o + 6 + 2 * K + b.toNat) k < 5000 ∧ c2 (o + 6 + 2 * K + b.toNat) k % 1000 < (K : Int) := fun b k b0 b1 k0 k1 => n2 b.toNat (by omega) k k0 k1
  refine am_E.go (t2 := (163, [vR o, vI (n : Int), vI b1], [vR o], aq_h m s F3 c2)) rfl rfl ?_
  refine aq_callv (y := 1) (as2 := []) (rest := []) rfl rfl (by decide) (Nat.le_of_ble_eq_true rfl) rfl rfl (Nat.le_of_ble_eq_true rfl) (by omega) hB3.2.2.2.2.1 rfl (Nat.le_of_ble_eq_true rfl) (qb_spellAll hB3 hK hKb.1 (by rw [y1 _ (by omega)]; exact hL) (by rw [y1 _ (by omega)]; exact hGg) (fun b hb => by rw [y1 _ (by omega)]; exact hGr b hb) (tN := fun b k => c2 (o + 6 + 2 * K + b.toNat) k) (by rw [y1 _ (by omega)]; exact hNg) y3 (fun b k b0 b1 k0 k1 => (hNt3 b k b0 b1 k0 k1).1) r2) ?_
  rintro r6 h6 ⟨s4, F4, c4, rfl, rfl, es, y4, s5, r4, sp⟩
  show am_E _ (166, [vR o, vI (n : Int), vI b1], [], aq_h (m + 1) s4 F4 c4) _
  have f4 : ∀ a, (a = o + 3 + K ∨ (o + 5 + K ≤ a ∧ a < o + 5 + 2 * K)) → ∃ w, F4 a = (0, w, fun _ => .inl 0) := by
    intro a ha
    rcases ha with ha | ha
    · exact ⟨K, by rw [ha, y4 _ (by omega), y1 _ (by omega)]; exact hL⟩
    · have := hGr (a - (o + 5 + K)) (by omega)
      rw [show o + 5 + K + (a - (o + 5 + K)) = a by omega] at this
      exact ⟨_, by rw [y4 _ (by omega), y1 _ (by omega)]; exact this⟩
  rw [aq_fzh f4]
  have z1 : ∀ a, ¬ (a = o + 3 + K ∨ (o + 5 + K ≤ a ∧ a < o + 5 + 2 * K)) → aq_fz (fun a => a = o + 3 + K ∨ (o + 5 + K ≤ a ∧ a < o + 5 + 2 * K)) F4 c4 a = F4 a := fun a ha => aq_fzn ha
  have z2 : aq_fz (fun a => a = o + 3 + K ∨ (o + 5 + K ≤ a ∧ a < o + 5 + 2 * K)) F4 c4 (o + 3 + K) = (0, K, fun j => .inr (vI (c4 (o + 3 + K) (j : Int)))) := aq_fzy (Or.inl rfl) (by rw [y4 _ (by omega), y1 _ (by omega)]; exact hL)
  have z3 : ∀ b, b < K → aq_fz (fun a => a = o + 3 + K ∨ (o + 5 + K ≤ a ∧ a < o + 5 + 2 * K)) F4 c4 (o + 5 + K + b) = (0, 6, fun j => .inr (vI (c4 (o + 5 + K + ((b : Int)).toNat) (j : Int)))) := fun b hb => by
    rw [Int.toNat_natCast]
    exact aq_fzy (Or.inr (by omega)) (by rw [y4 _ (by omega), y1 _ (by omega)]; exact hGr b hb)
  generalize aq_fz (fun a => a = o + 3 + K ∨ (o + 5 + K ≤ a ∧ a < o + 5 + 2 * K)) F4 c4 = F5 at z1 z2 z3 ⊢
  have hF5 : ∀ a, a ≠ m → ¬ (a = o + 3 + K ∨ (o + 5 + K ≤ a ∧ a < o + 5 + 2 * K)) → F5 a = F3 a := fun a ha1 ha2 => by rw [z1 a ha2, y4 a ha1]
  refine am_E.ret rfl rfl ⟨s4, F5, c4, rfl, ?_, by omega, ⟨tP, fun b i => c4 (o + 5 + K + b.toNat) i, fun b k => c2 (o + 6 + 2 * K + b.toNat) k, fun i => c2 (o + 2 + K) i, fun i => c4 (o + 3 + K) i, ?_, ?_, ⟨z2, ?_, z3, ?_, fun b hb => ?_, fun b b0 b1 => ?_, fun b i b0 b1 i0 i1 => ?_, hNt3⟩, ⟨?_, fun b b0 b1 => ?_⟩, ?_⟩, fun b hb => ?_, fun b hb j => ?_, r4⟩
  · rw [show o + 10 + 3 * K = m + 1 by omega]
  · obtain ⟨k1, k2, k3, k4, k5, k6, k7⟩ := hB3
    exact ⟨by omega, k2, k3, k4, by rw [hF5 _ (by omega) (by omega)]; exact k5, by rw [hF5 _ (by omega) (by omega)]; exact k6, by rw [hF5 _ (by omega) (by omega)]; exact k7⟩
  · exact ⟨by rw [hF5 _ (by omega) (by omega)]; exact hP3.1, fun b hb => by rw [hF5 _ (by omega) (by omega)]; exact hP3.2.1 b hb, hP3.2.2⟩
  · rw [hF5 _ (by omega) (by omega), y1 _ (by omega)]
    exact hGg
  · rw [hF5 _ (by omega) (by omega), y1 _ (by omega)]
    exact hNg
  · rw [hF5 _ (by omega) (by omega)]
    exact y3 b hb
  · have := sp b.toNat (by omega)
    rw [Int.toNat_of_nonneg b0] at this
    exact ⟨this.1, this.2.1⟩
  · have := sp b.toNat (by omega)
    rw [Int.toNat_of_nonneg b0] at this
    exact this.2.2 i i0 i1
  · rw [hF5 _ (by omega) (by omega)]
    exact y2
  · have := g2 b b0 b1
    show 0 ≤ c2 (o + 2 + K) b ∧ c2 (o + 2 + K) b ≤ 8
    omega
  · have := ol_n (l := 0) h1 h4 (Or.inl rfl)
    rw [← hK] at this
    exact this
  · rw [hF5 _ (by omega) (by omega), y1 _ (by omega)]
  · rw [s5 _ (by omega), s2 _ (by omega), s1 _ (by omega)]
theorem qb_init {s : Nat} {F : aq_F} {c : aq_C} {o n K : Nat} (h1 : 1 ≤ n) (h4 : n ≤ 4) (hK : (K : Int) = bx_K (n : Int)) (hF : F o = (10, 11, bx_t0)) (hc : ∀ j, c o j = 0) : am_E ac_X0_init (0, [vR o, vI (n : Int), vU], [], aq_h (o + 1) s F c) (bx_Z o n K (s + 2900) F c) := by
  have hKb := bx_K105 h1 h4 hK
  refine qb_ini0 h1 h4 hK hF hc ?_
  intro s2 F2 c2 hs ⟨i1, i2, i3, i4, i5, i6, i7, i8, i9, i10, i11⟩ hb hcb hz
  have hB : bx_0 (o + 8 + 3 * K) F2 o n K := ⟨Nat.le_refl _, h1, h4, hKb.2, i1, i2, i3⟩
  refine am_E.go (t2 := (123, [vR o, vI (n : Int), vU], [vR o], aq_h (o + 8 + 3 * K) s2 F2 c2)) rfl rfl ?_
  refine aq_callv (y := 1) (as2 := []) (rest := []) rfl rfl (by decide) (Nat.le_of_ble_eq_true rfl) rfl rfl (Nat.le_of_ble_eq_true rfl) (by omega) i1 rfl (Nat.le_of_ble_eq_true rfl) (qb_listPairings hB hK i4 i5) ?_
  rintro r5 h5 ⟨s3, F3, c3, rfl, rfl, es, e2, e3, e4⟩
  show am_E _ (126, [vR o, vI (n : Int), vU], [], aq_h (o + 8 + 3 * K + 1) s3 F3 c3) _
  have f0 : ∀ a, (o + 2 ≤ a ∧ a < o + 2 + K) → ∃ w, F3 a = (0, w, fun _ => .inl 0) := by
    intro a ha
    have := i5 (a - (o + 2)) (by omega)
    rw [show o + 2 + (a - (o + 2)) = a by omega] at this
    exact ⟨_, by rw [e2 _ (by omega)]; exact this⟩
  rw [aq_fzh f0]
  have y1 : ∀ a, ¬ (o + 2 ≤ a ∧ a < o + 2 + K) → aq_fz (fun a => o + 2 ≤ a ∧ a < o + 2 + K) F3 c3 a = F3 a := fun a ha => aq_fzn ha
  have y3 : ∀ b, b < K → aq_fz (fun a => o + 2 ≤ a ∧ a < o + 2 + K) F3 c3 (o + 2 + b) = (0, 2 * n, fun j => .inr (vI (c3 (o + 2 + ((b : Int)).toNat) (j : Int)))) := fun b hb => by
    rw [Int.toNat_natCast]
    exact aq_fzy ⟨by omega, by omega⟩ (by rw [e2 _ (by omega)]; exact i5 b hb)
  generalize aq_fz (fun a => o + 2 ≤ a ∧ a < o + 2 + K) F3 c3 = F4 at y1 y3 ⊢
  have hF4 : ∀ a, a ≠ o + 8 + 3 * K → ¬ (o + 2 ≤ a ∧ a < o + 2 + K) → F4 a = F2 a := fun a ha1 ha2 => by rw [y1 a ha2, e2 a ha1]
  have hfi : ∀ x : Int, 0 ≤ x → x < (K : Int) → fi (n : Int) (fun i => c3 (o + 2 + x.toNat) i) := fun x x0 x1 => fi_c (pr_fi (by omega) (by omega) x0 (by omega)) (fun i i0 i1 => e4 x i x0 x1 i0 i1)
  refine am_E.go (t2 := (127, [vR o, vI (n : Int), vU], [vI 0], aq_h (o + 8 + 3 * K + 1) s3 F4 c3)) rfl rfl ?_
  refine am_E.go (t2 := (128, [vR o, vI (n : Int), vI 0], [], aq_h (o + 8 + 3 * K + 1) s3 F4 c3)) rfl rfl ?_
  refine am_E.imp (qb_ini1 (m := o + 8 + 3 * K + 1) (tP := fun b i => c3 (o + 2 + b.toNat) i) (by omega) h1 h4 hK ?_ ?_ (fun x x0 x1 => ?_) ?_ ?_ ?_ (fun b hb => ?_) ?_ (fun b hb => ?_) (fun b b0 b1 j => ?_)) ?_
  · exact ⟨by omega, h1, h4, hKb.2, by rw [hF4 _ (by omega) (by omega)]; exact i1, by rw [hF4 _ (by omega) (by omega)]; exact i2, by rw [hF4 _ (by omega) (by omega)]; exact i3⟩
  · refine ⟨by rw [hF4 _ (by omega) (by omega)]; exact i4, y3, fun b p b0 b1 p0 p1 => ?_⟩
    have := hfi b b0 b1 p p0 p1
    exact ⟨this.1, this.2.1, e4 b p b0 b1 p0 p1⟩
  · have := hfi x x0 x1
    rw [Int.toNat_natCast]
    exact this
  · rw [hF4 _ (by omega) (by omega)]; exact i6
  · rw [hF4 _ (by omega) (by omega)]; exact i7
  · rw [hF4 _ (by omega) (by omega)]; exact i8
  · rw [hF4 _ (by omega) (by omega)]; exact i9 b hb
  · rw [hF4 _ (by omega) (by omega)]; exact i10
  · rw [hF4 _ (by omega) (by omega)]; exact i11 b hb
  · rw [e3 _ (by omega)]; exact hz b (by omega) (by omega) j
  · rintro r h2 ⟨s5, F5, c5, g1, g2, g3, g4, g5, g6, g7⟩
    refine ⟨s5, F5, c5, g1, g2, by omega, g4, fun b hb5 => ?_, fun b hb5 j => ?_, g7⟩
    · rw [g5 b hb5, hF4 _ (by omega) (by omega)]; exact hb b hb5
    · rw [g6 b hb5 j, e3 _ (by omega)]; exact hcb b hb5 j
/-! Halves: keepDraft, the constructor. Printed by wip/p20/sx/gHD.py. -/

theorem hc_cp {o n h : Nat} {c d : aq_C} (hI : hc_I o n c) (hh : h < 6) (he : aq_cp c (o + 16) (0 : Int).toNat (o + 10 + h) (0 : Int).toNat (n : Int).toNat = d) : hc_I o n d := by
  obtain ⟨k1, k2, k3, k4⟩ := hI
  have g : ∀ x, x ≠ o + 10 + h → ∀ j, d x j = c x j := fun x hx j => by
    rw [← he]
    unfold aq_cp
    rw [if_neg (fun q => hx q.1)]
  refine ⟨fun i i0 i1 => by rw [g _ (by omega)]; exact k1 i i0 i1, fun h2 hh2 i i0 i1 => ?_, by rw [g _ (by omega)]; exact k3, by rw [g _ (by omega)]; exact k4⟩
  by_cases e : h2 = h
  · subst e
    rw [← he]
    unfold aq_cp
    have z0 : (((0 : Int).toNat : Nat) : Int) = 0 := rfl
    rw [z0, if_pos ⟨rfl, by omega, by omega⟩]
    exact k1 _ (by omega) (by omega)
  · rw [g _ (by omega)]
    exact k2 h2 hh2 i i0 i1
theorem hc_cz {o n h : Nat} {c d : aq_C} (hz : c o 6 < 6) (he : aq_cp c (o + 16) (0 : Int).toNat (o + 10 + h) (0 : Int).toNat (n : Int).toNat = d) : d o 6 < 6 := by
  rw [← he]
  unfold aq_cp
  rw [if_neg (by omega)]
  exact hz
theorem hc_lz {o : Nat} {i x : Int} {c d : aq_C} (hz : c o 6 < 6) (he : aq_u c (o + 1) i x = d) : d o 6 < 6 := by
  rw [← he, aq_un (Or.inl (by omega))]
  exact hz
theorem hc_p {o n : Nat} {x : Int} {c d : aq_C} (h : hc_I o n c) (he : aq_u c o 6 x = d) (h0 : 0 ≤ x) (h6 : x ≤ 6) : hc_I o n d := by
  obtain ⟨k1, k2, k3, k4⟩ := h
  refine ⟨aq_rgn k1 he (by omega), fun h hh => aq_rgn (k2 h hh) he (by omega), ?_, ?_⟩
  · rw [← he, aq_us]; exact h0
  · rw [← he, aq_us]; exact h6

theorem qc_keepDraft_l {m s : Nat} {F : aq_F} {c0 : aq_C} {o n : Nat} (hH : hc_0 m F o n) : ∀ (d : Nat) (p : Int) (c : aq_C) (hs : aq_sm (fun a => o ≤ a ∧ a < o + 18) c0 c) (h0 : 0 ≤ p) (h1 : p ≤ (n : Int)) (hc : hc_I o n c) (hz : c o 6 < 6) (hd : (n : Int) - p < (d : Int)), am_E ac_X2_keepDraft (24, [vR o, vI p], [], aq_h m s F c) (aq_Z m s F (fun a => o ≤ a ∧ a < o + 18) c0 (fun r d => r = none ∧ hc_I o n d))
  | 0, p, c, hs, h0, h1, hc, hz, hd => by exfalso; omega
  | d + 1, p, c, hs, h0, h1, hc, hz, hd => by
    obtain ⟨hm, hn1, hn4, hFo, hFl, hFg, hFt, hFp, hFq, hFd, hFs⟩ := hH
    refine am_E.go (t2 := (25, [vR o, vI p], [vI p], aq_h m s F c)) rfl rfl ?_
    refine am_E.go (t2 := (26, [vR o, vI p], [vR o, vI p], aq_h m s F c)) rfl rfl ?_
    refine aq_gf (v := vI (n : Int)) rfl (by omega) hFo (by decide) rfl ?_
    show am_E _ (29, [vR o, vI p], [vI (n : Int), vI p], aq_h m s F c) _
    refine ae_icmp rfl (fun (q_1 : (n : Int) ≤ p) => ?_) (fun (q_1 : p < (n : Int)) => ?_)
    · refine am_E.go (t2 := (69, [vR o, vI p], [vR o], aq_h m s F c)) rfl rfl ?_
      refine am_E.go (t2 := (70, [vR o, vI p], [vR o, vR o], aq_h m s F c)) rfl rfl ?_
      refine aq_gf (v := vI (c o 6)) rfl (by omega) hFo (by decide) rfl ?_
      show am_E _ (73, [vR o, vI p], [vI (c o 6), vR o], aq_h m s F c) _
      have f_2 := (hc).2.2
      refine am_E.go (t2 := (74, [vR o, vI p], [vI 1, vI (c o 6), vR o], aq_h m s F c)) rfl rfl ?_
      refine ae_add rfl (am_ri (by omega) (by omega)) ?_
      show am_E _ (75, [vR o, vI p], [vI ((c o 6) + 1), vR o], aq_h m s F c) _
      refine aq_pf rfl (by omega) hFo (by decide) rfl rfl ?_
      show am_E _ (78, [vR o, vI p], [], aq_h m s F (aq_u c o 6 ((c o 6) + 1))) _
      generalize hdc_3 : aq_u c o 6 ((c o 6) + 1) = c_3
      have sc_3 := aq_smu hs hdc_3 (by omega)
      have hhcc_3 := hc_p hc hdc_3 (by omega) (by omega)
      have hszc_3 := True.intro
      refine am_E.ret rfl rfl ?_
      exact ⟨_, rfl, sc_3, rfl, hhcc_3⟩
    · refine am_E.go (t2 := (33, [vR o, vI p], [vR o], aq_h m s F c)) rfl rfl ?_
      refine aq_gf (v := vR (o + 1)) rfl (by omega) hFo (by decide) rfl ?_
      show am_E _ (36, [vR o, vI p], [vR (o + 1)], aq_h m s F c) _
      refine am_E.go (t2 := (37, [vR o, vI p], [vR o, vR (o + 1)], aq_h m s F c)) rfl rfl ?_
      refine aq_gf (v := vI (c o 6)) rfl (by omega) hFo (by decide) rfl ?_
      show am_E _ (40, [vR o, vI p], [vI (c o 6), vR (o + 1)], aq_h m s F c) _
      have f_4 := (hc).2.2
      refine am_E.go (t2 := (41, [vR o, vI p], [vI (c o 6), vR (o + 1), vI (c o 6), vR (o + 1)], aq_h m s F c)) rfl rfl ?_
      refine aq_al (ok := fun k => k == 0) (v := vI (c (o + 1) (c o 6))) rfl rfl (by omega) hFl rfl (by omega) (by omega) rfl ?_
      show am_E _ (42, [vR o, vI p], [vI (c (o + 1) (c o 6)), vI (c o 6), vR (o + 1)], aq_h m s F c) _
      refine am_E.go (t2 := (43, [vR o, vI p], [vR o, vI (c (o + 1) (c o 6)), vI (c o 6), vR (o + 1)], aq_h m s F c)) rfl rfl ?_
      refine aq_gf (v := vR (o + 16)) rfl (by omega) hFo (by decide) rfl ?_
      show am_E _ (46, [vR o, vI p], [vR (o + 16), vI (c (o + 1) (c o 6)), vI (c o 6), vR (o + 1)], aq_h m s F c) _
      refine am_E.go (t2 := (47, [vR o, vI p], [vI p, vR (o + 16), vI (c (o + 1) (c o 6)), vI (c o 6), vR (o + 1)], aq_h m s F c)) rfl rfl ?_
      refine aq_al (ok := fun k => k == 0) (v := vI (c (o + 16) p)) rfl rfl (by omega) hFd rfl (by omega) (by omega) rfl ?_
      show am_E _ (48, [vR o, vI p], [vI (c (o + 16) p), vI (c (o + 1) (c o 6)), vI (c o 6), vR (o + 1)], aq_h m s F c) _
      have f_5 := (hc).1 p (by omega) (by omega)
      refine am_E.go (t2 := (49, [vR o, vI p], [vR o, vI (c (o + 16) p), vI (c (o + 1) (c o 6)), vI (c o 6), vR (o + 1)], aq_h m s F c)) rfl rfl ?_
      refine aq_gf (v := vI (n : Int)) rfl (by omega) hFo (by decide) rfl ?_
      show am_E _ (52, [vR o, vI p], [vI (n : Int), vI (c (o + 16) p), vI (c (o + 1) (c o 6)), vI (c o 6), vR (o + 1)], aq_h m s F c) _
      refine ae_icmp rfl (fun (q_6 : (c (o + 16) p) ≠ (n : Int)) => ?_) (fun (q_6 : (c (o + 16) p) = (n : Int)) => ?_)
      · refine am_E.go (t2 := (60, [vR o, vI p], [vI 0, vI (c (o + 1) (c o 6)), vI (c o 6), vR (o + 1)], aq_h m s F c)) rfl rfl ?_
        refine am_E.go (t2 := (61, [vR o, vI p], [vI (am_w ((c (o + 1) (c o 6)) + 0)), vI (c o 6), vR (o + 1)], aq_h m s F c)) rfl rfl ?_
        refine aq_as (kd := 0) rfl rfl (by omega) hFl (by omega) (by omega) rfl rfl ?_
        show am_E _ (62, [vR o, vI p], [], aq_h m s F (aq_u c (o + 1) (c o 6) (am_w ((c (o + 1) (c o 6)) + 0)))) _
        generalize hdc_7 : aq_u c (o + 1) (c o 6) (am_w ((c (o + 1) (c o 6)) + 0)) = c_7
        have sc_7 := aq_smu hs hdc_7 (by omega)
        have hhcc_7 := hc_l hc hdc_7
        have hszc_7 := hc_lz hz hdc_7
        refine ae_iinc rfl rfl (am_ri (by omega) (by omega)) ?_
        show am_E _ (65, [vR o, vI (p + 1)], [], aq_h m s F c_7) _
        refine am_E.go (t2 := (24, [vR o, vI (p + 1)], [], aq_h m s F c_7)) rfl rfl ?_
        exact qc_keepDraft_l ⟨hm, hn1, hn4, hFo, hFl, hFg, hFt, hFp, hFq, hFd, hFs⟩ d (p + 1) c_7 sc_7 (by omega) (by omega) hhcc_7 hszc_7 (by omega)
      · refine am_E.go (t2 := (56, [vR o, vI p], [vI 1, vI (c (o + 1) (c o 6)), vI (c o 6), vR (o + 1)], aq_h m s F c)) rfl rfl ?_
        refine am_E.go (t2 := (60, [vR o, vI p], [vI 1, vI (c (o + 1) (c o 6)), vI (c o 6), vR (o + 1)], aq_h m s F c)) rfl rfl ?_
        refine am_E.go (t2 := (61, [vR o, vI p], [vI (am_w ((c (o + 1) (c o 6)) + 1)), vI (c o 6), vR (o + 1)], aq_h m s F c)) rfl rfl ?_
        refine aq_as (kd := 0) rfl rfl (by omega) hFl (by omega) (by omega) rfl rfl ?_
        show am_E _ (62, [vR o, vI p], [], aq_h m s F (aq_u c (o + 1) (c o 6) (am_w ((c (o + 1) (c o 6)) + 1)))) _
        generalize hdc_8 : aq_u c (o + 1) (c o 6) (am_w ((c (o + 1) (c o 6)) + 1)) = c_8
        have sc_8 := aq_smu hs hdc_8 (by omega)
        have hhcc_8 := hc_l hc hdc_8
        have hszc_8 := hc_lz hz hdc_8
        refine ae_iinc rfl rfl (am_ri (by omega) (by omega)) ?_
        show am_E _ (65, [vR o, vI (p + 1)], [], aq_h m s F c_8) _
        refine am_E.go (t2 := (24, [vR o, vI (p + 1)], [], aq_h m s F c_8)) rfl rfl ?_
        exact qc_keepDraft_l ⟨hm, hn1, hn4, hFo, hFl, hFg, hFt, hFp, hFq, hFd, hFs⟩ d (p + 1) c_8 sc_8 (by omega) (by omega) hhcc_8 hszc_8 (by omega)

theorem qc_keepDraft {m s : Nat} {F : aq_F} {c : aq_C} {o n : Nat} (hH : hc_0 m F o n) (hc : hc_I o n c) (hz : c o 6 < 6) : am_E ac_X2_keepDraft (0, [vR o, vU], [], aq_h m s F c) (aq_Z m s F (fun a => o ≤ a ∧ a < o + 18) c (fun r d => r = none ∧ hc_I o n d)) := by
  obtain ⟨hm, hn1, hn4, hFo, hFl, hFg, hFt, hFp, hFq, hFd, hFs⟩ := hH
  refine am_E.go (t2 := (1, [vR o, vU], [vR o], aq_h m s F c)) rfl rfl ?_
  refine aq_gf (v := vR (o + 16)) rfl (by omega) hFo (by decide) rfl ?_
  show am_E _ (4, [vR o, vU], [vR (o + 16)], aq_h m s F c) _
  refine am_E.go (t2 := (5, [vR o, vU], [vI 0, vR (o + 16)], aq_h m s F c)) rfl rfl ?_
  refine am_E.go (t2 := (6, [vR o, vU], [vR o, vI 0, vR (o + 16)], aq_h m s F c)) rfl rfl ?_
  refine aq_gf (v := vR (o + 9)) rfl (by omega) hFo (by decide) rfl ?_
  show am_E _ (9, [vR o, vU], [vR (o + 9), vI 0, vR (o + 16)], aq_h m s F c) _
  refine am_E.go (t2 := (10, [vR o, vU], [vR o, vR (o + 9), vI 0, vR (o + 16)], aq_h m s F c)) rfl rfl ?_
  refine aq_gf (v := vI (c o 6)) rfl (by omega) hFo (by decide) rfl ?_
  show am_E _ (13, [vR o, vU], [vI (c o 6), vR (o + 9), vI 0, vR (o + 16)], aq_h m s F c) _
  have f_1 := (hc).2.2
  refine aq_al (ok := fun k => decide (3 ≤ k) && decide (k < 7)) (v := vR (o + 10 + (c o 6).toNat)) rfl rfl (by omega) hFp rfl (by omega) (by omega) (aq_gi (by omega)) ?_
  show am_E _ (14, [vR o, vU], [vR (o + 10 + (c o 6).toNat), vI 0, vR (o + 16)], aq_h m s F c) _
  refine am_E.go (t2 := (15, [vR o, vU], [vI 0, vR (o + 10 + (c o 6).toNat), vI 0, vR (o + 16)], aq_h m s F c)) rfl rfl ?_
  refine am_E.go (t2 := (16, [vR o, vU], [vR o, vI 0, vR (o + 10 + (c o 6).toNat), vI 0, vR (o + 16)], aq_h m s F c)) rfl rfl ?_
  refine aq_gf (v := vI (n : Int)) rfl (by omega) hFo (by decide) rfl ?_
  show am_E _ (19, [vR o, vU], [vI (n : Int), vI 0, vR (o + 10 + (c o 6).toNat), vI 0, vR (o + 16)], aq_h m s F c) _
  refine aq_cpy (n := ((n : Int) : Int).toNat) (sp := (0 : Int).toNat) (dp := (0 : Int).toNat) rfl (by omega) (by omega) hFd (hFq _ (by omega)) (by decide) (by omega) (by omega) (by omega) (by omega) (by omega) ?_
  show am_E _ (22, [vR o, vU], [], aq_h m s F (aq_cp c (o + 16) (0 : Int).toNat (o + 10 + (c o 6).toNat) (0 : Int).toNat ((n : Int) : Int).toNat)) _
  generalize hdc_2 : aq_cp c (o + 16) (0 : Int).toNat (o + 10 + (c o 6).toNat) (0 : Int).toNat ((n : Int) : Int).toNat = c_2
  have sc_2 := aq_smc (aq_sm0 (c := c) (S := (fun a => o ≤ a ∧ a < o + 18))) hdc_2 (by omega)
  have hhcc_2 := hc_cp hc (by omega) hdc_2
  have hszc_2 := hc_cz hz hdc_2
  refine am_E.go (t2 := (23, [vR o, vU], [vI 0], aq_h m s F c_2)) rfl rfl ?_
  refine am_E.go (t2 := (24, [vR o, vI 0], [], aq_h m s F c_2)) rfl rfl ?_
  exact qc_keepDraft_l ⟨hm, hn1, hn4, hFo, hFl, hFg, hFt, hFp, hFq, hFd, hFs⟩ 6 0 c_2 sc_2 (by omega) (by omega) hhcc_2 hszc_2 (by omega)

theorem qc_init_l {m s : Nat} {F : aq_F} {c0 : aq_C} {o n : Nat} (hH : hc_0 m F o n) {D : Int} (hD : D ≤ 625) : ∀ (d : Nat) (i : Int) (c : aq_C) (hs : aq_sm (fun a => o ≤ a ∧ a < o + 18) c0 c) (h0 : 0 ≤ i) (h1 : i ≤ D) (hc : hc_I o n c) (hd : D - i < (d : Int)), am_E ac_X2_init (77, [vR o, vI (n : Int), vI D, vI i], [], aq_h m s F c) (aq_Z m s F (fun a => o ≤ a ∧ a < o + 18) c0 (fun r d => r = none ∧ hc_I o n d))
  | 0, i, c, hs, h0, h1, hc, hd => by exfalso; omega
  | d + 1, i, c, hs, h0, h1, hc, hd => by
    obtain ⟨hm, hn1, hn4, hFo, hFl, hFg, hFt, hFp, hFq, hFd, hFs⟩ := hH
    refine am_E.go (t2 := (78, [vR o, vI (n : Int), vI D, vI i], [vI i], aq_h m s F c)) rfl rfl ?_
    refine am_E.go (t2 := (79, [vR o, vI (n : Int), vI D, vI i], [vI D, vI i], aq_h m s F c)) rfl rfl ?_
    refine ae_icmp rfl (fun (q_1 : D ≤ i) => ?_) (fun (q_1 : i < D) => ?_)
    · refine am_E.ret rfl rfl ?_
      exact ⟨_, rfl, hs, rfl, hc⟩
    · refine am_E.go (t2 := (83, [vR o, vI (n : Int), vI D, vI i], [vR o], aq_h m s F c)) rfl rfl ?_
      refine am_E.go (t2 := (84, [vR o, vI (n : Int), vI D, vI i], [vR o, vR o], aq_h m s F c)) rfl rfl ?_
      refine aq_gf (v := vR (o + 16)) rfl (by omega) hFo (by decide) rfl ?_
      show am_E _ (87, [vR o, vI (n : Int), vI D, vI i], [vR (o + 16), vR o], aq_h m s F c) _
      refine aq_callv (y := 2) (as2 := [vR (o + 16)]) (rest := []) rfl rfl (by decide) (Nat.le_of_ble_eq_true rfl) rfl rfl (Nat.le_of_ble_eq_true rfl) (by omega) hFo rfl (Nat.le_of_ble_eq_true rfl) (qc_isHalf ⟨hm, hn1, hn4, hFo, hFl, hFg, hFt, hFp, hFq, hFd, hFs⟩ hc) ?_
      rintro r5 h5 ⟨rfl, v_2, rfl, hv_2⟩
      show am_E _ (90, [vR o, vI (n : Int), vI D, vI i], [vI v_2], aq_h m s F c) _
      refine ae_if0 rfl (fun (q_3 : v_2 = 0) => ?_) (fun (q_3 : v_2 ≠ 0) => ?_)
      · refine am_E.go (t2 := (107, [vR o, vI (n : Int), vI D, vI i], [vR o], aq_h m s F c)) rfl rfl ?_
        refine aq_callv (y := 1) (as2 := []) (rest := []) rfl rfl (by decide) (Nat.le_of_ble_eq_true rfl) rfl rfl (Nat.le_of_ble_eq_true rfl) (by omega) hFo rfl (Nat.le_of_ble_eq_true rfl) (qc_nextDraft ⟨hm, hn1, hn4, hFo, hFl, hFg, hFt, hFp, hFq, hFd, hFs⟩ hc) ?_
        rintro r5 h5 ⟨c_4, rfl, sc_4, rfl, hhc_4⟩
        show am_E _ (110, [vR o, vI (n : Int), vI D, vI i], [], aq_h m s F c_4) _
        refine ae_iinc rfl rfl (am_ri (by omega) (by omega)) ?_
        show am_E _ (113, [vR o, vI (n : Int), vI D, vI (i + 1)], [], aq_h m s F c_4) _
        refine am_E.go (t2 := (77, [vR o, vI (n : Int), vI D, vI (i + 1)], [], aq_h m s F c_4)) rfl rfl ?_
        exact qc_init_l ⟨hm, hn1, hn4, hFo, hFl, hFg, hFt, hFp, hFq, hFd, hFs⟩ hD d (i + 1) c_4 (aq_smt hs sc_4) (by omega) (by omega) hhc_4 (by omega)
      · refine am_E.go (t2 := (94, [vR o, vI (n : Int), vI D, vI i], [vR o], aq_h m s F c)) rfl rfl ?_
        refine aq_gf (v := vI (c o 6)) rfl (by omega) hFo (by decide) rfl ?_
        show am_E _ (97, [vR o, vI (n : Int), vI D, vI i], [vI (c o 6)], aq_h m s F c) _
        have f_5 := (hc).2.2
        refine am_E.go (t2 := (99, [vR o, vI (n : Int), vI D, vI i], [vI 6, vI (c o 6)], aq_h m s F c)) rfl rfl ?_
        refine ae_icmp rfl (fun (q_6 : 6 ≤ (c o 6)) => ?_) (fun (q_6 : (c o 6) < 6) => ?_)
        · refine am_E.go (t2 := (107, [vR o, vI (n : Int), vI D, vI i], [vR o], aq_h m s F c)) rfl rfl ?_
          refine aq_callv (y := 1) (as2 := []) (rest := []) rfl rfl (by decide) (Nat.le_of_ble_eq_true rfl) rfl rfl (Nat.le_of_ble_eq_true rfl) (by omega) hFo rfl (Nat.le_of_ble_eq_true rfl) (qc_nextDraft ⟨hm, hn1, hn4, hFo, hFl, hFg, hFt, hFp, hFq, hFd, hFs⟩ hc) ?_
          rintro r5 h5 ⟨c_7, rfl, sc_7, rfl, hhc_7⟩
          show am_E _ (110, [vR o, vI (n : Int), vI D, vI i], [], aq_h m s F c_7) _
          refine ae_iinc rfl rfl (am_ri (by omega) (by omega)) ?_
          show am_E _ (113, [vR o, vI (n : Int), vI D, vI (i + 1)], [], aq_h m s F c_7) _
          refine am_E.go (t2 := (77, [vR o, vI (n : Int), vI D, vI (i + 1)], [], aq_h m s F c_7)) rfl rfl ?_
          exact qc_init_l ⟨hm, hn1, hn4, hFo, hFl, hFg, hFt, hFp, hFq, hFd, hFs⟩ hD d (i + 1) c_7 (aq_smt hs sc_7) (by omega) (by omega) hhc_7 (by omega)
        · refine am_E.go (t2 := (103, [vR o, vI (n : Int), vI D, vI i], [vR o], aq_h m s F c)) rfl rfl ?_
          refine aq_callv (y := 1) (as2 := []) (rest := []) rfl rfl (by decide) (Nat.le_of_ble_eq_true rfl) rfl rfl (Nat.le_of_ble_eq_true rfl) (by omega) hFo rfl (Nat.le_of_ble_eq_true rfl) (qc_keepDraft ⟨hm, hn1, hn4, hFo, hFl, hFg, hFt, hFp, hFq, hFd, hFs⟩ hc (by omega)) ?_
          rintro r5 h5 ⟨c_8, rfl, sc_8, rfl, hhc_8⟩
          show am_E _ (106, [vR o, vI (n : Int), vI D, vI i], [], aq_h m s F c_8) _
          refine am_E.go (t2 := (107, [vR o, vI (n : Int), vI D, vI i], [vR o], aq_h m s F c_8)) rfl rfl ?_
          refine aq_callv (y := 1) (as2 := []) (rest := []) rfl rfl (by decide) (Nat.le_of_ble_eq_true rfl) rfl rfl (Nat.le_of_ble_eq_true rfl) (by omega) hFo rfl (Nat.le_of_ble_eq_true rfl) (qc_nextDraft ⟨hm, hn1, hn4, hFo, hFl, hFg, hFt, hFp, hFq, hFd, hFs⟩ hhc_8) ?_
          rintro r5 h5 ⟨c_9, rfl, sc_9, rfl, hhc_9⟩
          show am_E _ (110, [vR o, vI (n : Int), vI D, vI i], [], aq_h m s F c_9) _
          refine ae_iinc rfl rfl (am_ri (by omega) (by omega)) ?_
          show am_E _ (113, [vR o, vI (n : Int), vI D, vI (i + 1)], [], aq_h m s F c_9) _
          refine am_E.go (t2 := (77, [vR o, vI (n : Int), vI D, vI (i + 1)], [], aq_h m s F c_9)) rfl rfl ?_
          exact qc_init_l ⟨hm, hn1, hn4, hFo, hFl, hFg, hFt, hFp, hFq, hFd, hFs⟩ hD d (i + 1) c_9 (aq_smt (aq_smt hs sc_8) sc_9) (by omega) (by omega) hhc_9 (by omega)

theorem qc_pw1 {m s : Nat} {F : aq_F} {c : aq_C} {o : Nat} {Z : Option am_V → am_H → Prop} (k : am_E ac_X2_init (77, [vR o, vI 1, vI 2, vI 0], [], aq_h m s F c) Z) : am_E ac_X2_init (54, [vR o, vI 1, vU, vU], [], aq_h m s F c) Z := by
  refine am_E.go (t2 := (55, [vR o, vI 1, vU, vU], [vI 1], aq_h m s F c)) rfl rfl ?_
  refine am_E.go (t2 := (56, [vR o, vI 1, vI 1, vU], [], aq_h m s F c)) rfl rfl ?_
  refine am_E.go (t2 := (57, [vR o, vI 1, vI 1, vU], [vI 0], aq_h m s F c)) rfl rfl ?_
  refine am_E.go (t2 := (58, [vR o, vI 1, vI 1, vI 0], [], aq_h m s F c)) rfl rfl ?_
  refine am_E.go (t2 := (59, [vR o, vI 1, vI 1, vI 0], [vI 0], aq_h m s F c)) rfl rfl ?_
  refine am_E.go (t2 := (60, [vR o, vI 1, vI 1, vI 0], [vI 1, vI 0], aq_h m s F c)) rfl rfl ?_
  refine am_E.go (t2 := (63, [vR o, vI 1, vI 1, vI 0], [], aq_h m s F c)) rfl rfl ?_
  refine am_E.go (t2 := (64, [vR o, vI 1, vI 1, vI 0], [vI 1], aq_h m s F c)) rfl rfl ?_
  refine am_E.go (t2 := (65, [vR o, vI 1, vI 1, vI 0], [vI 1, vI 1], aq_h m s F c)) rfl rfl ?_
  refine am_E.go (t2 := (66, [vR o, vI 1, vI 1, vI 0], [vI 1, vI 1, vI 1], aq_h m s F c)) rfl rfl ?_
  refine am_E.go (t2 := (67, [vR o, vI 1, vI 1, vI 0], [vI 2, vI 1], aq_h m s F c)) rfl rfl ?_
  refine am_E.go (t2 := (68, [vR o, vI 1, vI 1, vI 0], [vI 2], aq_h m s F c)) rfl rfl ?_
  refine am_E.go (t2 := (69, [vR o, vI 1, vI 2, vI 0], [], aq_h m s F c)) rfl rfl ?_
  refine am_E.go (t2 := (72, [vR o, vI 1, vI 2, vI 1], [], aq_h m s F c)) rfl rfl ?_
  refine am_E.go (t2 := (58, [vR o, vI 1, vI 2, vI 1], [], aq_h m s F c)) rfl rfl ?_
  refine am_E.go (t2 := (59, [vR o, vI 1, vI 2, vI 1], [vI 1], aq_h m s F c)) rfl rfl ?_
  refine am_E.go (t2 := (60, [vR o, vI 1, vI 2, vI 1], [vI 1, vI 1], aq_h m s F c)) rfl rfl ?_
  refine am_E.go (t2 := (75, [vR o, vI 1, vI 2, vI 1], [], aq_h m s F c)) rfl rfl ?_
  refine am_E.go (t2 := (76, [vR o, vI 1, vI 2, vI 1], [vI 0], aq_h m s F c)) rfl rfl ?_
  refine am_E.go (t2 := (77, [vR o, vI 1, vI 2, vI 0], [], aq_h m s F c)) rfl rfl ?_
  exact k

theorem qc_pw2 {m s : Nat} {F : aq_F} {c : aq_C} {o : Nat} {Z : Option am_V → am_H → Prop} (k : am_E ac_X2_init (77, [vR o, vI 2, vI 9, vI 0], [], aq_h m s F c) Z) : am_E ac_X2_init (54, [vR o, vI 2, vU, vU], [], aq_h m s F c) Z := by
  refine am_E.go (t2 := (55, [vR o, vI 2, vU, vU], [vI 1], aq_h m s F c)) rfl rfl ?_
  refine am_E.go (t2 := (56, [vR o, vI 2, vI 1, vU], [], aq_h m s F c)) rfl rfl ?_
  refine am_E.go (t2 := (57, [vR o, vI 2, vI 1, vU], [vI 0], aq_h m s F c)) rfl rfl ?_
  refine am_E.go (t2 := (58, [vR o, vI 2, vI 1, vI 0], [], aq_h m s F c)) rfl rfl ?_
  refine am_E.go (t2 := (59, [vR o, vI 2, vI 1, vI 0], [vI 0], aq_h m s F c)) rfl rfl ?_
  refine am_E.go (t2 := (60, [vR o, vI 2, vI 1, vI 0], [vI 2, vI 0], aq_h m s F c)) rfl rfl ?_
  refine am_E.go (t2 := (63, [vR o, vI 2, vI 1, vI 0], [], aq_h m s F c)) rfl rfl ?_
  refine am_E.go (t2 := (64, [vR o, vI 2, vI 1, vI 0], [vI 1], aq_h m s F c)) rfl rfl ?_
  refine am_E.go (t2 := (65, [vR o, vI 2, vI 1, vI 0], [vI 2, vI 1], aq_h m s F c)) rfl rfl ?_
  refine am_E.go (t2 := (66, [vR o, vI 2, vI 1, vI 0], [vI 1, vI 2, vI 1], aq_h m s F c)) rfl rfl ?_
  refine am_E.go (t2 := (67, [vR o, vI 2, vI 1, vI 0], [vI 3, vI 1], aq_h m s F c)) rfl rfl ?_
  refine am_E.go (t2 := (68, [vR o, vI 2, vI 1, vI 0], [vI 3], aq_h m s F c)) rfl rfl ?_
  refine am_E.go (t2 := (69, [vR o, vI 2, vI 3, vI 0], [], aq_h m s F c)) rfl rfl ?_
  refine am_E.go (t2 := (72, [vR o, vI 2, vI 3, vI 1], [], aq_h m s F c)) rfl rfl ?_
  refine am_E.go (t2 := (58, [vR o, vI 2, vI 3, vI 1], [], aq_h m s F c)) rfl rfl ?_
  refine am_E.go (t2 := (59, [vR o, vI 2, vI 3, vI 1], [vI 1], aq_h m s F c)) rfl rfl ?_
  refine am_E.go (t2 := (60, [vR o, vI 2, vI 3, vI 1], [vI 2, vI 1], aq_h m s F c)) rfl rfl ?_
  refine am_E.go (t2 := (63, [vR o, vI 2, vI 3, vI 1], [], aq_h m s F c)) rfl rfl ?_
  refine am_E.go (t2 := (64, [vR o, vI 2, vI 3, vI 1], [vI 3], aq_h m s F c)) rfl rfl ?_
  refine am_E.go (t2 := (65, [vR o, vI 2, vI 3, vI 1], [vI 2, vI 3], aq_h m s F c)) rfl rfl ?_
  refine am_E.go (t2 := (66, [vR o, vI 2, vI 3, vI 1], [vI 1, vI 2, vI 3], aq_h m s F c)) rfl rfl ?_
  refine am_E.go (t2 := (67, [vR o, vI 2, vI 3, vI 1], [vI 3, vI 3], aq_h m s F c)) rfl rfl ?_
  refine am_E.go (t2 := (68, [vR o, vI 2, vI 3, vI 1], [vI 9], aq_h m s F c)) rfl rfl ?_
  refine am_E.go (t2 := (69, [vR o, vI 2, vI 9, vI 1], [], aq_h m s F c)) rfl rfl ?_
  refine am_E.go (t2 := (72, [vR o, vI 2, vI 9, vI 2], [], aq_h m s F c)) rfl rfl ?_
  refine am_E.go (t2 := (58, [vR o, vI 2, vI 9, vI 2], [], aq_h m s F c)) rfl rfl ?_
  refine am_E.go (t2 := (59, [vR o, vI 2, vI 9, vI 2], [vI 2], aq_h m s F c)) rfl rfl ?_
  refine am_E.go (t2 := (60, [vR o, vI 2, vI 9, vI 2], [vI 2, vI 2], aq_h m s F c)) rfl rfl ?_
  refine am_E.go (t2 := (75, [vR o, vI 2, vI 9, vI 2], [], aq_h m s F c)) rfl rfl ?_
  refine am_E.go (t2 := (76, [vR o, vI 2, vI 9, vI 2], [vI 0], aq_h m s F c)) rfl rfl ?_
  refine am_E.go (t2 := (77, [vR o, vI 2, vI 9, vI 0], [], aq_h m s F c)) rfl rfl ?_
  exact k

theorem qc_pw3 {m s : Nat} {F : aq_F} {c : aq_C} {o : Nat} {Z : Option am_V → am_H → Prop} (k : am_E ac_X2_init (77, [vR o, vI 3, vI 64, vI 0], [], aq_h m s F c) Z) : am_E ac_X2_init (54, [vR o, vI 3, vU, vU], [], aq_h m s F c) Z := by
  refine am_E.go (t2 := (55, [vR o, vI 3, vU, vU], [vI 1], aq_h m s F c)) rfl rfl ?_
  refine am_E.go (t2 := (56, [vR o, vI 3, vI 1, vU], [], aq_h m s F c)) rfl rfl ?_
  refine am_E.go (t2 := (57, [vR o, vI 3, vI 1, vU], [vI 0], aq_h m s F c)) rfl rfl ?_
  refine am_E.go (t2 := (58, [vR o, vI 3, vI 1, vI 0], [], aq_h m s F c)) rfl rfl ?_
  refine am_E.go (t2 := (59, [vR o, vI 3, vI 1, vI 0], [vI 0], aq_h m s F c)) rfl rfl ?_
  refine am_E.go (t2 := (60, [vR o, vI 3, vI 1, vI 0], [vI 3, vI 0], aq_h m s F c)) rfl rfl ?_
  refine am_E.go (t2 := (63, [vR o, vI 3, vI 1, vI 0], [], aq_h m s F c)) rfl rfl ?_
  refine am_E.go (t2 := (64, [vR o, vI 3, vI 1, vI 0], [vI 1], aq_h m s F c)) rfl rfl ?_
  refine am_E.go (t2 := (65, [vR o, vI 3, vI 1, vI 0], [vI 3, vI 1], aq_h m s F c)) rfl rfl ?_
  refine am_E.go (t2 := (66, [vR o, vI 3, vI 1, vI 0], [vI 1, vI 3, vI 1], aq_h m s F c)) rfl rfl ?_
  refine am_E.go (t2 := (67, [vR o, vI 3, vI 1, vI 0], [vI 4, vI 1], aq_h m s F c)) rfl rfl ?_
  refine am_E.go (t2 := (68, [vR o, vI 3, vI 1, vI 0], [vI 4], aq_h m s F c)) rfl rfl ?_
  refine am_E.go (t2 := (69, [vR o, vI 3, vI 4, vI 0], [], aq_h m s F c)) rfl rfl ?_
  refine am_E.go (t2 := (72, [vR o, vI 3, vI 4, vI 1], [], aq_h m s F c)) rfl rfl ?_
  refine am_E.go (t2 := (58, [vR o, vI 3, vI 4, vI 1], [], aq_h m s F c)) rfl rfl ?_
  refine am_E.go (t2 := (59, [vR o, vI 3, vI 4, vI 1], [vI 1], aq_h m s F c)) rfl rfl ?_
  refine am_E.go (t2 := (60, [vR o, vI 3, vI 4, vI 1], [vI 3, vI 1], aq_h m s F c)) rfl rfl ?_
  refine am_E.go (t2 := (63, [vR o, vI 3, vI 4, vI 1], [], aq_h m s F c)) rfl rfl ?_
  refine am_E.go (t2 := (64, [vR o, vI 3, vI 4, vI 1], [vI 4], aq_h m s F c)) rfl rfl ?_
  refine am_E.go (t2 := (65, [vR o, vI 3, vI 4, vI 1], [vI 3, vI 4], aq_h m s F c)) rfl rfl ?_
  refine am_E.go (t2 := (66, [vR o, vI 3, vI 4, vI 1], [vI 1, vI 3, vI 4], aq_h m s F c)) rfl rfl ?_
  refine am_E.go (t2 := (67, [vR o, vI 3, vI 4, vI 1], [vI 4, vI 4], aq_h m s F c)) rfl rfl ?_
  refine am_E.go (t2 := (68, [vR o, vI 3, vI 4, vI 1], [vI 16], aq_h m s F c)) rfl rfl ?_
  refine am_E.go (t2 := (69, [vR o, vI 3, vI 16, vI 1], [], aq_h m s F c)) rfl rfl ?_
  refine am_E.go (t2 := (72, [vR o, vI 3, vI 16, vI 2], [], aq_h m s F c)) rfl rfl ?_
  refine am_E.go (t2 := (58, [vR o, vI 3, vI 16, vI 2], [], aq_h m s F c)) rfl rfl ?_
  refine am_E.go (t2 := (59, [vR o, vI 3, vI 16, vI 2], [vI 2], aq_h m s F c)) rfl rfl ?_
  refine am_E.go (t2 := (60, [vR o, vI 3, vI 16, vI 2], [vI 3, vI 2], aq_h m s F c)) rfl rfl ?_
  refine am_E.go (t2 := (63, [vR o, vI 3, vI 16, vI 2], [], aq_h m s F c)) rfl rfl ?_
  refine am_E.go (t2 := (64, [vR o, vI 3, vI 16, vI 2], [vI 16], aq_h m s F c)) rfl rfl ?_
  refine am_E.go (t2 := (65, [vR o, vI 3, vI 16, vI 2], [vI 3, vI 16], aq_h m s F c)) rfl rfl ?_
  refine am_E.go (t2 := (66, [vR o, vI 3, vI 16, vI 2], [vI 1, vI 3, vI 16], aq_h m s F c)) rfl rfl ?_
  refine am_E.go (t2 := (67, [vR o, vI 3, vI 16, vI 2], [vI 4, vI 16], aq_h m s F c)) rfl rfl ?_
  refine am_E.go (t2 := (68, [vR o, vI 3, vI 16, vI 2], [vI 64], aq_h m s F c)) rfl rfl ?_
  refine am_E.go (t2 := (69, [vR o, vI 3, vI 64, vI 2], [], aq_h m s F c)) rfl rfl ?_
  refine am_E.go (t2 := (72, [vR o, vI 3, vI 64, vI 3], [], aq_h m s F c)) rfl rfl ?_
  refine am_E.go (t2 := (58, [vR o, vI 3, vI 64, vI 3], [], aq_h m s F c)) rfl rfl ?_
  refine am_E.go (t2 := (59, [vR o, vI 3, vI 64, vI 3], [vI 3], aq_h m s F c)) rfl rfl ?_
  refine am_E.go (t2 := (60, [vR o, vI 3, vI 64, vI 3], [vI 3, vI 3], aq_h m s F c)) rfl rfl ?_
  refine am_E.go (t2 := (75, [vR o, vI 3, vI 64, vI 3], [], aq_h m s F c)) rfl rfl ?_
  refine am_E.go (t2 := (76, [vR o, vI 3, vI 64, vI 3], [vI 0], aq_h m s F c)) rfl rfl ?_
  refine am_E.go (t2 := (77, [vR o, vI 3, vI 64, vI 0], [], aq_h m s F c)) rfl rfl ?_
  exact k

theorem qc_pw4 {m s : Nat} {F : aq_F} {c : aq_C} {o : Nat} {Z : Option am_V → am_H → Prop} (k : am_E ac_X2_init (77, [vR o, vI 4, vI 625, vI 0], [], aq_h m s F c) Z) : am_E ac_X2_init (54, [vR o, vI 4, vU, vU], [], aq_h m s F c) Z := by
  refine am_E.go (t2 := (55, [vR o, vI 4, vU, vU], [vI 1], aq_h m s F c)) rfl rfl ?_
  refine am_E.go (t2 := (56, [vR o, vI 4, vI 1, vU], [], aq_h m s F c)) rfl rfl ?_
  refine am_E.go (t2 := (57, [vR o, vI 4, vI 1, vU], [vI 0], aq_h m s F c)) rfl rfl ?_
  refine am_E.go (t2 := (58, [vR o, vI 4, vI 1, vI 0], [], aq_h m s F c)) rfl rfl ?_
  refine am_E.go (t2 := (59, [vR o, vI 4, vI 1, vI 0], [vI 0], aq_h m s F c)) rfl rfl ?_
  refine am_E.go (t2 := (60, [vR o, vI 4, vI 1, vI 0], [vI 4, vI 0], aq_h m s F c)) rfl rfl ?_
  refine am_E.go (t2 := (63, [vR o, vI 4, vI 1, vI 0], [], aq_h m s F c)) rfl rfl ?_
  refine am_E.go (t2 := (64, [vR o, vI 4, vI 1, vI 0], [vI 1], aq_h m s F c)) rfl rfl ?_
  refine am_E.go (t2 := (65, [vR o, vI 4, vI 1, vI 0], [vI 4, vI 1], aq_h m s F c)) rfl rfl ?_
  refine am_E.go (t2 := (66, [vR o, vI 4, vI 1, vI 0], [vI 1, vI 4, vI 1], aq_h m s F c)) rfl rfl ?_
  refine am_E.go (t2 := (67, [vR o, vI 4, vI 1, vI 0], [vI 5, vI 1], aq_h m s F c)) rfl rfl ?_
  refine am_E.go (t2 := (68, [vR o, vI 4, vI 1, vI 0], [vI 5], aq_h m s F c)) rfl rfl ?_
  refine am_E.go (t2 := (69, [vR o, vI 4, vI 5, vI 0], [], aq_h m s F c)) rfl rfl ?_
  refine am_E.go (t2 := (72, [vR o, vI 4, vI 5, vI 1], [], aq_h m s F c)) rfl rfl ?_
  refine am_E.go (t2 := (58, [vR o, vI 4, vI 5, vI 1], [], aq_h m s F c)) rfl rfl ?_
  refine am_E.go (t2 := (59, [vR o, vI 4, vI 5, vI 1], [vI 1], aq_h m s F c)) rfl rfl ?_
  refine am_E.go (t2 := (60, [vR o, vI 4, vI 5, vI 1], [vI 4, vI 1], aq_h m s F c)) rfl rfl ?_
  refine am_E.go (t2 := (63, [vR o, vI 4, vI 5, vI 1], [], aq_h m s F c)) rfl rfl ?_
  refine am_E.go (t2 := (64, [vR o, vI 4, vI 5, vI 1], [vI 5], aq_h m s F c)) rfl rfl ?_
  refine am_E.go (t2 := (65, [vR o, vI 4, vI 5, vI 1], [vI 4, vI 5], aq_h m s F c)) rfl rfl ?_
  refine am_E.go (t2 := (66, [vR o, vI 4, vI 5, vI 1], [vI 1, vI 4, vI 5], aq_h m s F c)) rfl rfl ?_
  refine am_E.go (t2 := (67, [vR o, vI 4, vI 5, vI 1], [vI 5, vI 5], aq_h m s F c)) rfl rfl ?_
  refine am_E.go (t2 := (68, [vR o, vI 4, vI 5, vI 1], [vI 25], aq_h m s F c)) rfl rfl ?_
  refine am_E.go (t2 := (69, [vR o, vI 4, vI 25, vI 1], [], aq_h m s F c)) rfl rfl ?_
  refine am_E.go (t2 := (72, [vR o, vI 4, vI 25, vI 2], [], aq_h m s F c)) rfl rfl ?_
  refine am_E.go (t2 := (58, [vR o, vI 4, vI 25, vI 2], [], aq_h m s F c)) rfl rfl ?_
  refine am_E.go (t2 := (59, [vR o, vI 4, vI 25, vI 2], [vI 2], aq_h m s F c)) rfl rfl ?_
  refine am_E.go (t2 := (60, [vR o, vI 4, vI 25, vI 2], [vI 4, vI 2], aq_h m s F c)) rfl rfl ?_
  refine am_E.go (t2 := (63, [vR o, vI 4, vI 25, vI 2], [], aq_h m s F c)) rfl rfl ?_
  refine am_E.go (t2 := (64, [vR o, vI 4, vI 25, vI 2], [vI 25], aq_h m s F c)) rfl rfl ?_
  refine am_E.go (t2 := (65, [vR o, vI 4, vI 25, vI 2], [vI 4, vI 25], aq_h m s F c)) rfl rfl ?_
  refine am_E.go (t2 := (66, [vR o, vI 4, vI 25, vI 2], [vI 1, vI 4, vI 25], aq_h m s F c)) rfl rfl ?_
  refine am_E.go (t2 := (67, [vR o, vI 4, vI 25, vI 2], [vI 5, vI 25], aq_h m s F c)) rfl rfl ?_
  refine am_E.go (t2 := (68, [vR o, vI 4, vI 25, vI 2], [vI 125], aq_h m s F c)) rfl rfl ?_
  refine am_E.go (t2 := (69, [vR o, vI 4, vI 125, vI 2], [], aq_h m s F c)) rfl rfl ?_
  refine am_E.go (t2 := (72, [vR o, vI 4, vI 125, vI 3], [], aq_h m s F c)) rfl rfl ?_
  refine am_E.go (t2 := (58, [vR o, vI 4, vI 125, vI 3], [], aq_h m s F c)) rfl rfl ?_
  refine am_E.go (t2 := (59, [vR o, vI 4, vI 125, vI 3], [vI 3], aq_h m s F c)) rfl rfl ?_
  refine am_E.go (t2 := (60, [vR o, vI 4, vI 125, vI 3], [vI 4, vI 3], aq_h m s F c)) rfl rfl ?_
  refine am_E.go (t2 := (63, [vR o, vI 4, vI 125, vI 3], [], aq_h m s F c)) rfl rfl ?_
  refine am_E.go (t2 := (64, [vR o, vI 4, vI 125, vI 3], [vI 125], aq_h m s F c)) rfl rfl ?_
  refine am_E.go (t2 := (65, [vR o, vI 4, vI 125, vI 3], [vI 4, vI 125], aq_h m s F c)) rfl rfl ?_
  refine am_E.go (t2 := (66, [vR o, vI 4, vI 125, vI 3], [vI 1, vI 4, vI 125], aq_h m s F c)) rfl rfl ?_
  refine am_E.go (t2 := (67, [vR o, vI 4, vI 125, vI 3], [vI 5, vI 125], aq_h m s F c)) rfl rfl ?_
  refine am_E.go (t2 := (68, [vR o, vI 4, vI 125, vI 3], [vI 625], aq_h m s F c)) rfl rfl ?_
  refine am_E.go (t2 := (69, [vR o, vI 4, vI 625, vI 3], [], aq_h m s F c)) rfl rfl ?_
  refine am_E.go (t2 := (72, [vR o, vI 4, vI 625, vI 4], [], aq_h m s F c)) rfl rfl ?_
  refine am_E.go (t2 := (58, [vR o, vI 4, vI 625, vI 4], [], aq_h m s F c)) rfl rfl ?_
  refine am_E.go (t2 := (59, [vR o, vI 4, vI 625, vI 4], [vI 4], aq_h m s F c)) rfl rfl ?_
  refine am_E.go (t2 := (60, [vR o, vI 4, vI 625, vI 4], [vI 4, vI 4], aq_h m s F c)) rfl rfl ?_
  refine am_E.go (t2 := (75, [vR o, vI 4, vI 625, vI 4], [], aq_h m s F c)) rfl rfl ?_
  refine am_E.go (t2 := (76, [vR o, vI 4, vI 625, vI 4], [vI 0], aq_h m s F c)) rfl rfl ?_
  refine am_E.go (t2 := (77, [vR o, vI 4, vI 625, vI 0], [], aq_h m s F c)) rfl rfl ?_
  exact k

theorem qc_pw {m s : Nat} {F : aq_F} {c : aq_C} {o n : Nat} {Z : Option am_V → am_H → Prop} (h1 : 1 ≤ n) (h4 : n ≤ 4) (k : ∀ D : Int, 0 ≤ D → D ≤ 625 → am_E ac_X2_init (77, [vR o, vI (n : Int), vI D, vI 0], [], aq_h m s F c) Z) : am_E ac_X2_init (54, [vR o, vI (n : Int), vU, vU], [], aq_h m s F c) Z := by
  have hn : n = 1 ∨ n = 2 ∨ n = 3 ∨ n = 4 := by omega
  rcases hn with hn | hn | hn | hn <;> subst hn
  · exact qc_pw1 (k 2 (by omega) (by omega))
  · exact qc_pw2 (k 9 (by omega) (by omega))
  · exact qc_pw3 (k 64 (by omega) (by omega))
  · exact qc_pw4 (k 625 (by omega) (by omega))

def hc_t0 : Nat → aq_T := fun j => aq_ot (ac_ft 2 j)
/-- strands is set -/
def hc_t1 (o n : Nat) : Nat → aq_T := fun y => match y with
  | 0 => .inr (vI (n : Int))
  | 2 => .inr (vR (o + 1))
  | 3 => .inr (vR (o + 2))
  | y => hc_t0 y

def hv_Z (o n sT : Nat) (F : aq_F) (c : aq_C) : Option am_V → am_H → Prop := fun r h2 => ∃ (s2 : Nat) (F2 : aq_F) (c2 : aq_C), r = none ∧ h2 = aq_h (o + 18) s2 F2 c2 ∧ s2 ≤ sT ∧ sb_H (o + 18) F2 o n ∧ (∀ b, b < o → F2 b = F b) ∧ ∀ b, b < o → ∀ j, c2 b j = c b j
theorem qc_init {s : Nat} {F : aq_F} {c : aq_C} {o n : Nat} (h1 : 1 ≤ n) (h4 : n ≤ 4) (hF : F o = (12, 7, hc_t0)) (hc : ∀ j, c o j = 0) : am_E ac_X2_init (0, [vR o, vI (n : Int), vU, vU], [], aq_h (o + 1) s F c) (hv_Z o n (s + 200) F c) := by
  refine am_E.go (t2 := (1, [vR o, vI (n : Int), vU, vU], [vR o], aq_h (o + 1) s F c)) rfl rfl ?_
  refine am_E.go (t2 := (4, [vR o, vI (n : Int), vU, vU], [], aq_h (o + 1) s F c)) rfl rfl ?_
  refine am_E.go (t2 := (5, [vR o, vI (n : Int), vU, vU], [vR o], aq_h (o + 1) s F c)) rfl rfl ?_
  refine am_E.go (t2 := (7, [vR o, vI (n : Int), vU, vU], [vI 6, vR o], aq_h (o + 1) s F c)) rfl rfl ?_
  refine aq_stp (o := o) (n := 6) (a := o + 1) (m2 := o + 2) rfl rfl hF (by omega) (by decide) rfl (by omega) rfl (by decide) rfl rfl ?_
  intro s_1 F_1 c_1 es_1 y_1 a_1 o_1 z_1 u_1
  show am_E _ (12, [vR o, vI (n : Int), vU, vU], [], aq_h (o + 2) s_1 F_1 c_1) _
  refine am_E.go (t2 := (13, [vR o, vI (n : Int), vU, vU], [vR o], aq_h (o + 2) s_1 F_1 c_1)) rfl rfl ?_
  refine am_E.go (t2 := (15, [vR o, vI (n : Int), vU, vU], [vI 6, vR o], aq_h (o + 2) s_1 F_1 c_1)) rfl rfl ?_
  refine am_E.go (t2 := (17, [vR o, vI (n : Int), vU, vU], [vI 6, vI 6, vR o], aq_h (o + 2) s_1 F_1 c_1)) rfl rfl ?_
  refine aq_gst (o := o) (n := 6) (w := 6) (a := o + 2) (m2 := o + 9) rfl rfl y_1 (by omega) rfl rfl (by omega) (by omega) rfl (by decide) rfl rfl ?_
  intro s_2 F_2 c_2 es_2 y_2 a_2 r_2 o_2 z_2 u_2
  show am_E _ (24, [vR o, vI (n : Int), vU, vU], [], aq_h (o + 9) s_2 F_2 c_2) _
  refine am_E.go (t2 := (25, [vR o, vI (n : Int), vU, vU], [vR o], aq_h (o + 9) s_2 F_2 c_2)) rfl rfl ?_
  refine am_E.go (t2 := (26, [vR o, vI (n : Int), vU, vU], [vI (n : Int), vR o], aq_h (o + 9) s_2 F_2 c_2)) rfl rfl ?_
  refine aq_pf rfl (by omega) y_2 (by decide) rfl rfl ?_
  show am_E _ (29, [vR o, vI (n : Int), vU, vU], [], aq_h (o + 9) s_2 F_2 (aq_u c_2 o 0 (n : Int))) _
  generalize hd : aq_u c_2 o 0 (n : Int) = c_3
  have z0 : c_3 o 0 = (n : Int) := by rw [← hd, aq_us]
  have zb : ∀ b j, (b ≠ o ∨ j ≠ 0) → c_3 b j = c_2 b j := fun b j hb => by rw [← hd, aq_un hb]
  have ef : aq_h (o + 9) s_2 F_2 c_3 = aq_h (o + 9) s_2 (am_up F_2 o (12, 7, hc_t1 o n)) c_3 := by
    refine aq_eq fun a => ?_
    by_cases e : a = o
    · subst e
      rw [am_up_s, y_2]
      refine ⟨rfl, rfl, fun i => ?_⟩
      match i with
      | 0 => exact congrArg vI z0.symm
      | 1 => rfl
      | 2 => rfl
      | 3 => rfl
      | i + 4 => rfl
    · rw [am_up_n e]
      exact ⟨rfl, rfl, fun i => rfl⟩
  rw [ef]
  have y_3 : am_up F_2 o (12, 7, hc_t1 o n) o = (12, 7, hc_t1 o n) := am_up_s
  have o_3 : ∀ b, b ≠ o → am_up F_2 o (12, 7, hc_t1 o n) b = F_2 b := fun b hb => am_up_n hb
  generalize am_up F_2 o (12, 7, hc_t1 o n) = F_3 at y_3 o_3 ⊢
  show am_E _ (29, [vR o, vI (n : Int), vU, vU], [], aq_h (o + 9) s_2 F_3 c_3) _
  refine am_E.go (t2 := (30, [vR o, vI (n : Int), vU, vU], [vR o], aq_h (o + 9) s_2 F_3 c_3)) rfl rfl ?_
  refine am_E.go (t2 := (32, [vR o, vI (n : Int), vU, vU], [vI 6, vR o], aq_h (o + 9) s_2 F_3 c_3)) rfl rfl ?_
  refine am_E.go (t2 := (33, [vR o, vI (n : Int), vU, vU], [vI (n : Int), vI 6, vR o], aq_h (o + 9) s_2 F_3 c_3)) rfl rfl ?_
  refine aq_gst (o := o) (n := 6) (w := n) (a := o + 9) (m2 := o + 16) rfl rfl y_3 (by omega) rfl rfl (by omega) (by omega) rfl (by decide) rfl rfl ?_
  intro s_4 F_4 c_4 es_4 y_4 a_4 r_4 o_4 z_4 u_4
  show am_E _ (40, [vR o, vI (n : Int), vU, vU], [], aq_h (o + 16) s_4 F_4 c_4) _
  refine am_E.go (t2 := (41, [vR o, vI (n : Int), vU, vU], [vR o], aq_h (o + 16) s_4 F_4 c_4)) rfl rfl ?_
  refine am_E.go (t2 := (42, [vR o, vI (n : Int), vU, vU], [vI (n : Int), vR o], aq_h (o + 16) s_4 F_4 c_4)) rfl rfl ?_
  refine aq_stp (o := o) (n := n) (a := o + 16) (m2 := o + 17) rfl rfl y_4 (by omega) (by decide) rfl (by omega) rfl (by decide) rfl rfl ?_
  intro s_5 F_5 c_5 es_5 y_5 a_5 o_5 z_5 u_5
  show am_E _ (47, [vR o, vI (n : Int), vU, vU], [], aq_h (o + 17) s_5 F_5 c_5) _
  refine am_E.go (t2 := (48, [vR o, vI (n : Int), vU, vU], [vR o], aq_h (o + 17) s_5 F_5 c_5)) rfl rfl ?_
  refine am_E.go (t2 := (49, [vR o, vI (n : Int), vU, vU], [vI (n : Int), vR o], aq_h (o + 17) s_5 F_5 c_5)) rfl rfl ?_
  refine aq_stp (o := o) (n := n) (a := o + 17) (m2 := o + 18) rfl rfl y_5 (by omega) (by decide) rfl (by omega) rfl (by decide) rfl rfl ?_
  intro s_6 F_6 c_6 es_6 y_6 a_6 o_6 z_6 u_6
  show am_E _ (54, [vR o, vI (n : Int), vU, vU], [], aq_h (o + 18) s_6 F_6 c_6) _
  have et : am_up (am_up (am_up (hc_t1 o n) 1 (.inr (vR (o + 9)))) 4 (.inr (vR (o + 16)))) 5 (.inr (vR (o + 17))) = hc_t o n := by
    funext k
    match k with
    | 0 => rfl
    | 1 => rfl
    | 2 => rfl
    | 3 => rfl
    | 4 => rfl
    | 5 => rfl
    | k + 6 =>
      repeat rw [am_up_n (by omega)]
      match k with
      | 0 => rfl
      | k + 1 => rfl
  rw [et] at y_6
  have g1 : F_6 (o + 1) = (0, 6, fun _ => .inl 0) := by rw [o_6 _ (by omega) (by omega), o_5 _ (by omega) (by omega), o_4 _ (by omega) (by omega), o_3 _ (by omega), o_2 _ (by omega) (by omega)]; exact a_1
  have g2 : F_6 (o + 2) = (3, 6, fun j => aq_g 6 j (o + 3 + j)) := by rw [o_6 _ (by omega) (by omega), o_5 _ (by omega) (by omega), o_4 _ (by omega) (by omega), o_3 _ (by omega)]; exact a_2
  have g3 : ∀ j, j < 6 → F_6 (o + 3 + j) = (0, 6, fun _ => .inl 0) := fun j hj => by rw [o_6 _ (by omega) (by omega), o_5 _ (by omega) (by omega), o_4 _ (by omega) (by omega), o_3 _ (by omega)]; exact r_2 j hj
  have g9 : F_6 (o + 9) = (3, 6, fun j => aq_g 6 j (o + 10 + j)) := by rw [o_6 _ (by omega) (by omega), o_5 _ (by omega) (by omega)]; exact a_4
  have g10 : ∀ h, h < 6 → F_6 (o + 10 + h) = (0, n, fun _ => .inl 0) := fun h hh => by rw [o_6 _ (by omega) (by omega), o_5 _ (by omega) (by omega)]; exact r_4 h hh
  have g16 : F_6 (o + 16) = (0, n, fun _ => .inl 0) := by rw [o_6 _ (by omega) (by omega)]; exact a_5
  have gb : ∀ b, b < o → F_6 b = F b := fun b hb => by rw [o_6 _ (by omega) (by omega), o_5 _ (by omega) (by omega), o_4 _ (by omega) (by omega), o_3 _ (by omega), o_2 _ (by omega) (by omega), o_1 _ (by omega) (by omega)]
  have hH : hc_0 (o + 18) F_6 o n := ⟨Nat.le_refl _, h1, h4, y_6, g1, g2, g3, g9, g10, g16, a_6⟩
  have zc : ∀ b, b < o → ∀ j, c_6 b j = c b j := fun b hb j => by rw [u_6 _ (by omega), u_5 _ (by omega), u_4 _ (by omega), zb _ _ (Or.inl (by omega)), u_2 _ (by omega), u_1 _ (by omega)]
  have zd : ∀ j, c_6 (o + 16) j = 0 := fun j => by rw [u_6 _ (by omega)]; exact z_5 j
  have zp : ∀ h, h < 6 → ∀ j, c_6 (o + 10 + h) j = 0 := fun h hh j => by rw [u_6 _ (by omega), u_5 _ (by omega)]; exact z_4 _ (by omega) (by omega) j
  have zo : c_6 o 6 = 0 := by rw [u_6 _ (by omega), u_5 _ (by omega), u_4 _ (by omega), zb _ _ (Or.inr (by decide)), u_2 _ (by omega), u_1 _ (by omega)]; exact hc 6
  have hI : hc_I o n c_6 := ⟨fun i _ _ => by rw [zd]; omega, fun h hh i _ _ => by rw [zp h hh]; omega, by omega, by omega⟩
  refine qc_pw h1 h4 (fun D hD0 hD => ?_)
  refine am_E.imp (qc_init_l hH hD 626 0 c_6 aq_sm0 (by omega) (by omega) hI (by omega)) ?_
  rintro r h2 ⟨d, rfl, e1, rfl, i1, i2, i3, i4⟩
  have f0 : ∀ a, (a = o + 1 ∨ (o + 10 ≤ a ∧ a < o + 16)) → ∃ w, F_6 a = (0, w, fun _ => .inl 0) := by
    intro a ha
    rcases ha with ha | ha
    · exact ⟨6, by rw [ha]; exact g1⟩
    · have := g10 (a - (o + 10)) (by omega)
      rw [show o + 10 + (a - (o + 10)) = a by omega] at this
      exact ⟨_, this⟩
  rw [aq_fzh f0]
  have q1 : ∀ a, ¬ (a = o + 1 ∨ (o + 10 ≤ a ∧ a < o + 16)) → aq_fz (fun a => a = o + 1 ∨ (o + 10 ≤ a ∧ a < o + 16)) F_6 d a = F_6 a := fun a ha => aq_fzn ha
  have q2 : aq_fz (fun a => a = o + 1 ∨ (o + 10 ≤ a ∧ a < o + 16)) F_6 d (o + 1) = (0, 6, fun j => .inr (vI (d (o + 1) (j : Int)))) := aq_fzy (Or.inl rfl) g1
  have q3 : ∀ h, h < 6 → aq_fz (fun a => a = o + 1 ∨ (o + 10 ≤ a ∧ a < o + 16)) F_6 d (o + 10 + h) = (0, n, fun j => .inr (vI (d (o + 10 + ((h : Int)).toNat) (j : Int)))) := fun h hh => by
    rw [Int.toNat_natCast]
    exact aq_fzy (Or.inr (by omega)) (g10 h hh)
  generalize aq_fz (fun a => a = o + 1 ∨ (o + 10 ≤ a ∧ a < o + 16)) F_6 d = F_7 at q1 q2 q3 ⊢
  have ez : ((d o 6).toNat : Int) = d o 6 := Int.toNat_of_nonneg i3
  have ef2 : aq_h (o + 18) s_6 F_7 d = aq_h (o + 18) s_6 (am_up F_7 o (12, 7, hv_t o n (d o 6).toNat)) d := by
    refine aq_eq fun a => ?_
    by_cases e : a = o
    · subst e
      rw [am_up_s, q1 _ (by omega), y_6]
      refine ⟨rfl, rfl, fun i => ?_⟩
      match i with
      | 0 => rfl
      | 1 => rfl
      | 2 => rfl
      | 3 => rfl
      | 4 => rfl
      | 5 => rfl
      | 6 => exact congrArg vI ez
      | i + 7 => rfl
    · rw [am_up_n e]
      exact ⟨rfl, rfl, fun i => rfl⟩
  rw [ef2]
  refine ⟨s_6, _, d, rfl, rfl, ?_, ⟨(d o 6).toNat, fun i => d (o + 1) i, fun h i => d (o + 10 + h.toNat) i, Nat.le_refl _, h1, h4, by omega, am_up_s, ?_, ?_, fun j hj => ?_, ?_, fun h hh => ?_, ?_, ?_, fun h p k0 k1 k2 k3 => ?_⟩, fun b hb => ?_, fun b hb j => ?_⟩
  · omega
  · rw [am_up_n (by omega)]; exact q2
  · rw [am_up_n (by omega), q1 _ (by omega)]; exact g2
  · rw [am_up_n (by omega), q1 _ (by omega)]; exact g3 j hj
  · rw [am_up_n (by omega), q1 _ (by omega)]; exact g9
  · rw [am_up_n (by omega)]; exact q3 h hh
  · rw [am_up_n (by omega), q1 _ (by omega)]; exact g16
  · rw [am_up_n (by omega), q1 _ (by omega)]; exact a_6
  · have := i2 h.toNat (by omega) p k2 k3
    show 0 ≤ d (o + 10 + h.toNat) p ∧ d (o + 10 + h.toNat) p ≤ (n : Int)
    omega
  · rw [am_up_n (by omega), q1 _ (by omega)]; exact gb b hb
  · rw [e1 _ (by omega)]; exact zc b hb j
/-! The class's constructor. -/
theorem sb_Bm {m m2 o n K : Nat} {F F2 : aq_F} (hB : sb_B m F o n K) (hm : m ≤ m2) (h : ∀ b, o ≤ b → b < o + 8 + 3 * K → F2 b = F b) : sb_B m2 F2 o n K := by
  obtain ⟨tP, tG, tN, tR, tL, ⟨a1, a2, a3, a4, a5, a6, a7⟩, ⟨b1, b2, b3⟩, ⟨c1, c2, c3, c4, c5, c6, c7, c8⟩, ⟨d1, d2⟩, e⟩ := hB
  exact ⟨tP, tG, tN, tR, tL, ⟨by omega, a2, a3, a4, by rw [h _ (by omega) (by omega)]; exact a5, by rw [h _ (by omega) (by omega)]; exact a6, by rw [h _ (by omega) (by omega)]; exact a7⟩, ⟨by rw [h _ (by omega) (by omega)]; exact b1, fun b hb => by rw [h _ (by omega) (by omega)]; exact b2 b hb, b3⟩, ⟨by rw [h _ (by omega) (by omega)]; exact c1, by rw [h _ (by omega) (by omega)]; exact c2, fun b hb => by rw [h _ (by omega) (by omega)]; exact c3 b hb, by rw [h _ (by omega) (by omega)]; exact c4, fun b hb => by rw [h _ (by omega) (by omega)]; exact c5 b hb, c6, c7, c8⟩, ⟨by rw [h _ (by omega) (by omega)]; exact d1, d2⟩, e⟩
theorem sb_Hm {m m2 o n : Nat} {F F2 : aq_F} (hH : sb_H m F o n) (hm : m ≤ m2) (h : ∀ b, o ≤ b → b < o + 18 → F2 b = F b) : sb_H m2 F2 o n := by
  obtain ⟨z, tl, th, a1, a2, a3, a4, a5, a6, a7, a8, a9, b1, b2, b3, b4⟩ := hH
  exact ⟨z, tl, th, by omega, a2, a3, a4, by rw [h _ (by omega) (by omega)]; exact a5, by rw [h _ (by omega) (by omega)]; exact a6, by rw [h _ (by omega) (by omega)]; exact a7, fun j hj => by rw [h _ (by omega) (by omega)]; exact a8 j hj, by rw [h _ (by omega) (by omega)]; exact a9, fun j hj => by rw [h _ (by omega) (by omega)]; exact b1 j hj, by rw [h _ (by omega) (by omega)]; exact b2, by rw [h _ (by omega) (by omega)]; exact b3, b4⟩
theorem su_0m {m m2 a : Nat} {F F2 : aq_F} (hH : su_0 m F a) (hm : m ≤ m2) (h : ∀ b, a ≤ b → b < a + 4 → F2 b = F b) : su_0 m2 F2 a := by
  obtain ⟨a1, a2, a3, a4, a5⟩ := hH
  exact ⟨by omega, by rw [h _ (by omega) (by omega)]; exact a2, by rw [h _ (by omega) (by omega)]; exact a3, by rw [h _ (by omega) (by omega)]; exact a4, by rw [h _ (by omega) (by omega)]; exact a5⟩
theorem cr_0m {m m2 a : Nat} {F F2 : aq_F} (hH : cr_0 m F a) (hm : m ≤ m2) (h : ∀ b, a ≤ b → b < a + 3 → F2 b = F b) : cr_0 m2 F2 a := by
  obtain ⟨a1, a2, a3, a4⟩ := hH
  exact ⟨by omega, by rw [h _ (by omega) (by omega)]; exact a2, by rw [h _ (by omega) (by omega)]; exact a3, by rw [h _ (by omega) (by omega)]; exact a4⟩
def sb_m (j : Nat) : Nat := if j = 4 then 495 else sb_o j
theorem sb_num : ∀ j, j < 4 → sb_h j = sb_o j + 10 + 3 * sb_K j ∧ sb_m (j + 1) = sb_h j + 18 ∧ 11 ≤ sb_o j ∧ sb_m j = sb_o j ∧ ∀ i, i < j → sb_o i + 28 + 3 * sb_K i ≤ sb_o j ∧ sb_h i = sb_o i + 10 + 3 * sb_K i := by decide
theorem sb_Kn : ∀ j, j < 4 → (sb_K j : Int) = bx_K ((j + 1 : Nat) : Int) := by decide
theorem aq_gu {j : Nat} {f : Nat → Nat} : am_up (fun i => aq_g j i (f i)) j (.inr (vR (f j))) = fun i => aq_g (j + 1) i (f i) := by
  funext i
  unfold am_up aq_g
  by_cases e : i = j
  · rw [if_pos e, if_pos (by omega), e]
  · rw [if_neg e]
    show (Sum.inr (if i < j then vR (f i) else vN) : aq_T) = Sum.inr (if i < j + 1 then vR (f i) else vN)
    by_cases e2 : i < j
    · rw [if_pos e2, if_pos (by omega)]
    · rw [if_neg e2, if_neg (by omega)]
theorem aq_g0 {f : Nat → Nat} : (fun _ => .inr vN : Nat → aq_T) = fun i => aq_g 0 i (f i) := by
  funext i
  unfold aq_g
  rw [if_neg (by omega)]
/-- behind j of the rounds: what is there -/
def sb_D (j m : Nat) (F : aq_F) (c : aq_C) : Prop := F 0 = (14, 5, sb_t) ∧ F 1 = (4, 4, fun i => aq_g j i (sb_o i)) ∧ F 2 = (5, 4, fun i => aq_g j i (sb_h i)) ∧ F 3 = (6, 8, fun _ => .inr vN) ∧ su_0 m F 4 ∧ cr_0 m F 8 ∧ (cr_l 8 c ∧ c 8 0 = 2 ∧ c 8 1 = 0) ∧ (∀ i, i < j → sb_B m F (sb_o i) (i + 1) (sb_K i)) ∧ (∀ i, i < j → sb_H m F (sb_h i) (i + 1)) ∧ ∀ i, i < j → aq_rg (sb_o i + 6 + 3 * sb_K i) (2 * ((i + 1 : Nat) : Int)) 0 (2 * ((i + 1 : Nat) : Int)) c
theorem sb_step {s j : Nat} {F : aq_F} {c : aq_C} {Z : Option am_V → am_H → Prop} (hj : j < 4) (hD : sb_D j (sb_m j) F c) (k : ∀ (s2 : Nat) (F2 : aq_F) (c2 : aq_C), s2 ≤ s + 3200 → sb_D (j + 1) (sb_m (j + 1)) F2 c2 → am_E ac_X4_init (53, [vR 0, vI ((j + 1 + 1 : Nat) : Int)], [], aq_h (sb_m (j + 1)) s2 F2 c2) Z) : am_E ac_X4_init (53, [vR 0, vI ((j + 1 : Nat) : Int)], [], aq_h (sb_m j) s F c) Z := by
  obtain ⟨n1, n2, n3, n4, n5⟩ := sb_num j hj
  have hK := sb_Kn j hj
  rw [n2, n1] at k
  obtain ⟨d0, d1, d2, d3, d4, d8, dl, dB, dH, dr⟩ := hD
  rw [n4] at d4 d8 dB dH ⊢
  have eo := aq_gu (j := j) (f := sb_o)
  have eh := aq_gu (j := j) (f := sb_h)
  rw [n1] at eh
  obtain ⟨o, ho⟩ : ∃ o, sb_o j = o := ⟨_, rfl⟩
  obtain ⟨K, hKK⟩ : ∃ K, sb_K j = K := ⟨_, rfl⟩
  rw [ho] at n3 n5 d4 d8 dB dH ⊢
  rw [ho, hKK] at k eh
  rw [ho] at eo
  rw [hKK] at hK
  refine am_E.go (t2 := (54, [vR 0, vI ((j + 1 : Nat) : Int)], [vI ((j + 1 : Nat) : Int)], aq_h o s F c)) rfl rfl ?_
  refine am_E.go (t2 := (55, [vR 0, vI ((j + 1 : Nat) : Int)], [vI 4, vI ((j + 1 : Nat) : Int)], aq_h o s F c)) rfl rfl ?_
  refine ae_icmp rfl (fun (q : (4 : Int) < ((j + 1 : Nat) : Int)) => absurd q (by omega)) (fun _ => ?_)
  refine am_E.go (t2 := (59, [vR 0, vI ((j + 1 : Nat) : Int)], [vR 0], aq_h o s F c)) rfl rfl ?_
  refine aq_gf (v := vR 1) rfl (by omega) d0 (by decide) rfl ?_
  refine am_E.go (t2 := (63, [vR 0, vI ((j + 1 : Nat) : Int)], [vI ((j + 1 : Nat) : Int), vR 1], aq_h o s F c)) rfl rfl ?_
  refine am_E.go (t2 := (64, [vR 0, vI ((j + 1 : Nat) : Int)], [vI 1, vI ((j + 1 : Nat) : Int), vR 1], aq_h o s F c)) rfl rfl ?_
  refine ae_sub rfl (am_ri (by omega) (by omega)) ?_
  refine aq_new (a := o) (m2 := o + 1) rfl rfl rfl ?_
  intro s_1 F_1 c_1 es_1 y_1 o_1 z_1 u_1
  refine am_E.go (t2 := (69, [vR 0, vI ((j + 1 : Nat) : Int)], [vR o, vR o, vI (((j + 1 : Nat) : Int) - 1), vR 1], aq_h (o + 1) s_1 F_1 c_1)) rfl rfl ?_
  refine am_E.go (t2 := (70, [vR 0, vI ((j + 1 : Nat) : Int)], [vI ((j + 1 : Nat) : Int), vR o, vR o, vI (((j + 1 : Nat) : Int) - 1), vR 1], aq_h (o + 1) s_1 F_1 c_1)) rfl rfl ?_
  refine aq_callv (y := 2) (as2 := [vI ((j + 1 : Nat) : Int)]) (rest := [vR o, vI (((j + 1 : Nat) : Int) - 1), vR 1]) rfl rfl (by decide) (Nat.le_of_ble_eq_true rfl) rfl rfl (Nat.le_of_ble_eq_true rfl) (by omega) y_1 rfl (Nat.le_of_ble_eq_true rfl) (qb_init (n := j + 1) (K := K) (by omega) (by omega) hK y_1 z_1) ?_
  rintro r5 h5 ⟨s_2, F_2, c_2, rfl, rfl, es_2, gB, o_2, u_2, gr⟩
  show am_E _ (73, [vR 0, vI ((j + 1 : Nat) : Int)], [vR o, vI (((j + 1 : Nat) : Int) - 1), vR 1], aq_h (o + 10 + 3 * K) s_2 F_2 c_2) _
  have g1 : F_2 1 = (4, 4, fun i => aq_g j i (sb_o i)) := by rw [o_2 _ (by omega), o_1 _ (by omega)]; exact d1
  have gO : ∃ t, F_2 o = (10, 11, t) := by
    obtain ⟨_, _, _, _, _, hb, _⟩ := gB
    exact ⟨_, hb.2.2.2.2.1⟩
  obtain ⟨tO, gO⟩ := gO
  refine aq_aas (a := 1) (b := o) (kd := 4) (j := j) rfl (by omega) (by omega) g1 gO (by decide) (by decide) (by omega) hj ?_
  intro F_3 y_3 o_3
  rw [eo] at y_3
  show am_E _ (74, [vR 0, vI ((j + 1 : Nat) : Int)], [], aq_h (o + 10 + 3 * K) s_2 F_3 c_2) _
  have e0 : F_3 0 = (14, 5, sb_t) := by rw [o_3 _ (by omega), o_2 _ (by omega), o_1 _ (by omega)]; exact d0
  refine am_E.go (t2 := (75, [vR 0, vI ((j + 1 : Nat) : Int)], [vR 0], aq_h (o + 10 + 3 * K) s_2 F_3 c_2)) rfl rfl ?_
  refine aq_gf (v := vR 2) rfl (by omega) e0 (by decide) rfl ?_
  refine am_E.go (t2 := (79, [vR 0, vI ((j + 1 : Nat) : Int)], [vI ((j + 1 : Nat) : Int), vR 2], aq_h (o + 10 + 3 * K) s_2 F_3 c_2)) rfl rfl ?_
  refine am_E.go (t2 := (80, [vR 0, vI ((j + 1 : Nat) : Int)], [vI 1, vI ((j + 1 : Nat) : Int), vR 2], aq_h (o + 10 + 3 * K) s_2 F_3 c_2)) rfl rfl ?_
  refine ae_sub rfl (am_ri (by omega) (by omega)) ?_
  obtain ⟨q, hq⟩ : ∃ q, o + 10 + 3 * K = q := ⟨_, rfl⟩
  rw [hq] at gB k eh ⊢
  refine aq_new (a := q) (m2 := q + 1) rfl rfl rfl ?_
  intro s_4 F_4 c_4 es_4 y_4 o_4 z_4 u_4
  refine am_E.go (t2 := (85, [vR 0, vI ((j + 1 : Nat) : Int)], [vR q, vR q, vI (((j + 1 : Nat) : Int) - 1), vR 2], aq_h (q + 1) s_4 F_4 c_4)) rfl rfl ?_
  refine am_E.go (t2 := (86, [vR 0, vI ((j + 1 : Nat) : Int)], [vI ((j + 1 : Nat) : Int), vR q, vR q, vI (((j + 1 : Nat) : Int) - 1), vR 2], aq_h (q + 1) s_4 F_4 c_4)) rfl rfl ?_
  refine aq_callv (y := 2) (as2 := [vI ((j + 1 : Nat) : Int)]) (rest := [vR q, vI (((j + 1 : Nat) : Int) - 1), vR 2]) rfl rfl (by decide) (Nat.le_of_ble_eq_true rfl) rfl rfl (Nat.le_of_ble_eq_true rfl) (by omega) y_4 rfl (Nat.le_of_ble_eq_true rfl) (qc_init (n := j + 1) (by omega) (by omega) y_4 z_4) ?_
  rintro r6 h6 ⟨s_5, F_5, c_5, rfl, rfl, es_5, gH, o_5, u_5⟩
  show am_E _ (89, [vR 0, vI ((j + 1 : Nat) : Int)], [vR q, vI (((j + 1 : Nat) : Int) - 1), vR 2], aq_h (q + 18) s_5 F_5 c_5) _
  have g2 : F_5 2 = (5, 4, fun i => aq_g j i (sb_h i)) := by rw [o_5 _ (by omega), o_4 _ (by omega), o_3 _ (by omega), o_2 _ (by omega), o_1 _ (by omega)]; exact d2
  have gQ : ∃ t, F_5 q = (12, 7, t) := by
    obtain ⟨_, _, _, hb⟩ := gH
    exact ⟨_, hb.2.2.2.2.1⟩
  obtain ⟨tQ, gQ⟩ := gQ
  refine aq_aas (a := 2) (b := q) (kd := 5) (j := j) rfl (by omega) (by omega) g2 gQ (by decide) (by decide) (by omega) hj ?_
  intro F_6 y_6 o_6
  rw [eh] at y_6
  show am_E _ (90, [vR 0, vI ((j + 1 : Nat) : Int)], [], aq_h (q + 18) s_5 F_6 c_5) _
  refine ae_iinc rfl rfl (am_ri (by omega) (by omega)) ?_
  show am_E _ (93, [vR 0, vI (((j + 1 : Nat) : Int) + 1)], [], aq_h (q + 18) s_5 F_6 c_5) _
  rw [show ((j + 1 : Nat) : Int) + 1 = ((j + 1 + 1 : Nat) : Int) by omega]
  refine am_E.go (t2 := (53, [vR 0, vI ((j + 1 + 1 : Nat) : Int)], [], aq_h (q + 18) s_5 F_6 c_5)) rfl rfl ?_
  have Fb : ∀ b, b < o → b ≠ 1 → b ≠ 2 → F_6 b = F b := fun b h1 h2 h3 => by rw [o_6 _ h3, o_5 _ (by omega), o_4 _ (by omega), o_3 _ h2, o_2 _ (by omega), o_1 _ (by omega)]
  have cb : ∀ b, b < o → ∀ i, c_5 b i = c b i := fun b h1 i => by rw [u_5 _ (by omega), u_4 _ (by omega), u_2 _ (by omega), u_1 _ (by omega)]
  have Fo : ∀ b, o ≤ b → b < q → F_6 b = F_2 b := fun b h1 h2 => by rw [o_6 _ (by omega), o_5 _ (by omega), o_4 _ (by omega), o_3 _ (by omega)]
  have co : ∀ b, o ≤ b → b < q → ∀ i, c_5 b i = c_2 b i := fun b h1 h2 i => by rw [u_5 _ (by omega), u_4 _ (by omega)]
  refine k s_5 F_6 c_5 (by omega) ⟨by rw [Fb _ (by omega) (by omega) (by omega)]; exact d0, ?_, y_6, by rw [Fb _ (by omega) (by omega) (by omega)]; exact d3, su_0m d4 (by omega) (fun b h1 h2 => Fb b (by omega) (by omega) (by omega)), cr_0m d8 (by omega) (fun b h1 h2 => Fb b (by omega) (by omega) (by omega)), ⟨cr_lc (cb 8 (by omega)) (cb 9 (by omega)) dl.1, by rw [cb 8 (by omega)]; exact dl.2.1, by rw [cb 8 (by omega)]; exact dl.2.2⟩, fun i hi => ?_, fun i hi => ?_, fun i hi => ?_⟩
  · rw [o_6 _ (by omega), o_5 _ (by omega), o_4 _ (by omega)]
    exact y_3
  · by_cases e : i = j
    · subst e
      rw [ho, hKK]
      exact sb_Bm gB (by omega) (fun b h1 h2 => Fo b h1 (by omega))
    · have n6 := n5 i (by omega)
      have n7 := (sb_num i (by omega)).2.2.1
      exact sb_Bm (dB i (by omega)) (by omega) (fun b h1 h2 => Fb b (by omega) (by omega) (by omega))
  · by_cases e : i = j
    · subst e
      rw [n1, ho, hKK, hq]
      exact sb_Hm gH (by omega) (fun b h1 h2 => o_6 _ (by omega))
    · have n6 := n5 i (by omega)
      have n7 := (sb_num i (by omega)).2.2.1
      exact sb_Hm (dH i (by omega)) (by omega) (fun b h1 h2 => Fb b (by omega) (by omega) (by omega))
  · by_cases e : i = j
    · subst e
      rw [ho, hKK]
      intro x x0 x1
      rw [co _ (by omega) (by omega)]
      exact gr x x0 x1
    · have n6 := n5 i (by omega)
      intro x x0 x1
      rw [cb _ (by omega)]
      exact dr i (by omega) x x0 x1
