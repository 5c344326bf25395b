/-! Halves: the constructor, exactly. Printed by wip/p20/sx/gHE.py. -/

def hN (n : Int) : Int := if n = 1 then 2 else if n = 2 then 9 else if n = 3 then 64 else 625
/-- the codes of the halves -/
def hk_c (n : Int) : List Int := if n = 1 then [1] else if n = 2 then [3, 8] else if n = 3 then [19, 57, 63] else [142, 149, 430, 559, 617, 624]
def kz_ (n i : Int) : Int := (((hk_c n).filter (fun q => decide (q < i))).length : Int)
def hx_ck (n : Int) (N : Nat) : Bool := (List.range N).all (fun i => decide (kz_ n ((i : Int) + 1) = kz_ n i + hf_ n (dg_n n i) 6 0) && decide (0 ≤ kz_ n i ∧ kz_ n i ≤ 6) && (decide (hf_ n (dg_n n i) 6 0 = 0) || (decide (kz_ n i < 6) && decide (lf_ n (dg_n n i) 6 0 0 = hx_l n (kz_ n i)) && (List.range n.toNat).all (fun p => decide (dg_n n i p = hx_d n (kz_ n i) p)))) && (List.range n.toNat).all (fun p => decide (nd_ n 6 (n - 1) (dg_n n i) p = dg_n n ((i : Int) + 1) p) && decide (0 ≤ dg_n n i p ∧ dg_n n i p ≤ n)))
theorem hx_k1 : hx_ck 1 2 = true := by decide +kernel
theorem hx_k2 : hx_ck 2 9 = true := by decide +kernel
theorem hx_k3 : hx_ck 3 64 = true := by decide +kernel
theorem hx_k4 : hx_ck 4 625 = true := by decide +kernel
theorem hx_kn {n i : Int} (h1 : 1 ≤ n) (h4 : n ≤ 4) (h0 : 0 ≤ i) (hi : i < hN n) : kz_ n (i + 1) = kz_ n i + hf_ n (dg_n n i) 6 0 ∧ 0 ≤ kz_ n i ∧ kz_ n i ≤ 6 ∧ (hf_ n (dg_n n i) 6 0 ≠ 0 → kz_ n i < 6 ∧ lf_ n (dg_n n i) 6 0 0 = hx_l n (kz_ n i) ∧ ∀ p, 0 ≤ p → p < n → dg_n n i p = hx_d n (kz_ n i) p) ∧ ∀ p, 0 ≤ p → p < n → nd_ n 6 (n - 1) (dg_n n i) p = dg_n n (i + 1) p ∧ 0 ≤ dg_n n i p ∧ dg_n n i p ≤ n := by
  have ei : ((i.toNat : Nat) : Int) = i := Int.toNat_of_nonneg h0
  have key : ∀ N : Nat, hx_ck n N = true → i < (N : Int) → _ := fun N hk hN => List.all_eq_true.mp hk i.toNat (List.mem_range.mpr (by omega))
  have hq : ∃ N : Nat, hx_ck n N = true ∧ i < (N : Int) := by
    have hn : n = 1 ∨ n = 2 ∨ n = 3 ∨ n = 4 := by omega
    rcases hn with hn | hn | hn | hn <;> subst hn
    · exact ⟨2, hx_k1, hi⟩
    · exact ⟨9, hx_k2, hi⟩
    · exact ⟨64, hx_k3, hi⟩
    · exact ⟨625, hx_k4, hi⟩
  obtain ⟨N, hk, hN⟩ := hq
  have h := key N hk hN
  simp only [ei, Bool.and_eq_true, Bool.or_eq_true, decide_eq_true_eq, List.all_eq_true, List.mem_range] at h
  obtain ⟨⟨⟨a1, a2⟩, a3⟩, a4⟩ := h
  refine ⟨a1, a2.1, a2.2, fun q => ?_, fun p p0 p1 => ?_⟩
  · rcases a3 with a3 | ⟨⟨a3, a5⟩, a6⟩
    · exact absurd a3 q
    · refine ⟨a3, a5, fun p p0 p1 => ?_⟩
      have := a6 p.toNat (by omega)
      rw [Int.toNat_of_nonneg p0] at this
      exact this
  · have := a4 p.toNat (by omega)
    rw [Int.toNat_of_nonneg p0] at this
    exact this
theorem kw_c {f g : Int → Int} {p q n : Int} (hq : q ≤ n) (h : ∀ i, 0 ≤ i → i < n → f i = g i) : ∀ (d : Nat) (r : Int), 0 ≤ r → kw_ f p q d r = kw_ g p q d r
  | 0, _, _ => rfl
  | d + 1, r, hr => by
    rw [kw_, kw_]
    by_cases e : r < q
    · rw [if_pos e, if_pos e, h r hr (by omega), kw_c hq h d (r + 1) (by omega)]
    · rw [if_neg e, if_neg e]
theorem hf_c {f g : Int → Int} {n : Int} (h : ∀ i, 0 ≤ i → i < n → f i = g i) (hg : ∀ i, 0 ≤ i → i < n → 0 ≤ g i ∧ g i ≤ n) : ∀ (d : Nat) (p : Int), 0 ≤ p → hf_ n f d p = hf_ n g d p
  | 0, _, _ => rfl
  | d + 1, p, hp => by
    rw [hf_, hf_]
    by_cases e : p < n
    · rw [if_pos e, if_pos e, h p hp e, hf_c h hg d (p + 1) (by omega)]
      by_cases e2 : g p < n
      · rw [h (g p) (hg p hp e).1 e2, kw_c (n := n) (hg p hp e).2 h 6 (p + 1) (by omega)]
      · rw [if_neg (fun q => e2 q.1), if_neg (fun q => e2 q.1), if_neg (fun q => e2 q.1), if_neg (fun q => e2 q.1)]
    · rw [if_neg e, if_neg e]
theorem lf_c {f g : Int → Int} {n : Int} (h : ∀ i, 0 ≤ i → i < n → f i = g i) : ∀ (d : Nat) (p x : Int), 0 ≤ p → lf_ n f d p x = lf_ n g d p x
  | 0, _, _, _ => rfl
  | d + 1, p, x, hp => by
    rw [lf_, lf_]
    by_cases e : p < n
    · rw [if_pos e, if_pos e, h p hp e, lf_c h d (p + 1) _ (by omega)]
    · rw [if_neg e, if_neg e]
/-- behind the codes before i -/
def hx_I (o n : Nat) (i : Int) (c : aq_C) : Prop := (∀ p, 0 ≤ p → p < (n : Int) → c (o + 16) p = dg_n (n : Int) i p) ∧ c o 6 = kz_ (n : Int) i ∧ ∀ h : Nat, h < 6 → ((h : Int) < kz_ (n : Int) i → c (o + 1) (h : Int) = hx_l (n : Int) (h : Int) ∧ ∀ p, 0 ≤ p → p < (n : Int) → c (o + 10 + h) p = hx_d (n : Int) (h : Int) p) ∧ (kz_ (n : Int) i ≤ (h : Int) → c (o + 1) (h : Int) = 0 ∧ ∀ p, c (o + 10 + h) p = 0)
theorem hx_hc {o n : Nat} {i : Int} {c : aq_C} (h1 : 1 ≤ n) (h4 : n ≤ 4) (h0 : 0 ≤ i) (hi : i < hN (n : Int)) (h : hx_I o n i c) (hd : ∀ q : Int, 0 ≤ q → q < hx_z (n : Int) → ∀ p, 0 ≤ p → p < (n : Int) → 0 ≤ hx_d (n : Int) q p ∧ hx_d (n : Int) q p ≤ (n : Int)) (hz : kz_ (n : Int) i ≤ hx_z (n : Int)) : hc_I o n c := by
  obtain ⟨a1, a2, a3, a4, a5⟩ := hx_kn (n := (n : Int)) (by omega) (by omega) h0 hi
  refine ⟨fun p p0 p1 => ?_, fun q hq p p0 p1 => ?_, by rw [h.2.1]; exact a2, by rw [h.2.1]; exact a3⟩
  · rw [h.1 p p0 p1]
    have := a5 p p0 p1
    omega
  · have b := h.2.2 q hq
    by_cases e : (q : Int) < kz_ (n : Int) i
    · rw [(b.1 e).2 p p0 p1]
      have := hd q (by omega) (by omega) p p0 p1
      omega
    · rw [(b.2 (by omega)).2 p]
      omega
theorem hx_s0 {o n : Nat} {i : Int} {c d : aq_C} (h1 : 1 ≤ n) (h4 : n ≤ 4) (h0 : 0 ≤ i) (hi : i < hN (n : Int)) (h : hx_I o n i c) (hf : hf_ (n : Int) (dg_n (n : Int) i) 6 0 = 0) (hs : aq_sm (fun a => a = o + 16) c d) (hd : ∀ p, 0 ≤ p → p < (n : Int) → d (o + 16) p = nd_ (n : Int) 6 ((n : Int) - 1) (dg_n (n : Int) i) p) : hx_I o n (i + 1) d := by
  obtain ⟨a1, a2, a3, a4, a5⟩ := hx_kn (n := (n : Int)) (by omega) (by omega) h0 hi
  rw [hf] at a1
  have ek : kz_ (n : Int) (i + 1) = kz_ (n : Int) i := by omega
  refine ⟨fun p p0 p1 => by rw [hd p p0 p1]; exact (a5 p p0 p1).1, by rw [ek, hs _ (by omega)]; exact h.2.1, fun q hq => ?_⟩
  rw [ek]
  have b := h.2.2 q hq
  simp only [hs (o + 1) (by omega), hs (o + 10 + q) (by omega)]
  exact b
theorem hx_s1 {o n : Nat} {i z : Int} {c k d : aq_C} (h1 : 1 ≤ n) (h4 : n ≤ 4) (h0 : 0 ≤ i) (hi : i < hN (n : Int)) (h : hx_I o n i c) (hf : hf_ (n : Int) (dg_n (n : Int) i) 6 0 ≠ 0) (hz : z = kz_ (n : Int) i) (sk : aq_sm (fun a => a = o ∨ a = o + 1 ∨ a = o + 10 + z.toNat) c k) (k1 : k o 6 = z + 1) (k2 : k (o + 1) z = lf_ (n : Int) (c (o + 16)) 6 0 0) (k3 : ∀ i, i ≠ z → k (o + 1) i = c (o + 1) i) (k4 : ∀ i, 0 ≤ i → i < (n : Int) → k (o + 10 + z.toNat) i = c (o + 16) i) (hs : aq_sm (fun a => a = o + 16) k d) (hd : ∀ p, 0 ≤ p → p < (n : Int) → d (o + 16) p = nd_ (n : Int) 6 ((n : Int) - 1) (dg_n (n : Int) i) p) : hx_I o n (i + 1) d := by
  obtain ⟨a1, a2, a3, a4, a5⟩ := hx_kn (n := (n : Int)) (by omega) (by omega) h0 hi
  obtain ⟨b1, b2, b3⟩ := a4 hf
  have hb := hf_b (n := (n : Int)) (f := dg_n (n : Int) i) 6 0
  have ek : kz_ (n : Int) (i + 1) = z + 1 := by omega
  refine ⟨fun p p0 p1 => by rw [hd p p0 p1]; exact (a5 p p0 p1).1, by rw [ek, hs _ (by omega)]; exact k1, fun q hq => ?_⟩
  rw [ek]
  have b := h.2.2 q hq
  by_cases e : (q : Int) = z
  · have eq : z.toNat = q := by omega
    refine ⟨fun _ => ⟨?_, fun p p0 p1 => ?_⟩, fun g => absurd g (by omega)⟩
    · rw [hs _ (by omega), e, k2, lf_c h.1 6 0 0 (by omega), hz]
      exact b2
    · rw [hs _ (by omega), ← eq, k4 p p0 p1, h.1 p p0 p1, b3 p p0 p1, eq, e, hz]
  · have c1 : k (o + 1) (q : Int) = c (o + 1) (q : Int) := k3 _ e
    have c2 : ∀ p, k (o + 10 + q) p = c (o + 10 + q) p := sk _ (by omega)
    refine ⟨fun g => ?_, fun g => ?_⟩
    · have := b.1 (by omega)
      rw [hs _ (by omega), c1]
      exact ⟨this.1, fun p p0 p1 => by rw [hs _ (by omega), c2]; exact this.2 p p0 p1⟩
    · have := b.2 (by omega)
      rw [hs _ (by omega), c1]
      exact ⟨this.1, fun p => by rw [hs _ (by omega), c2]; exact this.2 p⟩
theorem hx_b1 : ∀ n : Nat, 1 ≤ n → n ≤ 4 → ∀ q : Nat, q < 6 → (q : Int) < hx_z (n : Int) → ∀ p : Nat, p < n → 0 ≤ hx_d (n : Int) q p ∧ hx_d (n : Int) q p ≤ (n : Int) := by
  intro n h1 h4
  have hn : n = 1 ∨ n = 2 ∨ n = 3 ∨ n = 4 := by omega
  rcases hn with hn | hn | hn | hn <;> subst hn <;> decide
theorem hx_b {n : Nat} (h1 : 1 ≤ n) (h4 : n ≤ 4) : ∀ q : Int, 0 ≤ q → q < hx_z (n : Int) → ∀ p, 0 ≤ p → p < (n : Int) → 0 ≤ hx_d (n : Int) q p ∧ hx_d (n : Int) q p ≤ (n : Int) := by
  intro q q0 q1 p p0 p1
  have hz : hx_z (n : Int) ≤ 6 := by
    have hn : n = 1 ∨ n = 2 ∨ n = 3 ∨ n = 4 := by omega
    rcases hn with hn | hn | hn | hn <;> subst hn <;> decide
  have := hx_b1 n h1 h4 q.toNat (by omega) (by omega) p.toNat (by omega)
  rw [Int.toNat_of_nonneg q0, Int.toNat_of_nonneg p0] at this
  exact this
theorem kz_z {n : Nat} (h1 : 1 ≤ n) (h4 : n ≤ 4) (i : Int) : kz_ (n : Int) i ≤ hx_z (n : Int) := by
  unfold kz_
  have h := List.length_filter_le (fun q => decide (q < i)) (hk_c (n : Int))
  have hn : n = 1 ∨ n = 2 ∨ n = 3 ∨ n = 4 := by omega
  have e : hx_z (n : Int) = ((hk_c (n : Int)).length : Int) := by
    rcases hn with hn | hn | hn | hn <;> subst hn <;> rfl
  rw [e]
  omega

theorem qx_init_l {m s : Nat} {F : aq_F} {c0 : aq_C} {o n : Nat} (hH : hc_0 m F o n) {D : Int} (hD : D = hN (n : Int)) (hD6 : D ≤ 625) : ∀ (d : Nat) (i : Int) (c : aq_C) (hs : aq_sm (fun a => o ≤ a ∧ a < o + 18) c0 c) (h0 : 0 ≤ i) (h1 : i ≤ D) (hx : hx_I o n i c) (hd : D - i < (d : Int)), am_E ac_X2_init (77, [vR o, vI (n : Int), vI D, vI i], [], aq_h m s F c) (aq_Z m s F (fun a => o ≤ a ∧ a < o + 18) c0 (fun r d => r = none ∧ hx_I o n D d))
  | 0, i, c, hs, h0, h1, hx, hd => by exfalso; omega
  | d + 1, i, c, hs, h0, h1, hx, hd => by
    obtain ⟨hm, hn1, hn4, hFo, hFl, hFg, hFt, hFp, hFq, hFd, hFs⟩ := hH
    refine am_E.go (t2 := (78, [vR o, vI (n : Int), vI D, vI i], [vI i], aq_h m s F c)) rfl rfl ?_
    refine am_E.go (t2 := (79, [vR o, vI (n : Int), vI D, vI i], [vI D, vI i], aq_h m s F c)) rfl rfl ?_
    refine ae_icmp rfl (fun (q_1 : D ≤ i) => ?_) (fun (q_1 : i < D) => ?_)
    · refine am_E.ret rfl rfl ?_
      exact ⟨_, rfl, hs, rfl, by rw [show D = i by omega]; exact hx⟩
    · have hkn := hx_kn (n := (n : Int)) (i := i) (by omega) (by omega) h0 (by omega)
      have hb2 := hkn.2.2.2.1
      refine am_E.go (t2 := (83, [vR o, vI (n : Int), vI D, vI i], [vR o], aq_h m s F c)) rfl rfl ?_
      refine am_E.go (t2 := (84, [vR o, vI (n : Int), vI D, vI i], [vR o, vR o], aq_h m s F c)) rfl rfl ?_
      refine aq_gf (v := vR (o + 16)) rfl (by omega) hFo (by decide) rfl ?_
      show am_E _ (87, [vR o, vI (n : Int), vI D, vI i], [vR (o + 16), vR o], aq_h m s F c) _
      refine aq_callv (y := 2) (as2 := [vR (o + 16)]) (rest := []) rfl rfl (by decide) (Nat.le_of_ble_eq_true rfl) rfl rfl (Nat.le_of_ble_eq_true rfl) (by omega) hFo rfl (Nat.le_of_ble_eq_true rfl) (qx_isHalf ⟨hm, hn1, hn4, hFo, hFl, hFg, hFt, hFp, hFq, hFd, hFs⟩ (hx_hc hn1 hn4 h0 (by omega) hx (hx_b hn1 hn4) (kz_z hn1 hn4 i))) ?_
      rintro r5 h5 ⟨rfl, rfl⟩
      show am_E _ (90, [vR o, vI (n : Int), vI D, vI i], [vI (hf_ (n : Int) (c (o + 16)) 6 0)], aq_h m s F c) _
      have ehf := hf_c (n := (n : Int)) hx.1 (fun q q0 q1 => (hkn.2.2.2.2 q q0 q1).2) 6 0 (by omega)
      rw [ehf]
      refine ae_if0 rfl (fun (q_2 : (hf_ (n : Int) (dg_n (n : Int) i) 6 0) = 0) => ?_) (fun (q_2 : (hf_ (n : Int) (dg_n (n : Int) i) 6 0) ≠ 0) => ?_)
      · refine am_E.go (t2 := (107, [vR o, vI (n : Int), vI D, vI i], [vR o], aq_h m s F c)) rfl rfl ?_
        refine aq_callv (y := 1) (as2 := []) (rest := []) rfl rfl (by decide) (Nat.le_of_ble_eq_true rfl) rfl rfl (Nat.le_of_ble_eq_true rfl) (by omega) hFo rfl (Nat.le_of_ble_eq_true rfl) (qx_nextDraft ⟨hm, hn1, hn4, hFo, hFl, hFg, hFt, hFp, hFq, hFd, hFs⟩ (v := dg_n (n : Int) i) hx.1 (fun q q0 q1 => by have := (hkn.2.2.2.2 q q0 q1).2; omega)) ?_
        rintro r5 h5 ⟨cn, rfl, sn, rfl, nx⟩
        show am_E _ (110, [vR o, vI (n : Int), vI D, vI i], [], aq_h m s F cn) _
        refine ae_iinc rfl rfl (am_ri (by omega) (by omega)) ?_
        show am_E _ (113, [vR o, vI (n : Int), vI D, vI (i + 1)], [], aq_h m s F cn) _
        refine am_E.go (t2 := (77, [vR o, vI (n : Int), vI D, vI (i + 1)], [], aq_h m s F cn)) rfl rfl ?_
        exact qx_init_l ⟨hm, hn1, hn4, hFo, hFl, hFg, hFt, hFp, hFq, hFd, hFs⟩ hD hD6 d (i + 1) cn (aq_smt hs (aq_smi sn (fun a h => by omega))) (by omega) (by omega) (hx_s0 hn1 hn4 h0 (by omega) hx (by omega) sn nx) (by omega)
      · refine am_E.go (t2 := (94, [vR o, vI (n : Int), vI D, vI i], [vR o], aq_h m s F c)) rfl rfl ?_
        refine aq_gf (v := vI (c o 6)) rfl (by omega) hFo (by decide) rfl ?_
        show am_E _ (97, [vR o, vI (n : Int), vI D, vI i], [vI (c o 6)], aq_h m s F c) _
        have f_3 := hx.2.1
        refine am_E.go (t2 := (99, [vR o, vI (n : Int), vI D, vI i], [vI 6, vI (c o 6)], aq_h m s F c)) rfl rfl ?_
        refine ae_icmp rfl (fun (q_4 : 6 ≤ (c o 6)) => ?_) (fun (q_4 : (c o 6) < 6) => ?_)
        · refine am_E.go (t2 := (107, [vR o, vI (n : Int), vI D, vI i], [vR o], aq_h m s F c)) rfl rfl ?_
          refine aq_callv (y := 1) (as2 := []) (rest := []) rfl rfl (by decide) (Nat.le_of_ble_eq_true rfl) rfl rfl (Nat.le_of_ble_eq_true rfl) (by omega) hFo rfl (Nat.le_of_ble_eq_true rfl) (qx_nextDraft ⟨hm, hn1, hn4, hFo, hFl, hFg, hFt, hFp, hFq, hFd, hFs⟩ (v := dg_n (n : Int) i) hx.1 (fun q q0 q1 => by have := (hkn.2.2.2.2 q q0 q1).2; omega)) ?_
          rintro r5 h5 ⟨cn, rfl, sn, rfl, nx⟩
          show am_E _ (110, [vR o, vI (n : Int), vI D, vI i], [], aq_h m s F cn) _
          refine ae_iinc rfl rfl (am_ri (by omega) (by omega)) ?_
          show am_E _ (113, [vR o, vI (n : Int), vI D, vI (i + 1)], [], aq_h m s F cn) _
          refine am_E.go (t2 := (77, [vR o, vI (n : Int), vI D, vI (i + 1)], [], aq_h m s F cn)) rfl rfl ?_
          exact qx_init_l ⟨hm, hn1, hn4, hFo, hFl, hFg, hFt, hFp, hFq, hFd, hFs⟩ hD hD6 d (i + 1) cn (aq_smt hs (aq_smi sn (fun a h => by omega))) (by omega) (by omega) (hx_s0 hn1 hn4 h0 (by omega) hx (by omega) sn nx) (by omega)
        · refine am_E.go (t2 := (103, [vR o, vI (n : Int), vI D, vI i], [vR o], aq_h m s F c)) rfl rfl ?_
          refine aq_callv (y := 1) (as2 := []) (rest := []) rfl rfl (by decide) (Nat.le_of_ble_eq_true rfl) rfl rfl (Nat.le_of_ble_eq_true rfl) (by omega) hFo rfl (Nat.le_of_ble_eq_true rfl) (qx_keepDraft (z := kz_ (n : Int) i) ⟨hm, hn1, hn4, hFo, hFl, hFg, hFt, hFp, hFq, hFd, hFs⟩ hkn.2.1 (by omega) hx.2.1 (by have hb6 := (hx.2.2 (kz_ (n : Int) i).toNat (by omega)).2 (by omega); rw [Int.toNat_of_nonneg hkn.2.1] at hb6; exact hb6.1)) ?_
          rintro r5 h5 ⟨ck, rfl, sk, rfl, k1, k2, k3, k4⟩
          show am_E _ (106, [vR o, vI (n : Int), vI D, vI i], [], aq_h m s F ck) _
          refine am_E.go (t2 := (107, [vR o, vI (n : Int), vI D, vI i], [vR o], aq_h m s F ck)) rfl rfl ?_
          refine aq_callv (y := 1) (as2 := []) (rest := []) rfl rfl (by decide) (Nat.le_of_ble_eq_true rfl) rfl rfl (Nat.le_of_ble_eq_true rfl) (by omega) hFo rfl (Nat.le_of_ble_eq_true rfl) (qx_nextDraft ⟨hm, hn1, hn4, hFo, hFl, hFg, hFt, hFp, hFq, hFd, hFs⟩ (v := dg_n (n : Int) i) (fun q q0 q1 => by rw [sk _ (by have := hkn.2.1; omega)]; exact hx.1 q q0 q1) (fun q q0 q1 => by have := (hkn.2.2.2.2 q q0 q1).2; omega)) ?_
          rintro r5 h5 ⟨cn, rfl, sn, rfl, nx⟩
          show am_E _ (110, [vR o, vI (n : Int), vI D, vI i], [], aq_h m s F cn) _
          refine ae_iinc rfl rfl (am_ri (by omega) (by omega)) ?_
          show am_E _ (113, [vR o, vI (n : Int), vI D, vI (i + 1)], [], aq_h m s F cn) _
          refine am_E.go (t2 := (77, [vR o, vI (n : Int), vI D, vI (i + 1)], [], aq_h m s F cn)) rfl rfl ?_
          exact qx_init_l ⟨hm, hn1, hn4, hFo, hFl, hFg, hFt, hFp, hFq, hFd, hFs⟩ hD hD6 d (i + 1) cn (aq_smt (aq_smt hs (aq_smi sk (fun a h => by have := hkn.2.1; omega))) (aq_smi sn (fun a h => by omega))) (by omega) (by omega) (hx_s1 hn1 hn4 h0 (by omega) hx (by omega) rfl sk k1 k2 k3 k4 sn nx) (by omega)

theorem qc_pw1 {m s : Nat} {F : aq_F} {c : aq_C} {o : Nat} {Z : Option am_V → am_H → Prop} (k : am_E ac_X2_init (77, [vR o, vI 1, vI 2, vI 0], [], aq_h m s F c) Z) : am_E ac_X2_init (54, [vR o, vI 1, vU, vU], [], aq_h m s F c) Z := by
  refine am_E.go (t2 := (55, [vR o, vI 1, vU, vU], [vI 1], aq_h m s F c)) rfl rfl ?_
  refine am_E.go (t2 := (56, [vR o, vI 1, vI 1, vU], [], aq_h m s F c)) rfl rfl ?_
  refine am_E.go (t2 := (57, [vR o, vI 1, vI 1, vU], [vI 0], aq_h m s F c)) rfl rfl ?_
  refine am_E.go (t2 := (58, [vR o, vI 1, vI 1, vI 0], [], aq_h m s F c)) rfl rfl ?_
  refine am_E.go (t2 := (59, [vR o, vI 1, vI 1, vI 0], [vI 0], aq_h m s F c)) rfl rfl ?_
  refine am_E.go (t2 := (60, [vR o, vI 1, vI 1, vI 0], [vI 1, vI 0], aq_h m s F c)) rfl rfl ?_
  refine am_E.go (t2 := (63, [vR o, vI 1, vI 1, vI 0], [], aq_h m s F c)) rfl rfl ?_
  refine am_E.go (t2 := (64, [vR o, vI 1, vI 1, vI 0], [vI 1], aq_h m s F c)) rfl rfl ?_
  refine am_E.go (t2 := (65, [vR o, vI 1, vI 1, vI 0], [vI 1, vI 1], aq_h m s F c)) rfl rfl ?_
  refine am_E.go (t2 := (66, [vR o, vI 1, vI 1, vI 0], [vI 1, vI 1, vI 1], aq_h m s F c)) rfl rfl ?_
  refine am_E.go (t2 := (67, [vR o, vI 1, vI 1, vI 0], [vI 2, vI 1], aq_h m s F c)) rfl rfl ?_
  refine am_E.go (t2 := (68, [vR o, vI 1, vI 1, vI 0], [vI 2], aq_h m s F c)) rfl rfl ?_
  refine am_E.go (t2 := (69, [vR o, vI 1, vI 2, vI 0], [], aq_h m s F c)) rfl rfl ?_
  refine am_E.go (t2 := (72, [vR o, vI 1, vI 2, vI 1], [], aq_h m s F c)) rfl rfl ?_
  refine am_E.go (t2 := (58, [vR o, vI 1, vI 2, vI 1], [], aq_h m s F c)) rfl rfl ?_
  refine am_E.go (t2 := (59, [vR o, vI 1, vI 2, vI 1], [vI 1], aq_h m s F c)) rfl rfl ?_
  refine am_E.go (t2 := (60, [vR o, vI 1, vI 2, vI 1], [vI 1, vI 1], aq_h m s F c)) rfl rfl ?_
  refine am_E.go (t2 := (75, [vR o, vI 1, vI 2, vI 1], [], aq_h m s F c)) rfl rfl ?_
  refine am_E.go (t2 := (76, [vR o, vI 1, vI 2, vI 1], [vI 0], aq_h m s F c)) rfl rfl ?_
  refine am_E.go (t2 := (77, [vR o, vI 1, vI 2, vI 0], [], aq_h m s F c)) rfl rfl ?_
  exact k

theorem qc_pw2 {m s : Nat} {F : aq_F} {c : aq_C} {o : Nat} {Z : Option am_V → am_H → Prop} (k : am_E ac_X2_init (77, [vR o, vI 2, vI 9, vI 0], [], aq_h m s F c) Z) : am_E ac_X2_init (54, [vR o, vI 2, vU, vU], [], aq_h m s F c) Z := by
  refine am_E.go (t2 := (55, [vR o, vI 2, vU, vU], [vI 1], aq_h m s F c)) rfl rfl ?_
  refine am_E.go (t2 := (56, [vR o, vI 2, vI 1, vU], [], aq_h m s F c)) rfl rfl ?_
  refine am_E.go (t2 := (57, [vR o, vI 2, vI 1, vU], [vI 0], aq_h m s F c)) rfl rfl ?_
  refine am_E.go (t2 := (58, [vR o, vI 2, vI 1, vI 0], [], aq_h m s F c)) rfl rfl ?_
  refine am_E.go (t2 := (59, [vR o, vI 2, vI 1, vI 0], [vI 0], aq_h m s F c)) rfl rfl ?_
  refine am_E.go (t2 := (60, [vR o, vI 2, vI 1, vI 0], [vI 2, vI 0], aq_h m s F c)) rfl rfl ?_
  refine am_E.go (t2 := (63, [vR o, vI 2, vI 1, vI 0], [], aq_h m s F c)) rfl rfl ?_
  refine am_E.go (t2 := (64, [vR o, vI 2, vI 1, vI 0], [vI 1], aq_h m s F c)) rfl rfl ?_
  refine am_E.go (t2 := (65, [vR o, vI 2, vI 1, vI 0], [vI 2, vI 1], aq_h m s F c)) rfl rfl ?_
  refine am_E.go (t2 := (66, [vR o, vI 2, vI 1, vI 0], [vI 1, vI 2, vI 1], aq_h m s F c)) rfl rfl ?_
  refine am_E.go (t2 := (67, [vR o, vI 2, vI 1, vI 0], [vI 3, vI 1], aq_h m s F c)) rfl rfl ?_
  refine am_E.go (t2 := (68, [vR o, vI 2, vI 1, vI 0], [vI 3], aq_h m s F c)) rfl rfl ?_
  refine am_E.go (t2 := (69, [vR o, vI 2, vI 3, vI 0], [], aq_h m s F c)) rfl rfl ?_
  refine am_E.go (t2 := (72, [vR o, vI 2, vI 3, vI 1], [], aq_h m s F c)) rfl rfl ?_
  refine am_E.go (t2 := (58, [vR o, vI 2, vI 3, vI 1], [], aq_h m s F c)) rfl rfl ?_
  refine am_E.go (t2 := (59, [vR o, vI 2, vI 3, vI 1], [vI 1], aq_h m s F c)) rfl rfl ?_
  refine am_E.go (t2 := (60, [vR o, vI 2, vI 3, vI 1], [vI 2, vI 1], aq_h m s F c)) rfl rfl ?_
  refine am_E.go (t2 := (63, [vR o, vI 2, vI 3, vI 1], [], aq_h m s F c)) rfl rfl ?_
  refine am_E.go (t2 := (64, [vR o, vI 2, vI 3, vI 1], [vI 3], aq_h m s F c)) rfl rfl ?_
  refine am_E.go (t2 := (65, [vR o, vI 2, vI 3, vI 1], [vI 2, vI 3], aq_h m s F c)) rfl rfl ?_
  refine am_E.go (t2 := (66, [vR o, vI 2, vI 3, vI 1], [vI 1, vI 2, vI 3], aq_h m s F c)) rfl rfl ?_
  refine am_E.go (t2 := (67, [vR o, vI 2, vI 3, vI 1], [vI 3, vI 3], aq_h m s F c)) rfl rfl ?_
  refine am_E.go (t2 := (68, [vR o, vI 2, vI 3, vI 1], [vI 9], aq_h m s F c)) rfl rfl ?_
  refine am_E.go (t2 := (69, [vR o, vI 2, vI 9, vI 1], [], aq_h m s F c)) rfl rfl ?_
  refine am_E.go (t2 := (72, [vR o, vI 2, vI 9, vI 2], [], aq_h m s F c)) rfl rfl ?_
  refine am_E.go (t2 := (58, [vR o, vI 2, vI 9, vI 2], [], aq_h m s F c)) rfl rfl ?_
  refine am_E.go (t2 := (59, [vR o, vI 2, vI 9, vI 2], [vI 2], aq_h m s F c)) rfl rfl ?_
  refine am_E.go (t2 := (60, [vR o, vI 2, vI 9, vI 2], [vI 2, vI 2], aq_h m s F c)) rfl rfl ?_
  refine am_E.go (t2 := (75, [vR o, vI 2, vI 9, vI 2], [], aq_h m s F c)) rfl rfl ?_
  refine am_E.go (t2 := (76, [vR o, vI 2, vI 9, vI 2], [vI 0], aq_h m s F c)) rfl rfl ?_
  refine am_E.go (t2 := (77, [vR o, vI 2, vI 9, vI 0], [], aq_h m s F c)) rfl rfl ?_
  exact k

theorem qc_pw3 {m s : Nat} {F : aq_F} {c : aq_C} {o : Nat} {Z : Option am_V → am_H → Prop} (k : am_E ac_X2_init (77, [vR o, vI 3, vI 64, vI 0], [], aq_h m s F c) Z) : am_E ac_X2_init (54, [vR o, vI 3, vU, vU], [], aq_h m s F c) Z := by
  refine am_E.go (t2 := (55, [vR o, vI 3, vU, vU], [vI 1], aq_h m s F c)) rfl rfl ?_
  refine am_E.go (t2 := (56, [vR o, vI 3, vI 1, vU], [], aq_h m s F c)) rfl rfl ?_
  refine am_E.go (t2 := (57, [vR o, vI 3, vI 1, vU], [vI 0], aq_h m s F c)) rfl rfl ?_
  refine am_E.go (t2 := (58, [vR o, vI 3, vI 1, vI 0], [], aq_h m s F c)) rfl rfl ?_
  refine am_E.go (t2 := (59, [vR o, vI 3, vI 1, vI 0], [vI 0], aq_h m s F c)) rfl rfl ?_
  refine am_E.go (t2 := (60, [vR o, vI 3, vI 1, vI 0], [vI 3, vI 0], aq_h m s F c)) rfl rfl ?_
  refine am_E.go (t2 := (63, [vR o, vI 3, vI 1, vI 0], [], aq_h m s F c)) rfl rfl ?_
  refine am_E.go (t2 := (64, [vR o, vI 3, vI 1, vI 0], [vI 1], aq_h m s F c)) rfl rfl ?_
  refine am_E.go (t2 := (65, [vR o, vI 3, vI 1, vI 0], [vI 3, vI 1], aq_h m s F c)) rfl rfl ?_
  refine am_E.go (t2 := (66, [vR o, vI 3, vI 1, vI 0], [vI 1, vI 3, vI 1], aq_h m s F c)) rfl rfl ?_
  refine am_E.go (t2 := (67, [vR o, vI 3, vI 1, vI 0], [vI 4, vI 1], aq_h m s F c)) rfl rfl ?_
  refine am_E.go (t2 := (68, [vR o, vI 3, vI 1, vI 0], [vI 4], aq_h m s F c)) rfl rfl ?_
  refine am_E.go (t2 := (69, [vR o, vI 3, vI 4, vI 0], [], aq_h m s F c)) rfl rfl ?_
  refine am_E.go (t2 := (72, [vR o, vI 3, vI 4, vI 1], [], aq_h m s F c)) rfl rfl ?_
  refine am_E.go (t2 := (58, [vR o, vI 3, vI 4, vI 1], [], aq_h m s F c)) rfl rfl ?_
  refine am_E.go (t2 := (59, [vR o, vI 3, vI 4, vI 1], [vI 1], aq_h m s F c)) rfl rfl ?_
  refine am_E.go (t2 := (60, [vR o, vI 3, vI 4, vI 1], [vI 3, vI 1], aq_h m s F c)) rfl rfl ?_
  refine am_E.go (t2 := (63, [vR o, vI 3, vI 4, vI 1], [], aq_h m s F c)) rfl rfl ?_
  refine am_E.go (t2 := (64, [vR o, vI 3, vI 4, vI 1], [vI 4], aq_h m s F c)) rfl rfl ?_
  refine am_E.go (t2 := (65, [vR o, vI 3, vI 4, vI 1], [vI 3, vI 4], aq_h m s F c)) rfl rfl ?_
  refine am_E.go (t2 := (66, [vR o, vI 3, vI 4, vI 1], [vI 1, vI 3, vI 4], aq_h m s F c)) rfl rfl ?_
  refine am_E.go (t2 := (67, [vR o, vI 3, vI 4, vI 1], [vI 4, vI 4], aq_h m s F c)) rfl rfl ?_
  refine am_E.go (t2 := (68, [vR o, vI 3, vI 4, vI 1], [vI 16], aq_h m s F c)) rfl rfl ?_
  refine am_E.go (t2 := (69, [vR o, vI 3, vI 16, vI 1], [], aq_h m s F c)) rfl rfl ?_
  refine am_E.go (t2 := (72, [vR o, vI 3, vI 16, vI 2], [], aq_h m s F c)) rfl rfl ?_
  refine am_E.go (t2 := (58, [vR o, vI 3, vI 16, vI 2], [], aq_h m s F c)) rfl rfl ?_
  refine am_E.go (t2 := (59, [vR o, vI 3, vI 16, vI 2], [vI 2], aq_h m s F c)) rfl rfl ?_
  refine am_E.go (t2 := (60, [vR o, vI 3, vI 16, vI 2], [vI 3, vI 2], aq_h m s F c)) rfl rfl ?_
  refine am_E.go (t2 := (63, [vR o, vI 3, vI 16, vI 2], [], aq_h m s F c)) rfl rfl ?_
  refine am_E.go (t2 := (64, [vR o, vI 3, vI 16, vI 2], [vI 16], aq_h m s F c)) rfl rfl ?_
  refine am_E.go (t2 := (65, [vR o, vI 3, vI 16, vI 2], [vI 3, vI 16], aq_h m s F c)) rfl rfl ?_
  refine am_E.go (t2 := (66, [vR o, vI 3, vI 16, vI 2], [vI 1, vI 3, vI 16], aq_h m s F c)) rfl rfl ?_
  refine am_E.go (t2 := (67, [vR o, vI 3, vI 16, vI 2], [vI 4, vI 16], aq_h m s F c)) rfl rfl ?_
  refine am_E.go (t2 := (68, [vR o, vI 3, vI 16, vI 2], [vI 64], aq_h m s F c)) rfl rfl ?_
  refine am_E.go (t2 := (69, [vR o, vI 3, vI 64, vI 2], [], aq_h m s F c)) rfl rfl ?_
  refine am_E.go (t2 := (72, [vR o, vI 3, vI 64, vI 3], [], aq_h m s F c)) rfl rfl ?_
  refine am_E.go (t2 := (58, [vR o, vI 3, vI 64, vI 3], [], aq_h m s F c)) rfl rfl ?_
  refine am_E.go (t2 := (59, [vR o, vI 3, vI 64, vI 3], [vI 3], aq_h m s F c)) rfl rfl ?_
  refine am_E.go (t2 := (60, [vR o, vI 3, vI 64, vI 3], [vI 3, vI 3], aq_h m s F c)) rfl rfl ?_
  refine am_E.go (t2 := (75, [vR o, vI 3, vI 64, vI 3], [], aq_h m s F c)) rfl rfl ?_
  refine am_E.go (t2 := (76, [vR o, vI 3, vI 64, vI 3], [vI 0], aq_h m s F c)) rfl rfl ?_
  refine am_E.go (t2 := (77, [vR o, vI 3, vI 64, vI 0], [], aq_h m s F c)) rfl rfl ?_
  exact k

theorem qc_pw4 {m s : Nat} {F : aq_F} {c : aq_C} {o : Nat} {Z : Option am_V → am_H → Prop} (k : am_E ac_X2_init (77, [vR o, vI 4, vI 625, vI 0], [], aq_h m s F c) Z) : am_E ac_X2_init (54, [vR o, vI 4, vU, vU], [], aq_h m s F c) Z := by
  refine am_E.go (t2 := (55, [vR o, vI 4, vU, vU], [vI 1], aq_h m s F c)) rfl rfl ?_
  refine am_E.go (t2 := (56, [vR o, vI 4, vI 1, vU], [], aq_h m s F c)) rfl rfl ?_
  refine am_E.go (t2 := (57, [vR o, vI 4, vI 1, vU], [vI 0], aq_h m s F c)) rfl rfl ?_
  refine am_E.go (t2 := (58, [vR o, vI 4, vI 1, vI 0], [], aq_h m s F c)) rfl rfl ?_
  refine am_E.go (t2 := (59, [vR o, vI 4, vI 1, vI 0], [vI 0], aq_h m s F c)) rfl rfl ?_
  refine am_E.go (t2 := (60, [vR o, vI 4, vI 1, vI 0], [vI 4, vI 0], aq_h m s F c)) rfl rfl ?_
  refine am_E.go (t2 := (63, [vR o, vI 4, vI 1, vI 0], [], aq_h m s F c)) rfl rfl ?_
  refine am_E.go (t2 := (64, [vR o, vI 4, vI 1, vI 0], [vI 1], aq_h m s F c)) rfl rfl ?_
  refine am_E.go (t2 := (65, [vR o, vI 4, vI 1, vI 0], [vI 4, vI 1], aq_h m s F c)) rfl rfl ?_
  refine am_E.go (t2 := (66, [vR o, vI 4, vI 1, vI 0], [vI 1, vI 4, vI 1], aq_h m s F c)) rfl rfl ?_
  refine am_E.go (t2 := (67, [vR o, vI 4, vI 1, vI 0], [vI 5, vI 1], aq_h m s F c)) rfl rfl ?_
  refine am_E.go (t2 := (68, [vR o, vI 4, vI 1, vI 0], [vI 5], aq_h m s F c)) rfl rfl ?_
  refine am_E.go (t2 := (69, [vR o, vI 4, vI 5, vI 0], [], aq_h m s F c)) rfl rfl ?_
  refine am_E.go (t2 := (72, [vR o, vI 4, vI 5, vI 1], [], aq_h m s F c)) rfl rfl ?_
  refine am_E.go (t2 := (58, [vR o, vI 4, vI 5, vI 1], [], aq_h m s F c)) rfl rfl ?_
  refine am_E.go (t2 := (59, [vR o, vI 4, vI 5, vI 1], [vI 1], aq_h m s F c)) rfl rfl ?_
  refine am_E.go (t2 := (60, [vR o, vI 4, vI 5, vI 1], [vI 4, vI 1], aq_h m s F c)) rfl rfl ?_
  refine am_E.go (t2 := (63, [vR o, vI 4, vI 5, vI 1], [], aq_h m s F c)) rfl rfl ?_
  refine am_E.go (t2 := (64, [vR o, vI 4, vI 5, vI 1], [vI 5], aq_h m s F c)) rfl rfl ?_
  refine am_E.go (t2 := (65, [vR o, vI 4, vI 5, vI 1], [vI 4, vI 5], aq_h m s F c)) rfl rfl ?_
  refine am_E.go (t2 := (66, [vR o, vI 4, vI 5, vI 1], [vI 1, vI 4, vI 5], aq_h m s F c)) rfl rfl ?_
  refine am_E.go (t2 := (67, [vR o, vI 4, vI 5, vI 1], [vI 5, vI 5], aq_h m s F c)) rfl rfl ?_
  refine am_E.go (t2 := (68, [vR o, vI 4, vI 5, vI 1], [vI 25], aq_h m s F c)) rfl rfl ?_
  refine am_E.go (t2 := (69, [vR o, vI 4, vI 25, vI 1], [], aq_h m s F c)) rfl rfl ?_
  refine am_E.go (t2 := (72, [vR o, vI 4, vI 25, vI 2], [], aq_h m s F c)) rfl rfl ?_
  refine am_E.go (t2 := (58, [vR o, vI 4, vI 25, vI 2], [], aq_h m s F c)) rfl rfl ?_
  refine am_E.go (t2 := (59, [vR o, vI 4, vI 25, vI 2], [vI 2], aq_h m s F c)) rfl rfl ?_
  refine am_E.go (t2 := (60, [vR o, vI 4, vI 25, vI 2], [vI 4, vI 2], aq_h m s F c)) rfl rfl ?_
  refine am_E.go (t2 := (63, [vR o, vI 4, vI 25, vI 2], [], aq_h m s F c)) rfl rfl ?_
  refine am_E.go (t2 := (64, [vR o, vI 4, vI 25, vI 2], [vI 25], aq_h m s F c)) rfl rfl ?_
  refine am_E.go (t2 := (65, [vR o, vI 4, vI 25, vI 2], [vI 4, vI 25], aq_h m s F c)) rfl rfl ?_
  refine am_E.go (t2 := (66, [vR o, vI 4, vI 25, vI 2], [vI 1, vI 4, vI 25], aq_h m s F c)) rfl rfl ?_
  refine am_E.go (t2 := (67, [vR o, vI 4, vI 25, vI 2], [vI 5, vI 25], aq_h m s F c)) rfl rfl ?_
  refine am_E.go (t2 := (68, [vR o, vI 4, vI 25, vI 2], [vI 125], aq_h m s F c)) rfl rfl ?_
  refine am_E.go (t2 := (69, [vR o, vI 4, vI 125, vI 2], [], aq_h m s F c)) rfl rfl ?_
  refine am_E.go (t2 := (72, [vR o, vI 4, vI 125, vI 3], [], aq_h m s F c)) rfl rfl ?_
  refine am_E.go (t2 := (58, [vR o, vI 4, vI 125, vI 3], [], aq_h m s F c)) rfl rfl ?_
  refine am_E.go (t2 := (59, [vR o, vI 4, vI 125, vI 3], [vI 3], aq_h m s F c)) rfl rfl ?_
  refine am_E.go (t2 := (60, [vR o, vI 4, vI 125, vI 3], [vI 4, vI 3], aq_h m s F c)) rfl rfl ?_
  refine am_E.go (t2 := (63, [vR o, vI 4, vI 125, vI 3], [], aq_h m s F c)) rfl rfl ?_
  refine am_E.go (t2 := (64, [vR o, vI 4, vI 125, vI 3], [vI 125], aq_h m s F c)) rfl rfl ?_
  refine am_E.go (t2 := (65, [vR o, vI 4, vI 125, vI 3], [vI 4, vI 125], aq_h m s F c)) rfl rfl ?_
  refine am_E.go (t2 := (66, [vR o, vI 4, vI 125, vI 3], [vI 1, vI 4, vI 125], aq_h m s F c)) rfl rfl ?_
  refine am_E.go (t2 := (67, [vR o, vI 4, vI 125, vI 3], [vI 5, vI 125], aq_h m s F c)) rfl rfl ?_
  refine am_E.go (t2 := (68, [vR o, vI 4, vI 125, vI 3], [vI 625], aq_h m s F c)) rfl rfl ?_
  refine am_E.go (t2 := (69, [vR o, vI 4, vI 625, vI 3], [], aq_h m s F c)) rfl rfl ?_
  refine am_E.go (t2 := (72, [vR o, vI 4, vI 625, vI 4], [], aq_h m s F c)) rfl rfl ?_
  refine am_E.go (t2 := (58, [vR o, vI 4, vI 625, vI 4], [], aq_h m s F c)) rfl rfl ?_
  refine am_E.go (t2 := (59, [vR o, vI 4, vI 625, vI 4], [vI 4], aq_h m s F c)) rfl rfl ?_
  refine am_E.go (t2 := (60, [vR o, vI 4, vI 625, vI 4], [vI 4, vI 4], aq_h m s F c)) rfl rfl ?_
  refine am_E.go (t2 := (75, [vR o, vI 4, vI 625, vI 4], [], aq_h m s F c)) rfl rfl ?_
  refine am_E.go (t2 := (76, [vR o, vI 4, vI 625, vI 4], [vI 0], aq_h m s F c)) rfl rfl ?_
  refine am_E.go (t2 := (77, [vR o, vI 4, vI 625, vI 0], [], aq_h m s F c)) rfl rfl ?_
  exact k

theorem qc_pw {m s : Nat} {F : aq_F} {c : aq_C} {o n : Nat} {Z : Option am_V → am_H → Prop} (h1 : 1 ≤ n) (h4 : n ≤ 4) (k : ∀ D : Int, D = hN (n : Int) → D ≤ 625 → am_E ac_X2_init (77, [vR o, vI (n : Int), vI D, vI 0], [], aq_h m s F c) Z) : am_E ac_X2_init (54, [vR o, vI (n : Int), vU, vU], [], aq_h m s F c) Z := by
  have hn : n = 1 ∨ n = 2 ∨ n = 3 ∨ n = 4 := by omega
  rcases hn with hn | hn | hn | hn <;> subst hn
  · exact qc_pw1 (k 2 rfl (by omega))
  · exact qc_pw2 (k 9 rfl (by omega))
  · exact qc_pw3 (k 64 rfl (by omega))
  · exact qc_pw4 (k 625 rfl (by omega))

def hc_t0 : Nat → aq_T := fun j => aq_ot (ac_ft 2 j)
/-- strands is set -/
def hc_t1 (o n : Nat) : Nat → aq_T := fun y => match y with
  | 0 => .inr (vI (n : Int))
  | 2 => .inr (vR (o + 1))
  | 3 => .inr (vR (o + 2))
  | y => hc_t0 y

def hv_Z (o n sT : Nat) (F : aq_F) (c : aq_C) : Option am_V → am_H → Prop := fun r h2 => ∃ (s2 : Nat) (F2 : aq_F) (c2 : aq_C), r = none ∧ h2 = aq_h (o + 18) s2 F2 c2 ∧ s2 ≤ sT ∧ sb_H (o + 18) F2 o n ∧ (∀ b, b < o → F2 b = F b) ∧ ∀ b, b < o → ∀ j, c2 b j = c b j
theorem qc_init {s : Nat} {F : aq_F} {c : aq_C} {o n : Nat} (h1 : 1 ≤ n) (h4 : n ≤ 4) (hF : F o = (12, 7, hc_t0)) (hc : ∀ j, c o j = 0) : am_E ac_X2_init (0, [vR o, vI (n : Int), vU, vU], [], aq_h (o + 1) s F c) (hv_Z o n (s + 200) F c) := by
  refine am_E.go (t2 := (1, [vR o, vI (n : Int), vU, vU], [vR o], aq_h (o + 1) s F c)) rfl rfl ?_
  refine am_E.go (t2 := (4, [vR o, vI (n : Int), vU, vU], [], aq_h (o + 1) s F c)) rfl rfl ?_
  refine am_E.go (t2 := (5, [vR o, vI (n : Int), vU, vU], [vR o], aq_h (o + 1) s F c)) rfl rfl ?_
  refine am_E.go (t2 := (7, [vR o, vI (n : Int), vU, vU], [vI 6, vR o], aq_h (o + 1) s F c)) rfl rfl ?_
  refine aq_stp (o := o) (n := 6) (a := o + 1) (m2 := o + 2) rfl rfl hF (by omega) (by decide) rfl (by omega) rfl (by decide) rfl rfl ?_
  intro s_1 F_1 c_1 es_1 y_1 a_1 o_1 z_1 u_1
  show am_E _ (12, [vR o, vI (n : Int), vU, vU], [], aq_h (o + 2) s_1 F_1 c_1) _
  refine am_E.go (t2 := (13, [vR o, vI (n : Int), vU, vU], [vR o], aq_h (o + 2) s_1 F_1 c_1)) rfl rfl ?_
  refine am_E.go (t2 := (15, [vR o, vI (n : Int), vU, vU], [vI 6, vR o], aq_h (o + 2) s_1 F_1 c_1)) rfl rfl ?_
  refine am_E.go (t2 := (17, [vR o, vI (n : Int), vU, vU], [vI 6, vI 6, vR o], aq_h (o + 2) s_1 F_1 c_1)) rfl rfl ?_
  refine aq_gst (o := o) (n := 6) (w := 6) (a := o + 2) (m2 := o + 9) rfl rfl y_1 (by omega) rfl rfl (by omega) (by omega) rfl (by decide) rfl rfl ?_
  intro s_2 F_2 c_2 es_2 y_2 a_2 r_2 o_2 z_2 u_2
  show am_E _ (24, [vR o, vI (n : Int), vU, vU], [], aq_h (o + 9) s_2 F_2 c_2) _
  refine am_E.go (t2 := (25, [vR o, vI (n : Int), vU, vU], [vR o], aq_h (o + 9) s_2 F_2 c_2)) rfl rfl ?_
  refine am_E.go (t2 := (26, [vR o, vI (n : Int), vU, vU], [vI (n : Int), vR o], aq_h (o + 9) s_2 F_2 c_2)) rfl rfl ?_
  refine aq_pf rfl (by omega) y_2 (by decide) rfl rfl ?_
  show am_E _ (29, [vR o, vI (n : Int), vU, vU], [], aq_h (o + 9) s_2 F_2 (aq_u c_2 o 0 (n : Int))) _
  generalize hd : aq_u c_2 o 0 (n : Int) = c_3
  have z0 : c_3 o 0 = (n : Int) := by rw [← hd, aq_us]
  have zb : ∀ b j, (b ≠ o ∨ j ≠ 0) → c_3 b j = c_2 b j := fun b j hb => by rw [← hd, aq_un hb]
  have ef : aq_h (o + 9) s_2 F_2 c_3 = aq_h (o + 9) s_2 (am_up F_2 o (12, 7, hc_t1 o n)) c_3 := by
    refine aq_eq fun a => ?_
    by_cases e : a = o
    · subst e
      rw [am_up_s, y_2]
      refine ⟨rfl, rfl, fun i => ?_⟩
      match i with
      | 0 => exact congrArg vI z0.symm
      | 1 => rfl
      | 2 => rfl
      | 3 => rfl
      | i + 4 => rfl
    · rw [am_up_n e]
      exact ⟨rfl, rfl, fun i => rfl⟩
  rw [ef]
  have y_3 : am_up F_2 o (12, 7, hc_t1 o n) o = (12, 7, hc_t1 o n) := am_up_s
  have o_3 : ∀ b, b ≠ o → am_up F_2 o (12, 7, hc_t1 o n) b = F_2 b := fun b hb => am_up_n hb
  generalize am_up F_2 o (12, 7, hc_t1 o n) = F_3 at y_3 o_3 ⊢
  show am_E _ (29, [vR o, vI (n : Int), vU, vU], [], aq_h (o + 9) s_2 F_3 c_3) _
  refine am_E.go (t2 := (30, [vR o, vI (n : Int), vU, vU], [vR o], aq_h (o + 9) s_2 F_3 c_3)) rfl rfl ?_
  refine am_E.go (t2 := (32, [vR o, vI (n : Int), vU, vU], [vI 6, vR o], aq_h (o + 9) s_2 F_3 c_3)) rfl rfl ?_
  refine am_E.go (t2 := (33, [vR o, vI (n : Int), vU, vU], [vI (n : Int), vI 6, vR o], aq_h (o + 9) s_2 F_3 c_3)) rfl rfl ?_
  refine aq_gst (o := o) (n := 6) (w := n) (a := o + 9) (m2 := o + 16) rfl rfl y_3 (by omega) rfl rfl (by omega) (by omega) rfl (by decide) rfl rfl ?_
  intro s_4 F_4 c_4 es_4 y_4 a_4 r_4 o_4 z_4 u_4
  show am_E _ (40, [vR o, vI (n : Int), vU, vU], [], aq_h (o + 16) s_4 F_4 c_4) _
  refine am_E.go (t2 := (41, [vR o, vI (n : Int), vU, vU], [vR o], aq_h (o + 16) s_4 F_4 c_4)) rfl rfl ?_
  refine am_E.go (t2 := (42, [vR o, vI (n : Int), vU, vU], [vI (n : Int), vR o], aq_h (o + 16) s_4 F_4 c_4)) rfl rfl ?_
  refine aq_stp (o := o) (n := n) (a := o + 16) (m2 := o + 17) rfl rfl y_4 (by omega) (by decide) rfl (by omega) rfl (by decide) rfl rfl ?_
  intro s_5 F_5 c_5 es_5 y_5 a_5 o_5 z_5 u_5
  show am_E _ (47, [vR o, vI (n : Int), vU, vU], [], aq_h (o + 17) s_5 F_5 c_5) _
  refine am_E.go (t2 := (48, [vR o, vI (n : Int), vU, vU], [vR o], aq_h (o + 17) s_5 F_5 c_5)) rfl rfl ?_
  refine am_E.go (t2 := (49, [vR o, vI (n : Int), vU, vU], [vI (n : Int), vR o], aq_h (o + 17) s_5 F_5 c_5)) rfl rfl ?_
  refine aq_stp (o := o) (n := n) (a := o + 17) (m2 := o + 18) rfl rfl y_5 (by omega) (by decide) rfl (by omega) rfl (by decide) rfl rfl ?_
  intro s_6 F_6 c_6 es_6 y_6 a_6 o_6 z_6 u_6
  show am_E _ (54, [vR o, vI (n : Int), vU, vU], [], aq_h (o + 18) s_6 F_6 c_6) _
  have et : am_up (am_up (am_up (hc_t1 o n) 1 (.inr (vR (o + 9)))) 4 (.inr (vR (o + 16)))) 5 (.inr (vR (o + 17))) = hc_t o n := by
    funext k
    match k with
    | 0 => rfl
    | 1 => rfl
    | 2 => rfl
    | 3 => rfl
    | 4 => rfl
    | 5 => rfl
    | k + 6 =>
      repeat rw [am_up_n (by omega)]
      match k with
      | 0 => rfl
      | k + 1 => rfl
  rw [et] at y_6
  have g1 : F_6 (o + 1) = (0, 6, fun _ => .inl 0) := by rw [o_6 _ (by omega) (by omega), o_5 _ (by omega) (by omega), o_4 _ (by omega) (by omega), o_3 _ (by omega), o_2 _ (by omega) (by omega)]; exact a_1
  have g2 : F_6 (o + 2) = (3, 6, fun j => aq_g 6 j (o + 3 + j)) := by rw [o_6 _ (by omega) (by omega), o_5 _ (by omega) (by omega), o_4 _ (by omega) (by omega), o_3 _ (by omega)]; exact a_2
  have g3 : ∀ j, j < 6 → F_6 (o + 3 + j) = (0, 6, fun _ => .inl 0) := fun j hj => by rw [o_6 _ (by omega) (by omega), o_5 _ (by omega) (by omega), o_4 _ (by omega) (by omega), o_3 _ (by omega)]; exact r_2 j hj
  have g9 : F_6 (o + 9) = (3, 6, fun j => aq_g 6 j (o + 10 + j)) := by rw [o_6 _ (by omega) (by omega), o_5 _ (by omega) (by omega)]; exact a_4
  have g10 : ∀ h, h < 6 → F_6 (o + 10 + h) = (0, n, fun _ => .inl 0) := fun h hh => by rw [o_6 _ (by omega) (by omega), o_5 _ (by omega) (by omega)]; exact r_4 h hh
  have g16 : F_6 (o + 16) = (0, n, fun _ => .inl 0) := by rw [o_6 _ (by omega) (by omega)]; exact a_5
  have gb : ∀ b, b < o → F_6 b = F b := fun b hb => by rw [o_6 _ (by omega) (by omega), o_5 _ (by omega) (by omega), o_4 _ (by omega) (by omega), o_3 _ (by omega), o_2 _ (by omega) (by omega), o_1 _ (by omega) (by omega)]
  have hH : hc_0 (o + 18) F_6 o n := ⟨Nat.le_refl _, h1, h4, y_6, g1, g2, g3, g9, g10, g16, a_6⟩
  have zc : ∀ b, b < o → ∀ j, c_6 b j = c b j := fun b hb j => by rw [u_6 _ (by omega), u_5 _ (by omega), u_4 _ (by omega), zb _ _ (Or.inl (by omega)), u_2 _ (by omega), u_1 _ (by omega)]
  have zd : ∀ j, c_6 (o + 16) j = 0 := fun j => by rw [u_6 _ (by omega)]; exact z_5 j
  have zp : ∀ h, h < 6 → ∀ j, c_6 (o + 10 + h) j = 0 := fun h hh j => by rw [u_6 _ (by omega), u_5 _ (by omega)]; exact z_4 _ (by omega) (by omega) j
  have zo : c_6 o 6 = 0 := by rw [u_6 _ (by omega), u_5 _ (by omega), u_4 _ (by omega), zb _ _ (Or.inr (by decide)), u_2 _ (by omega), u_1 _ (by omega)]; exact hc 6
  have zl : ∀ j, c_6 (o + 1) j = 0 := fun j => by rw [u_6 _ (by omega), u_5 _ (by omega), u_4 _ (by omega), zb _ _ (Or.inl (by omega)), u_2 _ (by omega)]; exact z_1 j
  have hx0 : hx_I o n 0 c_6 := by
    have e0 : kz_ (n : Int) 0 = 0 := by
      have hn : n = 1 ∨ n = 2 ∨ n = 3 ∨ n = 4 := by omega
      rcases hn with hn | hn | hn | hn <;> subst hn <;> decide
    have eg : ∀ (k : Nat) (b : Int), dgt b k 0 = 0 := fun k b => by
      induction k with
      | zero => simp [dgt]
      | succ k ih => rw [dgt, Int.zero_ediv]; exact ih
    refine ⟨fun p _ _ => by rw [zd]; exact (eg _ _).symm, by rw [e0]; exact zo, fun h hh => ⟨fun g => absurd g (by omega), fun _ => ⟨zl _, zp h hh⟩⟩⟩
  refine qc_pw h1 h4 (fun D hD0 hD => ?_)
  have hD1 : 0 ≤ D := by
    rw [hD0]
    unfold hN
    (repeat' split) <;> omega
  refine am_E.imp (qx_init_l hH hD0 hD 626 0 c_6 aq_sm0 (by omega) hD1 hx0 (by omega)) ?_
  rintro r h2 ⟨d, rfl, e1, rfl, hx⟩
  have ekz : kz_ (n : Int) D = hx_z (n : Int) := by
    rw [hD0]
    have hn : n = 1 ∨ n = 2 ∨ n = 3 ∨ n = 4 := by omega
    rcases hn with hn | hn | hn | hn <;> subst hn <;> decide
  have hz6 : hx_z (n : Int) ≤ 6 ∧ 0 ≤ hx_z (n : Int) := by
    have hn : n = 1 ∨ n = 2 ∨ n = 3 ∨ n = 4 := by omega
    rcases hn with hn | hn | hn | hn <;> subst hn <;> decide
  have i3 : 0 ≤ d o 6 := by rw [hx.2.1, ekz]; exact hz6.2
  have i4 : d o 6 ≤ 6 := by rw [hx.2.1, ekz]; exact hz6.1
  have i2 : ∀ h, h < 6 → aq_rg (o + 10 + h) (n : Int) 0 ((n : Int) + 1) d := fun h hh p p0 p1 => by
    have b := hx.2.2 h hh
    by_cases e : (h : Int) < kz_ (n : Int) D
    · rw [(b.1 e).2 p p0 p1]
      have := hx_b h1 h4 h (by omega) (by omega) p p0 p1
      omega
    · rw [(b.2 (by omega)).2 p]
      omega
  have f0 : ∀ a, (a = o + 1 ∨ (o + 10 ≤ a ∧ a < o + 16)) → ∃ w, F_6 a = (0, w, fun _ => .inl 0) := by
    intro a ha
    rcases ha with ha | ha
    · exact ⟨6, by rw [ha]; exact g1⟩
    · have := g10 (a - (o + 10)) (by omega)
      rw [show o + 10 + (a - (o + 10)) = a by omega] at this
      exact ⟨_, this⟩
  rw [aq_fzh f0]
  have q1 : ∀ a, ¬ (a = o + 1 ∨ (o + 10 ≤ a ∧ a < o + 16)) → aq_fz (fun a => a = o + 1 ∨ (o + 10 ≤ a ∧ a < o + 16)) F_6 d a = F_6 a := fun a ha => aq_fzn ha
  have q2 : aq_fz (fun a => a = o + 1 ∨ (o + 10 ≤ a ∧ a < o + 16)) F_6 d (o + 1) = (0, 6, fun j => .inr (vI (d (o + 1) (j : Int)))) := aq_fzy (Or.inl rfl) g1
  have q3 : ∀ h, h < 6 → aq_fz (fun a => a = o + 1 ∨ (o + 10 ≤ a ∧ a < o + 16)) F_6 d (o + 10 + h) = (0, n, fun j => .inr (vI (d (o + 10 + ((h : Int)).toNat) (j : Int)))) := fun h hh => by
    rw [Int.toNat_natCast]
    exact aq_fzy (Or.inr (by omega)) (g10 h hh)
  generalize aq_fz (fun a => a = o + 1 ∨ (o + 10 ≤ a ∧ a < o + 16)) F_6 d = F_7 at q1 q2 q3 ⊢
  have ez : ((d o 6).toNat : Int) = d o 6 := Int.toNat_of_nonneg i3
  have ef2 : aq_h (o + 18) s_6 F_7 d = aq_h (o + 18) s_6 (am_up F_7 o (12, 7, hv_t o n (d o 6).toNat)) d := by
    refine aq_eq fun a => ?_
    by_cases e : a = o
    · subst e
      rw [am_up_s, q1 _ (by omega), y_6]
      refine ⟨rfl, rfl, fun i => ?_⟩
      match i with
      | 0 => rfl
      | 1 => rfl
      | 2 => rfl
      | 3 => rfl
      | 4 => rfl
      | 5 => rfl
      | 6 => exact congrArg vI ez
      | i + 7 => rfl
    · rw [am_up_n e]
      exact ⟨rfl, rfl, fun i => rfl⟩
  rw [ef2]
  refine ⟨s_6, _, d, rfl, rfl, ?_, ⟨(d o 6).toNat, fun i => d (o + 1) i, fun h i => d (o + 10 + h.toNat) i, ⟨Nat.le_refl _, h1, h4, by omega, am_up_s, ?_, ?_, fun j hj => ?_, ?_, fun h hh => ?_, ?_, ?_, fun h p k0 k1 k2 k3 => ?_⟩, ?_, fun h q0 q1 => ?_⟩, fun b hb => ?_, fun b hb j => ?_⟩
  · omega
  · rw [am_up_n (by omega)]; exact q2
  · rw [am_up_n (by omega), q1 _ (by omega)]; exact g2
  · rw [am_up_n (by omega), q1 _ (by omega)]; exact g3 j hj
  · rw [am_up_n (by omega), q1 _ (by omega)]; exact g9
  · rw [am_up_n (by omega)]; exact q3 h hh
  · rw [am_up_n (by omega), q1 _ (by omega)]; exact g16
  · rw [am_up_n (by omega), q1 _ (by omega)]; exact a_6
  · have := i2 h.toNat (by omega) p k2 k3
    show 0 ≤ d (o + 10 + h.toNat) p ∧ d (o + 10 + h.toNat) p ≤ (n : Int)
    omega
  · rw [ez, hx.2.1, ekz]
  · have b := (hx.2.2 h.toNat (by omega)).1 (by omega)
    rw [Int.toNat_of_nonneg q0] at b
    exact b
  · rw [am_up_n (by omega), q1 _ (by omega)]; exact gb b hb
  · rw [e1 _ (by omega)]; exact zc b hb j
/-! The class's constructor. -/
theorem sb_Bm {m m2 o n K : Nat} {F F2 : aq_F} (hB : sb_B m F o n K) (hm : m ≤ m2) (h : ∀ b, o ≤ b → b < o + 8 + 3 * K → F2 b = F b) : sb_B m2 F2 o n K := by
  obtain ⟨tP, tG, tN, tR, tL, ⟨a1, a2, a3, a4, a5, a6, a7⟩, ⟨b1, b2, b3⟩, ⟨c1, c2, c3, c4, c5, c6, c7, c8⟩, ⟨d1, d2⟩, e⟩ := hB
  exact ⟨tP, tG, tN, tR, tL, ⟨by omega, a2, a3, a4, by rw [h _ (by omega) (by omega)]; exact a5, by rw [h _ (by omega) (by omega)]; exact a6, by rw [h _ (by omega) (by omega)]; exact a7⟩, ⟨by rw [h _ (by omega) (by omega)]; exact b1, fun b hb => by rw [h _ (by omega) (by omega)]; exact b2 b hb, b3⟩, ⟨by rw [h _ (by omega) (by omega)]; exact c1, by rw [h _ (by omega) (by omega)]; exact c2, fun b hb => by rw [h _ (by omega) (by omega)]; exact c3 b hb, by rw [h _ (by omega) (by omega)]; exact c4, fun b hb => by rw [h _ (by omega) (by omega)]; exact c5 b hb, c6, c7, c8⟩, ⟨by rw [h _ (by omega) (by omega)]; exact d1, d2⟩, e⟩
theorem sb_Hm {m m2 o n : Nat} {F F2 : aq_F} (hH : sb_H m F o n) (hm : m ≤ m2) (h : ∀ b, o ≤ b → b < o + 18 → F2 b = F b) : sb_H m2 F2 o n := by
  obtain ⟨z, tl, th, ⟨a1, a2, a3, a4, a5, a6, a7, a8, a9, b1, b2, b3, b4⟩, b5⟩ := hH
  exact ⟨z, tl, th, ⟨by omega, a2, a3, a4, by rw [h _ (by omega) (by omega)]; exact a5, by rw [h _ (by omega) (by omega)]; exact a6, by rw [h _ (by omega) (by omega)]; exact a7, fun j hj => by rw [h _ (by omega) (by omega)]; exact a8 j hj, by rw [h _ (by omega) (by omega)]; exact a9, fun j hj => by rw [h _ (by omega) (by omega)]; exact b1 j hj, by rw [h _ (by omega) (by omega)]; exact b2, by rw [h _ (by omega) (by omega)]; exact b3, b4⟩, b5⟩
theorem su_0m {m m2 a : Nat} {F F2 : aq_F} (hH : su_0 m F a) (hm : m ≤ m2) (h : ∀ b, a ≤ b → b < a + 4 → F2 b = F b) : su_0 m2 F2 a := by
  obtain ⟨a1, a2, a3, a4, a5⟩ := hH
  exact ⟨by omega, by rw [h _ (by omega) (by omega)]; exact a2, by rw [h _ (by omega) (by omega)]; exact a3, by rw [h _ (by omega) (by omega)]; exact a4, by rw [h _ (by omega) (by omega)]; exact a5⟩
theorem cr_0m {m m2 a : Nat} {F F2 : aq_F} (hH : cr_0 m F a) (hm : m ≤ m2) (h : ∀ b, a ≤ b → b < a + 3 → F2 b = F b) : cr_0 m2 F2 a := by
  obtain ⟨a1, a2, a3, a4⟩ := hH
  exact ⟨by omega, by rw [h _ (by omega) (by omega)]; exact a2, by rw [h _ (by omega) (by omega)]; exact a3, by rw [h _ (by omega) (by omega)]; exact a4⟩
def sb_m (j : Nat) : Nat := if j = 4 then 495 else sb_o j
theorem sb_num : ∀ j, j < 4 → sb_h j = sb_o j + 10 + 3 * sb_K j ∧ sb_m (j + 1) = sb_h j + 18 ∧ 11 ≤ sb_o j ∧ sb_m j = sb_o j ∧ ∀ i, i < j → sb_o i + 28 + 3 * sb_K i ≤ sb_o j ∧ sb_h i = sb_o i + 10 + 3 * sb_K i := by decide
theorem sb_Kn : ∀ j, j < 4 → (sb_K j : Int) = bx_K ((j + 1 : Nat) : Int) := by decide
theorem aq_gu {j : Nat} {f : Nat → Nat} : am_up (fun i => aq_g j i (f i)) j (.inr (vR (f j))) = fun i => aq_g (j + 1) i (f i) := by
  funext i
  unfold am_up aq_g
  by_cases e : i = j
  · rw [if_pos e, if_pos (by omega), e]
  · rw [if_neg e]
    show (Sum.inr (if i < j then vR (f i) else vN) : aq_T) = Sum.inr (if i < j + 1 then vR (f i) else vN)
    by_cases e2 : i < j
    · rw [if_pos e2, if_pos (by omega)]
    · rw [if_neg e2, if_neg (by omega)]
theorem aq_g0 {f : Nat → Nat} : (fun _ => .inr vN : Nat → aq_T) = fun i => aq_g 0 i (f i) := by
  funext i
  unfold aq_g
  rw [if_neg (by omega)]
/-- behind j of the rounds: what is there -/
def sb_D (j m : Nat) (F : aq_F) (c : aq_C) : Prop := F 0 = (14, 5, sb_t) ∧ F 1 = (4, 4, fun i => aq_g j i (sb_o i)) ∧ F 2 = (5, 4, fun i => aq_g j i (sb_h i)) ∧ F 3 = (6, 8, fun _ => .inr vN) ∧ su_0 m F 4 ∧ cr_0 m F 8 ∧ (cr_l 8 c ∧ c 8 0 = 2 ∧ c 8 1 = 0) ∧ (∀ i, i < j → sb_B m F (sb_o i) (i + 1) (sb_K i)) ∧ (∀ i, i < j → sb_H m F (sb_h i) (i + 1)) ∧ ∀ i, i < j → aq_rg (sb_o i + 6 + 3 * sb_K i) (2 * ((i + 1 : Nat) : Int)) 0 (2 * ((i + 1 : Nat) : Int)) c
theorem sb_step {s j : Nat} {F : aq_F} {c : aq_C} {Z : Option am_V → am_H → Prop} (hj : j < 4) (hD : sb_D j (sb_m j) F c) (k : ∀ (s2 : Nat) (F2 : aq_F) (c2 : aq_C), s2 ≤ s + 3200 → sb_D (j + 1) (sb_m (j + 1)) F2 c2 → am_E ac_X4_init (53, [vR 0, vI ((j + 1 + 1 : Nat) : Int)], [], aq_h (sb_m (j + 1)) s2 F2 c2) Z) : am_E ac_X4_init (53, [vR 0, vI ((j + 1 : Nat) : Int)], [], aq_h (sb_m j) s F c) Z := by
  obtain ⟨n1, n2, n3, n4, n5⟩ := sb_num j hj
  have hK := sb_Kn j hj
  rw [n2, n1] at k
  obtain ⟨d0, d1, d2, d3, d4, d8, dl, dB, dH, dr⟩ := hD
  rw [n4] at d4 d8 dB dH ⊢
  have eo := aq_gu (j := j) (f := sb_o)
  have eh := aq_gu (j := j) (f := sb_h)
  rw [n1] at eh
  obtain ⟨o, ho⟩ : ∃ o, sb_o j = o := ⟨_, rfl⟩
  obtain ⟨K, hKK⟩ : ∃ K, sb_K j = K := ⟨_, rfl⟩
  rw [ho] at n3 n5 d4 d8 dB dH ⊢
  rw [ho, hKK] at k eh
  rw [ho] at eo
  rw [hKK] at hK
  refine am_E.go (t2 := (54, [vR 0, vI ((j + 1 : Nat) : Int)], [vI ((j + 1 : Nat) : Int)], aq_h o s F c)) rfl rfl ?_
  refine am_E.go (t2 := (55, [vR 0, vI ((j + 1 : Nat) : Int)], [vI 4, vI ((j + 1 : Nat) : Int)], aq_h o s F c)) rfl rfl ?_
  refine ae_icmp rfl (fun (q : (4 : Int) < ((j + 1 : Nat) : Int)) => absurd q (by omega)) (fun _ => ?_)
  refine am_E.go (t2 := (59, [vR 0, vI ((j + 1 : Nat) : Int)], [vR 0], aq_h o s F c)) rfl rfl ?_
  refine aq_gf (v := vR 1) rfl (by omega) d0 (by decide) rfl ?_
  refine am_E.go (t2 := (63, [vR 0, vI ((j + 1 : Nat) : Int)], [vI ((j + 1 : Nat) : Int), vR 1], aq_h o s F c)) rfl rfl ?_
  refine am_E.go (t2 := (64, [vR 0, vI ((j + 1 : Nat) : Int)], [vI 1, vI ((j + 1 : Nat) : Int), vR 1], aq_h o s F c)) rfl rfl ?_
  refine ae_sub rfl (am_ri (by omega) (by omega)) ?_
  refine aq_new (a := o) (m2 := o + 1) rfl rfl rfl ?_
  intro s_1 F_1 c_1 es_1 y_1 o_1 z_1 u_1
  refine am_E.go (t2 := (69, [vR 0, vI ((j + 1 : Nat) : Int)], [vR o, vR o, vI (((j + 1 : Nat) : Int) - 1), vR 1], aq_h (o + 1) s_1 F_1 c_1)) rfl rfl ?_
  refine am_E.go (t2 := (70, [vR 0, vI ((j + 1 : Nat) : Int)], [vI ((j + 1 : Nat) : Int), vR o, vR o, vI (((j + 1 : Nat) : Int) - 1), vR 1], aq_h (o + 1) s_1 F_1 c_1)) rfl rfl ?_
  refine aq_callv (y := 2) (as2 := [vI ((j + 1 : Nat) : Int)]) (rest := [vR o, vI (((j + 1 : Nat) : Int) - 1), vR 1]) rfl rfl (by decide) (Nat.le_of_ble_eq_true rfl) rfl rfl (Nat.le_of_ble_eq_true rfl) (by omega) y_1 rfl (Nat.le_of_ble_eq_true rfl) (qb_init (n := j + 1) (K := K) (by omega) (by omega) hK y_1 z_1) ?_
  rintro r5 h5 ⟨s_2, F_2, c_2, rfl, rfl, es_2, gB, o_2, u_2, gr⟩
  show am_E _ (73, [vR 0, vI ((j + 1 : Nat) : Int)], [vR o, vI (((j + 1 : Nat) : Int) - 1), vR 1], aq_h (o + 10 + 3 * K) s_2 F_2 c_2) _
  have g1 : F_2 1 = (4, 4, fun i => aq_g j i (sb_o i)) := by rw [o_2 _ (by omega), o_1 _ (by omega)]; exact d1
  have gO : ∃ t, F_2 o = (10, 11, t) := by
    obtain ⟨_, _, _, _, _, hb, _⟩ := gB
    exact ⟨_, hb.2.2.2.2.1⟩
  obtain ⟨tO, gO⟩ := gO
  refine aq_aas (a := 1) (b := o) (kd := 4) (j := j) rfl (by omega) (by omega) g1 gO (by decide) (by decide) (by omega) hj ?_
  intro F_3 y_3 o_3
  rw [eo] at y_3
  show am_E _ (74, [vR 0, vI ((j + 1 : Nat) : Int)], [], aq_h (o + 10 + 3 * K) s_2 F_3 c_2) _
  have e0 : F_3 0 = (14, 5, sb_t) := by rw [o_3 _ (by omega), o_2 _ (by omega), o_1 _ (by omega)]; exact d0
  refine am_E.go (t2 := (75, [vR 0, vI ((j + 1 : Nat) : Int)], [vR 0], aq_h (o + 10 + 3 * K) s_2 F_3 c_2)) rfl rfl ?_
  refine aq_gf (v := vR 2) rfl (by omega) e0 (by decide) rfl ?_
  refine am_E.go (t2 := (79, [vR 0, vI ((j + 1 : Nat) : Int)], [vI ((j + 1 : Nat) : Int), vR 2], aq_h (o + 10 + 3 * K) s_2 F_3 c_2)) rfl rfl ?_
  refine am_E.go (t2 := (80, [vR 0, vI ((j + 1 : Nat) : Int)], [vI 1, vI ((j + 1 : Nat) : Int), vR 2], aq_h (o + 10 + 3 * K) s_2 F_3 c_2)) rfl rfl ?_
  refine ae_sub rfl (am_ri (by omega) (by omega)) ?_
  obtain ⟨q, hq⟩ : ∃ q, o + 10 + 3 * K = q := ⟨_, rfl⟩
  rw [hq] at gB k eh ⊢
  refine aq_new (a := q) (m2 := q + 1) rfl rfl rfl ?_
  intro s_4 F_4 c_4 es_4 y_4 o_4 z_4 u_4
  refine am_E.go (t2 := (85, [vR 0, vI ((j + 1 : Nat) : Int)], [vR q, vR q, vI (((j + 1 : Nat) : Int) - 1), vR 2], aq_h (q + 1) s_4 F_4 c_4)) rfl rfl ?_
  refine am_E.go (t2 := (86, [vR 0, vI ((j + 1 : Nat) : Int)], [vI ((j + 1 : Nat) : Int), vR q, vR q, vI (((j + 1 : Nat) : Int) - 1), vR 2], aq_h (q + 1) s_4 F_4 c_4)) rfl rfl ?_
  refine aq_callv (y := 2) (as2 := [vI ((j + 1 : Nat) : Int)]) (rest := [vR q, vI (((j + 1 : Nat) : Int) - 1), vR 2]) rfl rfl (by decide) (Nat.le_of_ble_eq_true rfl) rfl rfl (Nat.le_of_ble_eq_true rfl) (by omega) y_4 rfl (Nat.le_of_ble_eq_true rfl) (qc_init (n := j + 1) (by omega) (by omega) y_4 z_4) ?_
  rintro r6 h6 ⟨s_5, F_5, c_5, rfl, rfl, es_5, gH, o_5, u_5⟩
  show am_E _ (89, [vR 0, vI ((j + 1 : Nat) : Int)], [vR q, vI (((j + 1 : Nat) : Int) - 1), vR 2], aq_h (q + 18) s_5 F_5 c_5) _
  have g2 : F_5 2 = (5, 4, fun i => aq_g j i (sb_h i)) := by rw [o_5 _ (by omega), o_4 _ (by omega), o_3 _ (by omega), o_2 _ (by omega), o_1 _ (by omega)]; exact d2
  have gQ : ∃ t, F_5 q = (12, 7, t) := by
    obtain ⟨_, _, _, hb, _⟩ := gH
    exact ⟨_, hb.2.2.2.2.1⟩
  obtain ⟨tQ, gQ⟩ := gQ
  refine aq_aas (a := 2) (b := q) (kd := 5) (j := j) rfl (by omega) (by omega) g2 gQ (by decide) (by decide) (by omega) hj ?_
  intro F_6 y_6 o_6
  rw [eh] at y_6
  show am_E _ (90, [vR 0, vI ((j + 1 : Nat) : Int)], [], aq_h (q + 18) s_5 F_6 c_5) _
  refine ae_iinc rfl rfl (am_ri (by omega) (by omega)) ?_
  show am_E _ (93, [vR 0, vI (((j + 1 : Nat) : Int) + 1)], [], aq_h (q + 18) s_5 F_6 c_5) _
  rw [show ((j + 1 : Nat) : Int) + 1 = ((j + 1 + 1 : Nat) : Int) by omega]
  refine am_E.go (t2 := (53, [vR 0, vI ((j + 1 + 1 : Nat) : Int)], [], aq_h (q + 18) s_5 F_6 c_5)) rfl rfl ?_
  have Fb : ∀ b, b < o → b ≠ 1 → b ≠ 2 → F_6 b = F b := fun b h1 h2 h3 => by rw [o_6 _ h3, o_5 _ (by omega), o_4 _ (by omega), o_3 _ h2, o_2 _ (by omega), o_1 _ (by omega)]
  have cb : ∀ b, b < o → ∀ i, c_5 b i = c b i := fun b h1 i => by rw [u_5 _ (by omega), u_4 _ (by omega), u_2 _ (by omega), u_1 _ (by omega)]
  have Fo : ∀ b, o ≤ b → b < q → F_6 b = F_2 b := fun b h1 h2 => by rw [o_6 _ (by omega), o_5 _ (by omega), o_4 _ (by omega), o_3 _ (by omega)]
  have co : ∀ b, o ≤ b → b < q → ∀ i, c_5 b i = c_2 b i := fun b h1 h2 i => by rw [u_5 _ (by omega), u_4 _ (by omega)]
  refine k s_5 F_6 c_5 (by omega) ⟨by rw [Fb _ (by omega) (by omega) (by omega)]; exact d0, ?_, y_6, by rw [Fb _ (by omega) (by omega) (by omega)]; exact d3, su_0m d4 (by omega) (fun b h1 h2 => Fb b (by omega) (by omega) (by omega)), cr_0m d8 (by omega) (fun b h1 h2 => Fb b (by omega) (by omega) (by omega)), ⟨cr_lc (cb 8 (by omega)) (cb 9 (by omega)) dl.1, by rw [cb 8 (by omega)]; exact dl.2.1, by rw [cb 8 (by omega)]; exact dl.2.2⟩, fun i hi => ?_, fun i hi => ?_, fun i hi => ?_⟩
  · rw [o_6 _ (by omega), o_5 _ (by omega), o_4 _ (by omega)]
    exact y_3
  · by_cases e : i = j
    · subst e
      rw [ho, hKK]
      exact sb_Bm gB (by omega) (fun b h1 h2 => Fo b h1 (by omega))
    · have n6 := n5 i (by omega)
      have n7 := (sb_num i (by omega)).2.2.1
      exact sb_Bm (dB i (by omega)) (by omega) (fun b h1 h2 => Fb b (by omega) (by omega) (by omega))
  · by_cases e : i = j
    · subst e
      rw [n1, ho, hKK, hq]
      exact sb_Hm gH (by omega) (fun b h1 h2 => o_6 _ (by omega))
    · have n6 := n5 i (by omega)
      have n7 := (sb_num i (by omega)).2.2.1
      exact sb_Hm (dH i (by omega)) (by omega) (fun b h1 h2 => Fb b (by omega) (by omega) (by omega))
  · by_cases e : i = j
    · subst e
      rw [ho, hKK]
      intro x x0 x1
      rw [co _ (by omega) (by omega)]
      exact gr x x0 x1
    · have n6 := n5 i (by omega)
      intro x x0 x1
      rw [cb _ (by omega)]
      exact dr i (by omega) x x0 x1
/-! The class's constructor, whole. -/
theorem su_t0e : (fun j => aq_ot (ac_ft 3 j)) = su_t0 := by
  funext j
  match j with
  | 0 => rfl
  | 1 => rfl
  | 2 => rfl
  | 3 => rfl
  | 4 => rfl
  | j + 5 => rfl
theorem cr_t0e : (fun j => aq_ot (ac_ft 1 j)) = cr_t0 := by
  funext j
  match j with
  | 0 => rfl
  | 1 => rfl
  | 2 => rfl
  | 3 => rfl
  | 4 => rfl
  | j + 5 => rfl
/-- behind the sums before j -/
def sb_E (j : Nat) (m : Nat) (F : aq_F) (c : aq_C) : Prop := F 0 = (14, 5, sb_t) ∧ F 1 = (4, 4, fun j => aq_g 4 j (sb_o j)) ∧ F 2 = (5, 4, fun j => aq_g 4 j (sb_h j)) ∧ F 3 = (6, 8, fun i => aq_g j i (495 + 4 * i)) ∧ su_0 m F 4 ∧ cr_0 m F 8 ∧ (∀ i, i < j → su_0 m F (495 + 4 * i)) ∧ (∀ i, i < 4 → sb_B m F (sb_o i) (i + 1) (sb_K i)) ∧ (∀ i, i < 4 → sb_H m F (sb_h i) (i + 1)) ∧ (∀ i, i < 4 → aq_rg (sb_o i + 6 + 3 * sb_K i) (2 * ((i + 1 : Nat) : Int)) 0 (2 * ((i + 1 : Nat) : Int)) c) ∧ (cr_l 8 c ∧ c 8 0 = 2 ∧ c 8 1 = 0) ∧ ∀ i, i < j → sb_u (495 + 4 * i) c ∧ c (495 + 4 * i) 0 = 2 ∧ c (495 + 4 * i) 1 = 0
theorem sb_end4 : ∀ i, i < 4 → 11 ≤ sb_o i ∧ sb_o i + 10 + 3 * sb_K i = sb_h i ∧ sb_h i + 18 ≤ 495 := by decide
theorem sb_su {s j : Nat} {F : aq_F} {c : aq_C} {Z : Option am_V → am_H → Prop} (hj : j < 8) (hE : sb_E j (495 + 4 * j) F c) (k : ∀ (s2 : Nat) (F2 : aq_F) (c2 : aq_C), s2 ≤ s + 200 → sb_E (j + 1) (495 + 4 * (j + 1)) F2 c2 → am_E ac_X4_init (98, [vR 0, vI ((j + 1 : Nat) : Int)], [], aq_h (495 + 4 * (j + 1)) s2 F2 c2) Z) : am_E ac_X4_init (98, [vR 0, vI ((j : Nat) : Int)], [], aq_h (495 + 4 * j) s F c) Z := by
  obtain ⟨d0, d1, d2, d3, d4, d8, ds, dB, dH, dr, dl, du⟩ := hE
  obtain ⟨a, ha⟩ : ∃ a, 495 + 4 * j = a := ⟨_, rfl⟩
  have eo := aq_gu (j := j) (f := fun i => 495 + 4 * i)
  simp only [ha] at eo
  rw [show 495 + 4 * (j + 1) = a + 4 by omega] at k
  rw [ha] at d4 d8 ds dB dH ⊢
  refine am_E.go (t2 := (99, [vR 0, vI (j : Int)], [vI (j : Int)], aq_h a s F c)) rfl rfl ?_
  refine am_E.go (t2 := (101, [vR 0, vI (j : Int)], [vI 8, vI (j : Int)], aq_h a s F c)) rfl rfl ?_
  refine ae_icmp rfl (fun (q : (8 : Int) ≤ (j : Int)) => absurd q (by omega)) (fun _ => ?_)
  refine am_E.go (t2 := (105, [vR 0, vI (j : Int)], [vR 0], aq_h a s F c)) rfl rfl ?_
  refine aq_gf (v := vR 3) rfl (by omega) d0 (by decide) rfl ?_
  refine am_E.go (t2 := (109, [vR 0, vI (j : Int)], [vI (j : Int), vR 3], aq_h a s F c)) rfl rfl ?_
  refine aq_new (a := a) (m2 := a + 1) rfl rfl rfl ?_
  intro s_1 F_1 c_1 es_1 y_1 o_1 z_1 u_1
  rw [su_t0e] at y_1
  refine am_E.go (t2 := (113, [vR 0, vI (j : Int)], [vR a, vR a, vI (j : Int), vR 3], aq_h (a + 1) s_1 F_1 c_1)) rfl rfl ?_
  refine aq_callv (y := 1) (as2 := []) (rest := [vR a, vI (j : Int), vR 3]) rfl rfl (by decide) (Nat.le_of_ble_eq_true rfl) rfl rfl (Nat.le_of_ble_eq_true rfl) (by omega) y_1 rfl (Nat.le_of_ble_eq_true rfl) (qn_X3_init y_1) ?_
  rintro r5 h5 ⟨F_2, c_2, rfl, rfl, gS, o_2, u_2, w0, w1⟩
  obtain ⟨s_2, hs2⟩ : ∃ s2, s_1 + 120 = s2 := ⟨_, rfl⟩
  rw [hs2]
  show am_E _ (116, [vR 0, vI (j : Int)], [vR a, vI (j : Int), vR 3], aq_h (a + 4) s_2 F_2 c_2) _
  have g3 : F_2 3 = (6, 8, fun i => aq_g j i (495 + 4 * i)) := by rw [o_2 _ (by omega), o_1 _ (by omega)]; exact d3
  refine aq_aas (a := 3) (b := a) (kd := 6) (j := j) rfl (by omega) (by omega) g3 gS.2.1 (by decide) (by decide) rfl hj ?_
  intro F_3 y_3 o_3
  rw [eo] at y_3
  show am_E _ (117, [vR 0, vI (j : Int)], [], aq_h (a + 4) s_2 F_3 c_2) _
  refine ae_iinc rfl rfl (am_ri (by omega) (by omega)) ?_
  show am_E _ (120, [vR 0, vI ((j : Int) + 1)], [], aq_h (a + 4) s_2 F_3 c_2) _
  rw [show (j : Int) + 1 = ((j + 1 : Nat) : Int) by omega]
  refine am_E.go (t2 := (98, [vR 0, vI ((j + 1 : Nat) : Int)], [], aq_h (a + 4) s_2 F_3 c_2)) rfl rfl ?_
  have Fb : ∀ b, b < a → b ≠ 3 → F_3 b = F b := fun b h1 h2 => by rw [o_3 _ h2, o_2 _ (by omega), o_1 _ (by omega)]
  have cb : ∀ b, b < a → ∀ i, c_2 b i = c b i := fun b h1 i => by rw [u_2 _ h1, u_1 _ (by omega)]
  refine k s_2 F_3 c_2 (by omega) ⟨by rw [Fb _ (by omega) (by omega)]; exact d0, by rw [Fb _ (by omega) (by omega)]; exact d1, by rw [Fb _ (by omega) (by omega)]; exact d2, y_3, su_0m d4 (by omega) (fun b h1 h2 => Fb b (by omega) (by omega)), cr_0m d8 (by omega) (fun b h1 h2 => Fb b (by omega) (by omega)), fun i hi => ?_, fun i hi => ?_, fun i hi => ?_, fun i hi => ?_, ⟨cr_lc (cb 8 (by omega)) (cb 9 (by omega)) dl.1, by rw [cb 8 (by omega)]; exact dl.2.1, by rw [cb 8 (by omega)]; exact dl.2.2⟩, fun i hi => ?_⟩
  · by_cases e : i = j
    · subst e
      rw [ha]
      exact su_0m gS (by omega) (fun b h1 h2 => o_3 b (by omega))
    · exact su_0m (ds i (by omega)) (by omega) (fun b h1 h2 => Fb b (by omega) (by omega))
  · have n6 := sb_end4 i hi
    exact sb_Bm (dB i hi) (by omega) (fun b h1 h2 => Fb b (by omega) (by omega))
  · have n6 := sb_end4 i hi
    exact sb_Hm (dH i hi) (by omega) (fun b h1 h2 => Fb b (by omega) (by omega))
  · have n6 := sb_end4 i hi
    intro x x0 x1
    rw [cb _ (by omega)]
    exact dr i hi x x0 x1
  · by_cases e : i = j
    · subst e
      rw [ha]
      have v1 : c_2 a 1 = 0 := by rw [w1 1 (by decide)]; exact z_1 1
      exact ⟨⟨by omega, by omega, by omega, by omega, fun i i0 i1 => absurd i1 (by omega)⟩, w0, v1⟩
    · have d9 := du i (by omega)
      exact ⟨sb_uc (cb _ (by omega)) (cb _ (by omega)) (cb _ (by omega)) d9.1, by rw [cb _ (by omega)]; exact d9.2.1, by rw [cb _ (by omega)]; exact d9.2.2⟩
def cl_Z (sT : Nat) : Option am_V → am_H → Prop := fun r h2 => ∃ (s2 : Nat) (F2 : aq_F) (c2 : aq_C), r = none ∧ h2 = aq_h 527 s2 F2 c2 ∧ s2 ≤ sT ∧ sb_C 527 F2 ∧ cl_I c2 ∧ c2 8 0 = 2 ∧ c2 8 1 = 0 ∧ ∀ j, j < 8 → c2 (495 + 4 * j) 0 = 2 ∧ c2 (495 + 4 * j) 1 = 0
theorem sb_ret {s : Nat} {F : aq_F} {c : aq_C} (hE : sb_E 8 527 F c) : am_E ac_X4_init (98, [vR 0, vI ((8 : Nat) : Int)], [], aq_h 527 s F c) (cl_Z s) := by
  obtain ⟨d0, d1, d2, d3, d4, d8, ds, dB, dH, dr, dl, du⟩ := hE
  refine am_E.go (t2 := (99, [vR 0, vI ((8 : Nat) : Int)], [vI ((8 : Nat) : Int)], aq_h 527 s F c)) rfl rfl ?_
  refine am_E.go (t2 := (101, [vR 0, vI ((8 : Nat) : Int)], [vI 8, vI ((8 : Nat) : Int)], aq_h 527 s F c)) rfl rfl ?_
  refine ae_icmp rfl (fun _ => ?_) (fun (q : ((8 : Nat) : Int) < 8) => absurd q (by omega))
  exact am_E.ret rfl rfl ⟨s, F, c, rfl, rfl, Nat.le_refl _, ⟨Nat.le_refl _, d0, d1, d2, d3, d4, d8, ds, dB, dH⟩, ⟨dr, dl.1, fun i hi => (du i hi).1⟩, dl.2.1, dl.2.2, fun i hi => (du i hi).2⟩
theorem sb_mid {s : Nat} {F : aq_F} {c : aq_C} (hD : sb_D 4 495 F c) : am_E ac_X4_init (53, [vR 0, vI ((4 + 1 : Nat) : Int)], [], aq_h 495 s F c) (cl_Z (s + 2000)) := by
  obtain ⟨d0, d1, d2, d3, d4, d8, dl, dB, dH, dr⟩ := hD
  refine am_E.go (t2 := (54, [vR 0, vI ((4 + 1 : Nat) : Int)], [vI ((4 + 1 : Nat) : Int)], aq_h 495 s F c)) rfl rfl ?_
  refine am_E.go (t2 := (55, [vR 0, vI ((4 + 1 : Nat) : Int)], [vI 4, vI ((4 + 1 : Nat) : Int)], aq_h 495 s F c)) rfl rfl ?_
  refine ae_icmp rfl (fun _ => ?_) (fun (q : ((4 + 1 : Nat) : Int) ≤ 4) => absurd q (by omega))
  refine am_E.go (t2 := (97, [vR 0, vI ((4 + 1 : Nat) : Int)], [vI 0], aq_h 495 s F c)) rfl rfl ?_
  refine am_E.go (t2 := (98, [vR 0, vI ((0 : Nat) : Int)], [], aq_h 495 s F c)) rfl rfl ?_
  refine sb_su (j := 0) (by decide) ⟨d0, d1, d2, by rw [d3, aq_g0], d4, d8, fun i hi => absurd hi (by omega), dB, dH, dr, dl, fun i hi => absurd hi (by omega)⟩ (fun s1 F1 c1 e1 g1 => ?_)
  refine sb_su (j := 1) (by decide) g1 (fun s2 F2 c2 e2 g2 => ?_)
  refine sb_su (j := 2) (by decide) g2 (fun s3 F3 c3 e3 g3 => ?_)
  refine sb_su (j := 3) (by decide) g3 (fun s4 F4 c4 e4 g4 => ?_)
  refine sb_su (j := 4) (by decide) g4 (fun s5 F5 c5 e5 g5 => ?_)
  refine sb_su (j := 5) (by decide) g5 (fun s6 F6 c6 e6 g6 => ?_)
  refine sb_su (j := 6) (by decide) g6 (fun s7 F7 c7 e7 g7 => ?_)
  refine sb_su (j := 7) (by decide) g7 (fun s8 F8 c8 e8 g8 => ?_)
  refine am_E.imp (sb_ret g8) ?_
  rintro r h2 ⟨s9, F9, c9, q1, q2, q3, q4, q5⟩
  exact ⟨s9, F9, c9, q1, q2, by omega, q4, q5⟩
/-- THE CLASS'S CONSTRUCTOR: from a new object at 0 -/
theorem qn_X4_init {s : Nat} {F : aq_F} {c : aq_C} (hF : F 0 = (14, 5, fun j => aq_ot (ac_ft 4 j))) : am_E ac_X4_init (0, [vR 0, vU], [], aq_h 1 s F c) (cl_Z (s + 20000)) := by
  refine am_E.go (t2 := (1, [vR 0, vU], [vR 0], aq_h 1 s F c)) rfl rfl ?_
  refine am_E.go (t2 := (4, [vR 0, vU], [], aq_h 1 s F c)) rfl rfl ?_
  refine am_E.go (t2 := (5, [vR 0, vU], [vR 0], aq_h 1 s F c)) rfl rfl ?_
  refine am_E.go (t2 := (6, [vR 0, vU], [vI 4, vR 0], aq_h 1 s F c)) rfl rfl ?_
  refine aq_nwr (n := 4) (a := 1) (m2 := 2) rfl (by decide) rfl (by decide) rfl rfl (fun s_1 F_1 c_1 es_1 a_1 o_1 u_1 => ?_)
  refine aq_pfr (pc := 9) (o := 0) (N := 5) rfl (by decide) (by rw [o_1 _ (by decide)]; exact hF) (by decide) rfl (fun F_2 y_2 o_2 => ?_)
  refine am_E.go (t2 := (13, [vR 0, vU], [vR 0], aq_h 2 s_1 F_2 c_1)) rfl rfl ?_
  refine am_E.go (t2 := (14, [vR 0, vU], [vI 4, vR 0], aq_h 2 s_1 F_2 c_1)) rfl rfl ?_
  refine aq_nwr (n := 4) (a := 2) (m2 := 3) rfl (by decide) rfl (by decide) rfl rfl (fun s_3 F_3 c_3 es_3 a_3 o_3 u_3 => ?_)
  refine aq_pfr (pc := 17) (o := 0) (N := 5) rfl (by decide) (by rw [o_3 _ (by decide)]; exact y_2) (by decide) rfl (fun F_4 y_4 o_4 => ?_)
  refine am_E.go (t2 := (21, [vR 0, vU], [vR 0], aq_h 3 s_3 F_4 c_3)) rfl rfl ?_
  refine am_E.go (t2 := (23, [vR 0, vU], [vI 8, vR 0], aq_h 3 s_3 F_4 c_3)) rfl rfl ?_
  refine aq_nwr (n := 8) (a := 3) (m2 := 4) rfl (by decide) rfl (by decide) rfl rfl (fun s_5 F_5 c_5 es_5 a_5 o_5 u_5 => ?_)
  refine aq_pfr (pc := 26) (o := 0) (N := 5) rfl (by decide) (by rw [o_5 _ (by decide)]; exact y_4) (by decide) rfl (fun F_6 y_6 o_6 => ?_)
  refine am_E.go (t2 := (30, [vR 0, vU], [vR 0], aq_h 4 s_5 F_6 c_5)) rfl rfl ?_
  refine aq_new (a := 4) (m2 := 5) rfl rfl rfl (fun s_7 F_7 c_7 es_7 y_7 o_7 z_7 u_7 => ?_)
  rw [su_t0e] at y_7
  refine am_E.go (t2 := (34, [vR 0, vU], [vR 4, vR 4, vR 0], aq_h 5 s_7 F_7 c_7)) rfl rfl ?_
  refine aq_callv (y := 1) (as2 := []) (rest := [vR 4, vR 0]) rfl rfl (by decide) (Nat.le_of_ble_eq_true rfl) rfl rfl (Nat.le_of_ble_eq_true rfl) (by decide) y_7 rfl (Nat.le_of_ble_eq_true rfl) (qn_X3_init y_7) ?_
  rintro r5 h5 ⟨F_8, c_8, rfl, rfl, gS, o_8, u_8, -, -⟩
  obtain ⟨s_8, hs8⟩ : ∃ s2, s_7 + 120 = s2 := ⟨_, rfl⟩
  rw [hs8]
  show am_E _ (37, [vR 0, vU], [vR 4, vR 0], aq_h 8 s_8 F_8 c_8) _
  refine aq_pfr (pc := 37) (o := 0) (N := 5) rfl (by decide) (by rw [o_8 _ (by decide), o_7 _ (by decide)]; exact y_6) (by decide) rfl (fun F_9 y_9 o_9 => ?_)
  refine am_E.go (t2 := (41, [vR 0, vU], [vR 0], aq_h 8 s_8 F_9 c_8)) rfl rfl ?_
  refine aq_new (a := 8) (m2 := 9) rfl rfl rfl (fun s_10 F_10 c_10 es_10 y_10 o_10 z_10 u_10 => ?_)
  rw [cr_t0e] at y_10
  refine am_E.go (t2 := (45, [vR 0, vU], [vR 8, vR 8, vR 0], aq_h 9 s_10 F_10 c_10)) rfl rfl ?_
  refine aq_callv (y := 1) (as2 := []) (rest := [vR 8, vR 0]) rfl rfl (by decide) (Nat.le_of_ble_eq_true rfl) rfl rfl (Nat.le_of_ble_eq_true rfl) (by decide) y_10 rfl (Nat.le_of_ble_eq_true rfl) (qn_X1_init y_10) ?_
  rintro r6 h6 ⟨F_11, c_11, rfl, rfl, gX, o_11, u_11, w0, w1⟩
  obtain ⟨s_11, hs11⟩ : ∃ s2, s_10 + 89 = s2 := ⟨_, rfl⟩
  rw [hs11]
  show am_E _ (48, [vR 0, vU], [vR 8, vR 0], aq_h 11 s_11 F_11 c_11) _
  refine aq_pfr (pc := 48) (o := 0) (N := 5) rfl (by decide) (by rw [o_11 _ (by decide), o_10 _ (by decide)]; exact y_9) (by decide) rfl (fun F_12 y_12 o_12 => ?_)
  refine am_E.go (t2 := (52, [vR 0, vU], [vI 1], aq_h 11 s_11 F_12 c_11)) rfl rfl ?_
  refine am_E.go (t2 := (53, [vR 0, vI ((0 + 1 : Nat) : Int)], [], aq_h 11 s_11 F_12 c_11)) rfl rfl ?_
  have e0 : F_12 0 = (14, 5, sb_t) := by
    rw [y_12]
    refine congrArg (fun f => (14, 5, f)) ?_
    funext k
    match k with
    | 0 => rfl
    | 1 => rfl
    | 2 => rfl
    | 3 => rfl
    | 4 => rfl
    | k + 5 => rfl
  have e1 : F_12 1 = (4, 4, fun i => aq_g 0 i (sb_o i)) := by
    rw [o_12 _ (by decide), o_11 _ (by decide), o_10 _ (by decide), o_9 _ (by decide), o_8 _ (by decide), o_7 _ (by decide), o_6 _ (by decide), o_5 _ (by decide), o_4 _ (by decide), o_3 _ (by decide), o_2 _ (by decide), a_1, aq_g0]
  have e2 : F_12 2 = (5, 4, fun i => aq_g 0 i (sb_h i)) := by
    rw [o_12 _ (by decide), o_11 _ (by decide), o_10 _ (by decide), o_9 _ (by decide), o_8 _ (by decide), o_7 _ (by decide), o_6 _ (by decide), o_5 _ (by decide), o_4 _ (by decide), a_3, aq_g0]
  have e3 : F_12 3 = (6, 8, fun _ => .inr vN) := by
    rw [o_12 _ (by decide), o_11 _ (by decide), o_10 _ (by decide), o_9 _ (by decide), o_8 _ (by decide), o_7 _ (by decide), o_6 _ (by decide), a_5]
  have e4 : su_0 11 F_12 4 := su_0m gS (by decide) (fun b h1 h2 => by rw [o_12 _ (by omega), o_11 _ (by omega), o_10 _ (by omega), o_9 _ (by omega)])
  have e8 : cr_0 11 F_12 8 := cr_0m gX (by decide) (fun b h1 h2 => o_12 _ (by omega))
  have v1 : c_11 8 1 = 0 := by rw [w1 1 (by decide)]; exact z_10 1
  have el : cr_l 8 c_11 := ⟨by omega, by omega, by omega, by omega, fun i i0 i1 => absurd i1 (by omega)⟩
  refine sb_step (j := 0) (by decide) ⟨e0, e1, e2, e3, e4, e8, ⟨el, w0, v1⟩, fun i hi => absurd hi (by omega), fun i hi => absurd hi (by omega), fun i hi => absurd hi (by omega)⟩ (fun s1 F1 c1 t1 g1 => ?_)
  refine sb_step (j := 1) (by decide) g1 (fun s2 F2 c2 t2 g2 => ?_)
  refine sb_step (j := 2) (by decide) g2 (fun s3 F3 c3 t3 g3 => ?_)
  refine sb_step (j := 3) (by decide) g3 (fun s4 F4 c4 t4 g4 => ?_)
  refine am_E.imp (sb_mid g4) ?_
  rintro r h2 ⟨s9, F9, c9, q1, q2, q3, q4, q5⟩
  exact ⟨s9, F9, c9, q1, q2, by omega, q4, q5⟩
/-! What a run leaves as it was: a field that no code of its methods writes. -/
def fr_k (bd : Nat → Nat → Bool) (h h2 : am_H) : Prop := h.1 ≤ h2.1 ∧ ∀ a, a < h.1 → 10 ≤ (h.2.2 a).1 → (h2.2.2 a).1 = (h.2.2 a).1 ∧ ∀ y, bd ((h.2.2 a).1 - 10) y = true → (h2.2.2 a).2.2 y = (h.2.2 a).2.2 y
theorem fr_0 {bd : Nat → Nat → Bool} {h : am_H} : fr_k bd h h := ⟨Nat.le_refl _, fun _ _ _ => ⟨rfl, fun _ _ => rfl⟩⟩
theorem fr_t {bd : Nat → Nat → Bool} {h h2 h3 : am_H} (a : fr_k bd h h2) (b : fr_k bd h2 h3) : fr_k bd h h3 := by
  refine ⟨Nat.le_trans a.1 b.1, fun x hx hk => ?_⟩
  obtain ⟨a1, a2⟩ := a.2 x hx hk
  obtain ⟨b1, b2⟩ := b.2 x (Nat.lt_of_lt_of_le hx a.1) (by omega)
  exact ⟨by omega, fun y hy => by rw [b2 y (by rw [a1]; exact hy)]; exact a2 y hy⟩
theorem fr_w {bd : Nat → Nat → Bool} {h : am_H} {a i : Nat} {v : am_V} (hw : (h.2.2 a).1 < 10 ∨ bd ((h.2.2 a).1 - 10) i = false) : fr_k bd h (am_wr h a i v) := by
  refine ⟨Nat.le_refl _, fun b hb hk => ?_⟩
  show (am_up h.2.2 a _ b).1 = _ ∧ ∀ y, _ → (am_up h.2.2 a _ b).2.2 y = _
  by_cases e : b = a
  · subst e
    rw [am_up_s]
    refine ⟨rfl, fun y hy => ?_⟩
    show am_up (h.2.2 b).2.2 i v y = _
    by_cases e2 : y = i
    · subst e2
      rcases hw with hw | hw
      · omega
      · rw [hw] at hy
        cases hy
    · rw [am_up_n e2]
  · rw [am_up_n e]
    exact ⟨rfl, fun _ _ => rfl⟩
theorem fr_m {bd : Nat → Nat → Bool} {h : am_H} {kd n : Nat} {f : Nat → am_V} : fr_k bd h (am_mk h kd n f) := by
  refine ⟨Nat.le_succ _, fun b hb hk => ?_⟩
  show (am_up h.2.2 h.1 _ b).1 = _ ∧ ∀ y, _ → (am_up h.2.2 h.1 _ b).2.2 y = _
  rw [am_up_n (by omega)]
  exact ⟨rfl, fun _ _ => rfl⟩
theorem fr_g {bd : Nat → Nat → Bool} {h : am_H} {n k : Nat} : fr_k bd h (am_grid h n k) := by
  refine ⟨by show h.1 ≤ h.1 + 1 + n; omega, fun b hb hk => ?_⟩
  unfold am_grid
  dsimp only
  rw [if_neg (by omega), if_neg (by omega)]
  exact ⟨rfl, fun _ _ => rfl⟩
theorem fr_c {bd : Nat → Nat → Bool} {h : am_H} {b n : Nat} {s : Nat} {f : Nat → am_V} (hk : (h.2.2 b).1 < 10) : fr_k bd h (h.1, s, am_up h.2.2 b ((h.2.2 b).1, n, f)) := by
  refine ⟨Nat.le_refl _, fun x hx hk2 => ?_⟩
  show (am_up h.2.2 b _ x).1 = _ ∧ ∀ y, _ → (am_up h.2.2 b _ x).2.2 y = _
  rw [am_up_n (by intro q; rw [q] at hk2; omega)]
  exact ⟨rfl, fun _ _ => rfl⟩
def fr_r (bd : Nat → Nat → Bool) (h : am_H) (r : am_S ⊕ ((Nat × List am_V × am_S) ⊕ (Option am_V × am_H))) : Prop := match r with
  | .inl t => fr_k bd h t.2.2.2
  | .inr (.inl q) => q.2.2.2.2.2 = h
  | .inr (.inr q) => q.2 = h
theorem fr_load {bd : Nat → Nat → Bool} {k i : Nat} {len x y pc : Nat} {ls st : List am_V} {h : am_H} {r} (e : am_load k i len x y (pc, ls, st, h) = some r) : fr_r bd h r := by
  obtain ⟨_, _, _, e2⟩ := iv_load e
  rw [e2]
  exact fr_0
theorem fr_stor {bd : Nat → Nat → Bool} {k i : Nat} {len x y pc : Nat} {ls st : List am_V} {h : am_H} {r} (e : am_stor k i len x y (pc, ls, st, h) = some r) : fr_r bd h r := by
  obtain ⟨_, _, _, _, _, e2⟩ := iv_stor e
  rw [e2]
  exact fr_0
theorem fr_storl {bd : Nat → Nat → Bool} {i : Nat} {len x y pc : Nat} {ls st : List am_V} {h : am_H} {r} (e : am_storl i len x y (pc, ls, st, h) = some r) : fr_r bd h r := by
  obtain ⟨_, _, _, _, e2⟩ := iv_storl e
  rw [e2]
  exact fr_0
theorem fr_iinc {bd : Nat → Nat → Bool} {i : Nat} {n : Int} {len x y pc : Nat} {ls st : List am_V} {h : am_H} {r} (e : am_iinc i n len x y (pc, ls, st, h) = some r) : fr_r bd h r := by
  obtain ⟨_, _, e2⟩ := iv_iinc e
  rw [e2]
  exact fr_0
theorem fr_bin {bd : Nat → Nat → Bool} {f : Int → Int → Option Int} {len x y pc : Nat} {ls st : List am_V} {h : am_H} {r} (e : am_bin f len x y (pc, ls, st, h) = some r) : fr_r bd h r := by
  obtain ⟨_, _, _, _, _, _, e2⟩ := iv_bin e
  rw [e2]
  exact fr_0
theorem fr_binl {bd : Nat → Nat → Bool} {f : Int → Int → Option Int} {len x y pc : Nat} {ls st : List am_V} {h : am_H} {r} (e : am_binl f len x y (pc, ls, st, h) = some r) : fr_r bd h r := by
  obtain ⟨_, _, _, _, _, _, e2⟩ := iv_binl e
  rw [e2]
  exact fr_0
theorem fr_shl {bd : Nat → Nat → Bool} {f : Int → Int → Option Int} {len x y pc : Nat} {ls st : List am_V} {h : am_H} {r} (e : am_shl f len x y (pc, ls, st, h) = some r) : fr_r bd h r := by
  obtain ⟨_, _, _, _, _, _, e2⟩ := iv_shl e
  rw [e2]
  exact fr_0
theorem fr_un {bd : Nat → Nat → Bool} {f : Int → Int} {len x y pc : Nat} {ls st : List am_V} {h : am_H} {r} (e : am_un f len x y (pc, ls, st, h) = some r) : fr_r bd h r := by
  obtain ⟨_, _, _, e2⟩ := iv_un e
  rw [e2]
  exact fr_0
theorem fr_unl {bd : Nat → Nat → Bool} {f : Int → Int} {len x y pc : Nat} {ls st : List am_V} {h : am_H} {r} (e : am_unl f len x y (pc, ls, st, h) = some r) : fr_r bd h r := by
  obtain ⟨_, _, _, e2⟩ := iv_unl e
  rw [e2]
  exact fr_0
theorem fr_lcmp {bd : Nat → Nat → Bool} {len x y pc : Nat} {ls st : List am_V} {h : am_H} {r} (e : am_lcmp len x y (pc, ls, st, h) = some r) : fr_r bd h r := by
  obtain ⟨_, _, _, _, e2⟩ := iv_lcmp e
  rw [e2]
  exact fr_0
theorem fr_i2l {bd : Nat → Nat → Bool} {len x y pc : Nat} {ls st : List am_V} {h : am_H} {r} (e : am_i2l len x y (pc, ls, st, h) = some r) : fr_r bd h r := by
  obtain ⟨_, _, _, e2⟩ := iv_i2l e
  rw [e2]
  exact fr_0
theorem fr_l2i {bd : Nat → Nat → Bool} {len x y pc : Nat} {ls st : List am_V} {h : am_H} {r} (e : am_l2i len x y (pc, ls, st, h) = some r) : fr_r bd h r := by
  obtain ⟨_, _, _, e2⟩ := iv_l2i e
  rw [e2]
  exact fr_0
theorem fr_if {bd : Nat → Nat → Bool} {cnd : Jvm.ClassFile.Cond} {len x y pc : Nat} {ls st : List am_V} {h : am_H} {r} (e : am_if cnd len x y (pc, ls, st, h) = some r) : fr_r bd h r := by
  obtain ⟨_, _, _, e2⟩ := iv_if e
  rw [e2]
  exact fr_0
theorem fr_icmp {bd : Nat → Nat → Bool} {cnd : Jvm.ClassFile.Cond} {len x y pc : Nat} {ls st : List am_V} {h : am_H} {r} (e : am_icmp cnd len x y (pc, ls, st, h) = some r) : fr_r bd h r := by
  obtain ⟨_, _, _, _, e2⟩ := iv_icmp e
  rw [e2]
  exact fr_0
theorem fr_gf {bd : Nat → Nat → Bool} {len x y pc : Nat} {ls st : List am_V} {h : am_H} {r} (e : am_gf len x y (pc, ls, st, h) = some r) : fr_r bd h r := by
  obtain ⟨_, _, _, _, e2⟩ := iv_gf e
  rw [e2]
  exact fr_0
theorem fr_pf {bd : Nat → Nat → Bool} {ft : am_ft} {len x y pc : Nat} {ls st : List am_V} {h : am_H} {r} (hb : bd x y = false) (e : am_pf ft len x y (pc, ls, st, h) = some r) : fr_r bd h r := by
  obtain ⟨_, a, _, _, ⟨-, q, -⟩, e2⟩ := iv_pf e
  rw [e2]
  exact fr_w (Or.inr (by rw [q, Nat.add_sub_cancel_left]; exact hb))
theorem fr_ald {bd : Nat → Nat → Bool} {ok : Nat → Bool} {len x y pc : Nat} {ls st : List am_V} {h : am_H} {r} (e : am_ald ok len x y (pc, ls, st, h) = some r) : fr_r bd h r := by
  obtain ⟨_, _, _, _, _, e2⟩ := iv_ald e
  rw [e2]
  exact fr_0
theorem fr_ast {bd : Nat → Nat → Bool} {k vk : Nat} (hk : k < 10) {len x y pc : Nat} {ls st : List am_V} {h : am_H} {r} (e : am_ast k vk len x y (pc, ls, st, h) = some r) : fr_r bd h r := by
  obtain ⟨_, _, a, _, _, ⟨-, q, -⟩, e2⟩ := iv_ast e
  rw [e2]
  exact fr_w (Or.inl (by omega))
theorem fr_aast {bd : Nat → Nat → Bool} {len x y pc : Nat} {ls st : List am_V} {h : am_H} {r} (e : am_aast len x y (pc, ls, st, h) = some r) : fr_r bd h r := by
  obtain ⟨_, _, a, _, _, ⟨-, -, -, q, -⟩, e2⟩ := iv_aast e
  rw [e2]
  exact fr_w (Or.inl (by omega))
theorem fr_len {bd : Nat → Nat → Bool} {len x y pc : Nat} {ls st : List am_V} {h : am_H} {r} (e : am_len len x y (pc, ls, st, h) = some r) : fr_r bd h r := by
  obtain ⟨_, _, _, _, e2⟩ := iv_len e
  rw [e2]
  exact fr_0
theorem fr_dup {bd : Nat → Nat → Bool} {len x y pc : Nat} {ls st : List am_V} {h : am_H} {r} (e : am_dup len x y (pc, ls, st, h) = some r) : fr_r bd h r := by
  obtain ⟨_, _, _, _, e2⟩ := iv_dup e
  rw [e2]
  exact fr_0
theorem fr_dup2 {bd : Nat → Nat → Bool} {len x y pc : Nat} {ls st : List am_V} {h : am_H} {r} (e : am_dup2 len x y (pc, ls, st, h) = some r) : fr_r bd h r := by
  obtain ⟨_, _, _, _, _, e2⟩ := iv_dup2 e
  rw [e2]
  exact fr_0
theorem fr_pop {bd : Nat → Nat → Bool} {k : Nat} {len x y pc : Nat} {ls st : List am_V} {h : am_H} {r} (e : am_pop k len x y (pc, ls, st, h) = some r) : fr_r bd h r := by
  obtain ⟨_, _, _, _, e2⟩ := iv_pop e
  rw [e2]
  exact fr_0
theorem fr_newa {bd : Nat → Nat → Bool} {lo hi : Nat} {len x y pc : Nat} {ls st : List am_V} {h : am_H} {r} (e : am_newa lo hi len x y (pc, ls, st, h) = some r) : fr_r bd h r := by
  obtain ⟨_, _, _, _, e2⟩ := iv_newa e
  rw [e2]
  exact fr_m
theorem fr_mna {bd : Nat → Nat → Bool} {len x y pc : Nat} {ls st : List am_V} {h : am_H} {r} (e : am_mna len x y (pc, ls, st, h) = some r) : fr_r bd h r := by
  obtain ⟨_, _, _, _, _, e2⟩ := iv_mna e
  rw [e2]
  exact fr_g
theorem fr_acp {bd : Nat → Nat → Bool} {len x y pc : Nat} {ls st : List am_V} {h : am_H} {r} (e : am_acopy len x y (pc, ls, st, h) = some r) : fr_r bd h r := by
  obtain ⟨_, _, b, _, a, _, ⟨-, -, q1, q2, -⟩, e2⟩ := iv_acopy e
  rw [e2]
  exact fr_c (by omega)
theorem fr_sem {bd : Nat → Nat → Bool} {ft : am_ft} {ins : Instr} {len x y pc : Nat} {ls st : List am_V} {h : am_H} {r} (hb : ∀ i, ins = .putfield i → bd x y = false) (he : am_sem ft ins len x y (pc, ls, st, h) = some r) : fr_r bd h r := by
  cases ins
  case iload_n _ => exact fr_load (len := len) (x := x) (y := y) he
  case iload _ => exact fr_load (len := len) (x := x) (y := y) he
  case lload_n _ => exact fr_load (len := len) (x := x) (y := y) he
  case lload _ => exact fr_load (len := len) (x := x) (y := y) he
  case aload_n _ => exact fr_load (len := len) (x := x) (y := y) he
  case aload _ => exact fr_load (len := len) (x := x) (y := y) he
  case istore_n _ => exact fr_stor (len := len) (x := x) (y := y) he
  case istore _ => exact fr_stor (len := len) (x := x) (y := y) he
  case astore_n _ => exact fr_stor (len := len) (x := x) (y := y) he
  case astore _ => exact fr_stor (len := len) (x := x) (y := y) he
  case lstore_n _ => exact fr_storl (len := len) (x := x) (y := y) he
  case lstore _ => exact fr_storl (len := len) (x := x) (y := y) he
  case iinc _ _ => exact fr_iinc (len := len) (x := x) (y := y) he
  case iadd => exact fr_bin (len := len) (x := x) (y := y) he
  case isub => exact fr_bin (len := len) (x := x) (y := y) he
  case imul => exact fr_bin (len := len) (x := x) (y := y) he
  case idiv => exact fr_bin (len := len) (x := x) (y := y) he
  case irem => exact fr_bin (len := len) (x := x) (y := y) he
  case iand => exact fr_bin (len := len) (x := x) (y := y) he
  case ixor => exact fr_bin (len := len) (x := x) (y := y) he
  case ishl => exact fr_bin (len := len) (x := x) (y := y) he
  case ishr => exact fr_bin (len := len) (x := x) (y := y) he
  case ladd => exact fr_binl (len := len) (x := x) (y := y) he
  case lmul => exact fr_binl (len := len) (x := x) (y := y) he
  case ldiv => exact fr_binl (len := len) (x := x) (y := y) he
  case land => exact fr_binl (len := len) (x := x) (y := y) he
  case lor => exact fr_binl (len := len) (x := x) (y := y) he
  case lshl => exact fr_shl (len := len) (x := x) (y := y) he
  case lshr => exact fr_shl (len := len) (x := x) (y := y) he
  case lushr => exact fr_shl (len := len) (x := x) (y := y) he
  case ineg => exact fr_un (len := len) (x := x) (y := y) he
  case lneg => exact fr_unl (len := len) (x := x) (y := y) he
  case lcmp => exact fr_lcmp (len := len) (x := x) (y := y) he
  case i2l => exact fr_i2l (len := len) (x := x) (y := y) he
  case l2i => exact fr_l2i (len := len) (x := x) (y := y) he
  case ifCond _ _ => exact fr_if (len := len) (x := x) (y := y) he
  case if_icmp _ _ => exact fr_icmp (len := len) (x := x) (y := y) he
  case getfield _ => exact fr_gf (len := len) (x := x) (y := y) he
  case putfield i => exact fr_pf (len := len) (x := x) (y := y) (hb i rfl) he
  case iaload => exact fr_ald (len := len) (x := x) (y := y) (ok := fun k => k == 0) he
  case baload => exact fr_ald (len := len) (x := x) (y := y) (ok := fun k => k == 1) he
  case laload => exact fr_ald (len := len) (x := x) (y := y) (ok := fun k => k == 2) he
  case aaload => exact fr_ald (len := len) (x := x) (y := y) (ok := fun k => decide (3 ≤ k) && decide (k < 7)) he
  case iastore => exact fr_ast (k := 0) (by decide) (len := len) (x := x) (y := y) he
  case bastore => exact fr_ast (k := 1) (by decide) (len := len) (x := x) (y := y) he
  case lastore => exact fr_ast (k := 2) (by decide) (len := len) (x := x) (y := y) he
  case aastore => exact fr_aast (len := len) (x := x) (y := y) he
  case arraylength => exact fr_len (len := len) (x := x) (y := y) he
  case dup => exact fr_dup (len := len) (x := x) (y := y) he
  case dup2 => exact fr_dup2 (len := len) (x := x) (y := y) he
  case pop => exact fr_pop (len := len) (x := x) (y := y) he
  case pop2 => exact fr_pop (len := len) (x := x) (y := y) he
  case newarray _ => exact fr_newa (len := len) (x := x) (y := y) he
  case anewarray _ => exact fr_newa (len := len) (x := x) (y := y) he
  case multianewarray _ _ => exact fr_mna (len := len) (x := x) (y := y) he
  case iconst _ => cases he; exact fr_0
  case bipush _ => cases he; exact fr_0
  case sipush _ => cases he; exact fr_0
  case lconst _ => cases he; exact fr_0
  case ldc _ => cases he; exact fr_0
  case ldc2_w _ => cases he; exact fr_0
  case goto _ => cases he; exact fr_0
  case new _ => cases he; exact fr_m
  case tableswitch d lo hi offs =>
    obtain ⟨a, st2, -, q | ⟨-, o, -, q⟩⟩ := iv_sw (len := len) (x := x) (y := y) he
    · rw [q.2]; exact fr_0
    · rw [q]; exact fr_0
  case ireturn => obtain ⟨v, -, -, e2⟩ := iv_ret (len := len) (x := x) (y := y) he; rw [e2]; rfl
  case lreturn => obtain ⟨v, -, -, e2⟩ := iv_ret (len := len) (x := x) (y := y) he; rw [e2]; rfl
  case return_ => obtain ⟨-, e2⟩ := iv_retv (len := len) (x := x) (y := y) he; rw [e2]; rfl
  case invokevirtual _ =>
    rcases iv_inv (len := len) (x := x) (y := y) he with ⟨-, a, -, e2⟩ | ⟨-, e2⟩ | ⟨-, -, -, -, -, e2⟩
    · rw [e2]; exact fr_0
    · exact fr_acp (len := len) (x := x) (y := y) e2
    · rw [e2]; rfl
  case invokestatic _ =>
    rcases iv_inv (len := len) (x := x) (y := y) he with ⟨-, a, -, e2⟩ | ⟨-, e2⟩ | ⟨-, -, -, -, -, e2⟩
    · rw [e2]; exact fr_0
    · exact fr_acp (len := len) (x := x) (y := y) e2
    · rw [e2]; rfl
  case invokespecial _ =>
    rcases iv_inv (len := len) (x := x) (y := y) he with ⟨-, a, -, e2⟩ | ⟨-, e2⟩ | ⟨-, -, -, -, -, e2⟩
    · rw [e2]; exact fr_0
    · exact fr_acp (len := len) (x := x) (y := y) e2
    · rw [e2]; rfl
  all_goals cases he
/-- a method's code writes no such field, and calls only methods of G -/
def fr_ok (bd : Nat → Nat → Bool) (G : Nat → Bool) (row : am_I) : Bool := match row with
  | (.putfield _, _, x, y) => !(bd x y)
  | (.invokevirtual _, _, x, _) => x == 900 || x == 901 || G (x % 1000)
  | (.invokestatic _, _, x, _) => x == 900 || x == 901 || G (x % 1000)
  | (.invokespecial _, _, x, _) => x == 900 || x == 901 || G (x % 1000)
  | _ => true
def fr_C (bd : Nat → Nat → Bool) (G : Nat → Bool) (C : am_C) : Bool := (am_en C).all (fun q => fr_ok bd G q.2)
theorem fr_call {bd : Nat → Nat → Bool} {G : Nat → Bool} {ft : am_ft} {ins : Instr} {len x y : Nat} {t : am_S} {q : Nat × List am_V × am_S} (hk : fr_ok bd G (ins, len, x, y) = true) (he : am_sem ft ins len x y t = some (.inr (.inl q))) : G q.1 = true := by
  obtain ⟨pc, ls, st, h⟩ := t
  rcases am_kind he with ⟨t9, q9⟩ | ⟨i9, q8, q9⟩ | ⟨-, q9⟩ | ⟨-, q9⟩
  · cases q9
  · rcases iv_inv q9 with ⟨-, a, -, e2⟩ | ⟨-, e2⟩ | ⟨n1, n2, -, -, -, e2⟩
    · cases e2
    · obtain ⟨_, _, _, _, _, -, -, e3⟩ := iv_acopy e2
      cases e3
    · have e3 : q.1 = x % 1000 := by cases e2; rfl
      rw [e3]
      rcases q8 with rfl | rfl | rfl <;> (have hk : (x == 900 || x == 901 || G (x % 1000)) = true := hk; simpa [n1, n2] using hk)
  · obtain ⟨v, -, -, e2⟩ := iv_ret q9
    cases e2
  · obtain ⟨-, e2⟩ := iv_retv q9
    cases e2
theorem fr_x {bd : Nat → Nat → Bool} {G : Nat → Bool} {P : am_P} (hG : ∀ j, G j = true → ∀ M, P.2[j]? = some M → fr_C bd G M.1 = true) : ∀ (n : Nat) {C : am_C} {t : am_S} {r : Option am_V} {h2 : am_H}, fr_C bd G C = true → am_x P n C t = some (r, h2) → fr_k bd t.2.2.2 h2
  | 0, C, t, r, h2, hC, h => by cases h
  | n + 1, C, t, r, h2, hC, h => by
    obtain ⟨pc, ls, st, hp⟩ := t
    unfold am_x at h
    split at h
    · cases h
    · rename_i t2 e1
      obtain ⟨row, e0, e2⟩ := mn_1 e1
      have hr := List.all_eq_true.mp hC _ (am_en_mem e0)
      have m1 := fr_sem (bd := bd) (fun i hi => by
        obtain ⟨ins, len, x, y⟩ := row
        have hi : ins = .putfield i := hi
        subst hi
        have hr : (!(bd x y)) = true := hr
        simpa using hr) e2
      have m2 := fr_x hG n hC h
      exact fr_t m1 m2
    · rename_i q e1
      obtain ⟨row, e0, e2⟩ := mn_1 e1
      have hr := List.all_eq_true.mp hC _ (am_en_mem e0)
      have m1 := fr_sem (bd := bd) (fun i hi => by
        obtain ⟨ins, len, x, y⟩ := row
        have hi : ins = .putfield i := hi
        subst hi
        have hr : (!(bd x y)) = true := hr
        simpa using hr) e2
      have m1 : q.2.2.2.2.2 = hp := m1
      have hg := fr_call (G := G) (bd := bd) hr e2
      split at h
      · cases h
      · rename_i M hM
        split at h
        · split at h
          · cases h
          · rename_i rr hcal
            have m2 := fr_x hG n (hG _ hg M hM) hcal
            have m3 := fr_x hG n hC h
            have m2 : fr_k bd q.2.2.2.2.2 rr.2 := m2
            rw [m1] at m2
            exact fr_t m2 m3
        · cases h
    · rename_i q e1
      obtain ⟨row, e0, e2⟩ := mn_1 e1
      have hr := List.all_eq_true.mp hC _ (am_en_mem e0)
      have m1 := fr_sem (bd := bd) (fun i hi => by
        obtain ⟨ins, len, x, y⟩ := row
        have hi : ins = .putfield i := hi
        subst hi
        have hr : (!(bd x y)) = true := hr
        simpa using hr) e2
      have m1 : q.2 = hp := m1
      have hq := Option.some.inj h
      subst hq
      have m1 : h2 = hp := m1
      subst m1
      exact fr_0
/-! The class: answers of partner and plain. Printed by wip/p20/sx/gEX.py. -/

/-- partner's answer -/
def pt_a (n b p : Int) : Int := if (1 ≤ n ∧ n ≤ 4 ∧ 0 ≤ b ∧ b < bx_K n) ∧ 0 ≤ p ∧ p < 2 * n then prt n b p else -1
/-- plain's answer -/
def pl_a (n l : Int) : Int := if (1 ≤ n ∧ n ≤ 4) ∧ (l = 0 ∨ ((1 ≤ l ∧ l < n) ∨ (11 ≤ l ∧ l < 10 + n))) then nu_o (bx_ol n.toNat l) (2 * n) 9 0 0 (2 * n - 1) else -1

theorem qe_X4_partner {m s : Nat} {F : aq_F} {c : aq_C} (hC : sb_C m F) (hI : cl_I c) {nn b p : Int} : am_E ac_X4_partner (0, [vR 0, vI nn, vI b, vI p], [], aq_h m s F c) (aq_Z m s F (fun a => a < 527) c (fun r d => r = some (vI (pt_a nn b p)) ∧ cl_I d)) := by
  obtain ⟨hCm, hC0, hC1, hC2, hC3, ⟨hma4, hFa4, hFn4, hFp4, hFf4⟩, ⟨hmx, hFx, hFl, hFw⟩, hCs, hCb, hCh⟩ := id hC
  refine am_E.go (t2 := (1, [vR 0, vI nn, vI b, vI p], [vR 0], aq_h m s F c)) rfl rfl ?_
  refine am_E.go (t2 := (2, [vR 0, vI nn, vI b, vI p], [vI nn, vR 0], aq_h m s F c)) rfl rfl ?_
  refine am_E.go (t2 := (3, [vR 0, vI nn, vI b, vI p], [vI b, vI nn, vR 0], aq_h m s F c)) rfl rfl ?_
  refine aq_callv (y := 3) (as2 := [vI nn, vI b]) (rest := []) rfl rfl (by decide) (Nat.le_of_ble_eq_true rfl) rfl rfl (Nat.le_of_ble_eq_true rfl) (by omega) hC0 rfl (Nat.le_of_ble_eq_true rfl) (qn_X4_isBox hC) ?_
  rintro r5 h5 ⟨rfl, v_1, rfl, hv_1⟩
  show am_E _ (6, [vR 0, vI nn, vI b, vI p], [vI v_1], aq_h m s F c) _
  refine ae_if0 rfl (fun (q_2 : v_1 = 0) => ?_) (fun (q_2 : v_1 ≠ 0) => ?_)
  · refine am_E.go (t2 := (21, [vR 0, vI nn, vI b, vI p], [vI (-1)], aq_h m s F c)) rfl rfl ?_
    refine am_E.ret rfl rfl ?_
    exact ⟨_, rfl, (aq_sm0 (S := fun a => a < 527)), by rw [pt_a, if_neg (by omega)], hI⟩
  · refine am_E.go (t2 := (10, [vR 0, vI nn, vI b, vI p], [vI p], aq_h m s F c)) rfl rfl ?_
    refine ae_if0 rfl (fun (q_3 : p < 0) => ?_) (fun (q_3 : 0 ≤ p) => ?_)
    · refine am_E.go (t2 := (21, [vR 0, vI nn, vI b, vI p], [vI (-1)], aq_h m s F c)) rfl rfl ?_
      refine am_E.ret rfl rfl ?_
      exact ⟨_, rfl, (aq_sm0 (S := fun a => a < 527)), by rw [pt_a, if_neg (by omega)], hI⟩
    · refine am_E.go (t2 := (14, [vR 0, vI nn, vI b, vI p], [vI p], aq_h m s F c)) rfl rfl ?_
      refine am_E.go (t2 := (15, [vR 0, vI nn, vI b, vI p], [vI 2, vI p], aq_h m s F c)) rfl rfl ?_
      refine am_E.go (t2 := (16, [vR 0, vI nn, vI b, vI p], [vI nn, vI 2, vI p], aq_h m s F c)) rfl rfl ?_
      refine ae_mul rfl (am_ri (by omega) (by omega)) ?_
      show am_E _ (17, [vR 0, vI nn, vI b, vI p], [vI (2 * nn), vI p], aq_h m s F c) _
      refine ae_icmp rfl (fun (q_4 : p < (2 * nn)) => ?_) (fun (q_4 : (2 * nn) ≤ p) => ?_)
      · refine am_E.go (t2 := (23, [vR 0, vI nn, vI b, vI p], [vR 0], aq_h m s F c)) rfl rfl ?_
        refine aq_gf (v := vR 1) rfl (by omega) hC0 (by decide) rfl ?_
        show am_E _ (26, [vR 0, vI nn, vI b, vI p], [vR 1], aq_h m s F c) _
        refine am_E.go (t2 := (27, [vR 0, vI nn, vI b, vI p], [vI nn, vR 1], aq_h m s F c)) rfl rfl ?_
        refine am_E.go (t2 := (28, [vR 0, vI nn, vI b, vI p], [vI 1, vI nn, vR 1], aq_h m s F c)) rfl rfl ?_
        refine ae_sub rfl (am_ri (by omega) (by omega)) ?_
        show am_E _ (29, [vR 0, vI nn, vI b, vI p], [vI (nn - 1), vR 1], aq_h m s F c) _
        obtain ⟨o, n, K, e_o, e_n, e_K, e_j, e_k, tP, tG, tN, tR, tL, ⟨hm, hn1, hn4, hK, hFo, hFd, hFs⟩, ⟨hPg, hPr, hPt⟩, ⟨hL, hGg, hGr, hNg, hNr, hLt, hGt, hNt⟩, ⟨hR, hRt⟩, hst, hex⟩ := sb_box hC (i := (nn - 1)) (by omega) (by omega)
        have hb := sb_bnd ((nn - 1)).toNat (by omega)
        rw [e_o, e_k] at hb
        have hbK : (K : Int) = bx_K nn := by rw [e_K]; congr 1; omega
        refine aq_al (ok := fun k => decide (3 ≤ k) && decide (k < 7)) (v := vR o) rfl rfl (by omega) hC1 rfl (by omega) (by omega) (aq_gi2 (by omega) e_o) ?_
        show am_E _ (30, [vR 0, vI nn, vI b, vI p], [vR o], aq_h m s F c) _
        refine aq_gf (v := vR (o + 1)) rfl (by omega) hFo (by decide) rfl ?_
        show am_E _ (33, [vR 0, vI nn, vI b, vI p], [vR (o + 1)], aq_h m s F c) _
        refine am_E.go (t2 := (34, [vR 0, vI nn, vI b, vI p], [vI b, vR (o + 1)], aq_h m s F c)) rfl rfl ?_
        refine aq_al (ok := fun k => decide (3 ≤ k) && decide (k < 7)) (v := vR (o + 2 + b.toNat)) rfl rfl (by omega) hPg rfl (by omega) (by omega) (aq_gi (by omega)) ?_
        show am_E _ (35, [vR 0, vI nn, vI b, vI p], [vR (o + 2 + b.toNat)], aq_h m s F c) _
        refine am_E.go (t2 := (36, [vR 0, vI nn, vI b, vI p], [vI p, vR (o + 2 + b.toNat)], aq_h m s F c)) rfl rfl ?_
        refine aq_alt (ok := fun k => k == 0) rfl rfl (by omega) (hPr _ (by omega)) rfl (by omega) (by omega) ?_
        show am_E _ (37, [vR 0, vI nn, vI b, vI p], [vI (tP ((b.toNat : Nat) : Int) p)], aq_h m s F c) _
        have f_5 := hPt ((b.toNat : Nat) : Int) p (by omega) (by omega) (by omega) (by omega)
        refine am_E.ret rfl rfl ?_
        refine ⟨_, rfl, (aq_sm0 (S := fun a => a < 527)), ?_, hI⟩
        rw [pt_a, if_pos (by omega), (hPt ((b.toNat : Nat) : Int) p (by omega) (by omega) (by omega) (by omega)).2.2, Int.toNat_of_nonneg (by omega), show (n : Int) = nn by omega]
      · refine am_E.go (t2 := (21, [vR 0, vI nn, vI b, vI p], [vI (-1)], aq_h m s F c)) rfl rfl ?_
        refine am_E.ret rfl rfl ?_
        exact ⟨_, rfl, (aq_sm0 (S := fun a => a < 527)), by rw [pt_a, if_neg (by omega)], hI⟩

theorem qe_X4_plain {m s : Nat} {F : aq_F} {c : aq_C} (hC : sb_C m F) (hI : cl_I c) {nn l : Int} : am_E ac_X4_plain (0, [vR 0, vI nn, vI l], [], aq_h m s F c) (aq_Z m s F (fun a => a < 527) c (fun r d => r = some (vI (pl_a nn l)) ∧ cl_I d)) := by
  obtain ⟨hCm, hC0, hC1, hC2, hC3, ⟨hma4, hFa4, hFn4, hFp4, hFf4⟩, ⟨hmx, hFx, hFl, hFw⟩, hCs, hCb, hCh⟩ := id hC
  refine am_E.go (t2 := (1, [vR 0, vI nn, vI l], [vI nn], aq_h m s F c)) rfl rfl ?_
  refine am_E.call rfl rfl rfl (Nat.le_of_ble_eq_true rfl) (qn_X4_isStrands) ?_
  rintro r5 h5 ⟨rfl, v_1, rfl, hv_1⟩
  show am_E _ (4, [vR 0, vI nn, vI l], [vI v_1], aq_h m s F c) _
  refine ae_if0 rfl (fun (q_2 : v_1 ≠ 0) => ?_) (fun (q_2 : v_1 = 0) => ?_)
  · refine am_E.go (t2 := (10, [vR 0, vI nn, vI l], [vR 0], aq_h m s F c)) rfl rfl ?_
    refine aq_gf (v := vR 1) rfl (by omega) hC0 (by decide) rfl ?_
    show am_E _ (13, [vR 0, vI nn, vI l], [vR 1], aq_h m s F c) _
    refine am_E.go (t2 := (14, [vR 0, vI nn, vI l], [vI nn, vR 1], aq_h m s F c)) rfl rfl ?_
    refine am_E.go (t2 := (15, [vR 0, vI nn, vI l], [vI 1, vI nn, vR 1], aq_h m s F c)) rfl rfl ?_
    refine ae_sub rfl (am_ri (by omega) (by omega)) ?_
    show am_E _ (16, [vR 0, vI nn, vI l], [vI (nn - 1), vR 1], aq_h m s F c) _
    obtain ⟨o, n, K, e_o, e_n, e_K, e_j, e_k, tP, tG, tN, tR, tL, ⟨hm, hn1, hn4, hK, hFo, hFd, hFs⟩, ⟨hPg, hPr, hPt⟩, ⟨hL, hGg, hGr, hNg, hNr, hLt, hGt, hNt⟩, ⟨hR, hRt⟩, hst, hex⟩ := sb_box hC (i := (nn - 1)) (by omega) (by omega)
    have hb := sb_bnd ((nn - 1)).toNat (by omega)
    rw [e_o, e_k] at hb
    have hbK : (K : Int) = bx_K nn := by rw [e_K]; congr 1; omega
    refine aq_al (ok := fun k => decide (3 ≤ k) && decide (k < 7)) (v := vR o) rfl rfl (by omega) hC1 rfl (by omega) (by omega) (aq_gi2 (by omega) e_o) ?_
    show am_E _ (17, [vR 0, vI nn, vI l], [vR o], aq_h m s F c) _
    refine am_E.go (t2 := (18, [vR 0, vI nn, vI l], [vI l, vR o], aq_h m s F c)) rfl rfl ?_
    refine aq_callv (y := 2) (as2 := [vI l]) (rest := []) rfl rfl (by decide) (Nat.le_of_ble_eq_true rfl) rfl rfl (Nat.le_of_ble_eq_true rfl) (by omega) hFo rfl (Nat.le_of_ble_eq_true rfl) (qn_X0_ofLetter (S := fun a => a = o + 6 + 3 * K ∨ a = o + 7 + 3 * K) ⟨hm, hn1, hn4, hK, hFo, hFd, hFs⟩ (Or.inl rfl) (Or.inr rfl) (by have h9 := hI.1 ((nn - 1)).toNat (by omega); rw [e_o, e_k, ← e_j] at h9; exact h9)) ?_
    rintro r5 h5 ⟨c_b, rfl, s_b, hr_b, hq_b⟩
    have hcl := cl_b hI (j := ((nn - 1)).toNat) (by omega) (by rw [e_o, e_k]; exact s_b) (by rw [e_o, e_k, ← e_j]; exact hr_b)
    have en : n = nn.toNat := by omega
    have e2 : (n : Int) = nn := by omega
    obtain rfl : r5 = some (vI (pl_a nn l)) := by
      rcases hq_b with ⟨q1, q2⟩ | ⟨q1, q2, q3⟩
      · rw [q2, pl_a, if_neg (fun q => q1 (by rw [e2]; exact q.2))]
      · have en2 := nu_oc (N := 2 * (n : Int)) q2 (fun i k0 k1 => by have := hr_b i k0 k1; omega) 9 0 0 (2 * (n : Int) - 1) (by omega)
        rw [q3, en2, pl_a, if_pos ⟨⟨by omega, by omega⟩, by rw [← e2]; exact q1⟩, e2, en]
    show am_E _ (21, [vR 0, vI nn, vI l], [vI (pl_a nn l)], aq_h m s F c_b) _
    exact am_E.ret rfl rfl ⟨_, rfl, aq_smi s_b (fun a h => by omega), rfl, hcl⟩
  · refine am_E.go (t2 := (8, [vR 0, vI nn, vI l], [vI (-1)], aq_h m s F c)) rfl rfl ?_
    refine am_E.ret rfl rfl ?_
    exact ⟨_, rfl, (aq_sm0 (S := fun a => a < 527)), by rw [pl_a, if_neg (by omega)], hI⟩
/-! The reference: answers of partner and plain. Printed by wip/p20/sx/gEXm.py. -/

theorem qe_X5_partner {m s : Nat} {F : aq_F} {c : aq_C} {y : Nat} (hC : mo_C m F y) (hI : mo_I y c) {n bb p : Int} : am_E ac_X5_partner (0, [vR y, vI n, vI bb, vI p], [], aq_h m s F c) (aq_Z m s F (fun a => y ≤ a ∧ a < y + 24) c (fun r d => r = some (vI (pt_a n bb p)) ∧ mo_I y d)) := by
  obtain ⟨⟨hm, hFo, hG5, hG6, hG7, hG8, hG9, hG10, hG11, hG12, hG13, hG14, hG15, hG16, hG17, hG18, hG19, hG20, hG21, hG22, hG23⟩, ⟨tbl, hT1, hTt⟩, ⟨tA, tB, tD, hL1, hL2, hL3, hLt⟩⟩ := hC
  have hfs := mo_fs n
  refine am_E.go (t2 := (1, [vR y, vI n, vI bb, vI p], [vI n], aq_h m s F c)) rfl rfl ?_
  refine am_E.go (t2 := (2, [vR y, vI n, vI bb, vI p], [vI bb, vI n], aq_h m s F c)) rfl rfl ?_
  refine am_E.call rfl rfl rfl (Nat.le_of_ble_eq_true rfl) (qm_isBox) ?_
  rintro r5 h5 ⟨rfl, v_1, rfl, hv_1⟩
  show am_E _ (5, [vR y, vI n, vI bb, vI p], [vI v_1], aq_h m s F c) _
  refine ae_if0 rfl (fun (q_2 : v_1 = 0) => ?_) (fun (q_2 : v_1 ≠ 0) => ?_)
  · refine am_E.go (t2 := (39, [vR y, vI n, vI bb, vI p], [vI (-1)], aq_h m s F c)) rfl rfl ?_
    refine am_E.ret rfl rfl ?_
    exact ⟨_, rfl, (aq_sm0 (c := c) (S := fun a => y ≤ a ∧ a < y + 24)), by rw [pt_a, if_neg (by omega)], hI⟩
  · refine am_E.go (t2 := (9, [vR y, vI n, vI bb, vI p], [vI p], aq_h m s F c)) rfl rfl ?_
    refine am_E.go (t2 := (10, [vR y, vI n, vI bb, vI p], [vL p], aq_h m s F c)) rfl rfl ?_
    refine am_E.go (t2 := (11, [vR y, vI n, vI bb, vI p], [vL 0, vL p], aq_h m s F c)) rfl rfl ?_
    refine am_E.go (t2 := (12, [vR y, vI n, vI bb, vI p], [vI 2, vL 0, vL p], aq_h m s F c)) rfl rfl ?_
    refine am_E.go (t2 := (13, [vR y, vI n, vI bb, vI p], [vI n, vI 2, vL 0, vL p], aq_h m s F c)) rfl rfl ?_
    refine ae_mul rfl (am_ri (by omega) (by omega)) ?_
    show am_E _ (14, [vR y, vI n, vI bb, vI p], [vI (2 * n), vL 0, vL p], aq_h m s F c) _
    refine am_E.go (t2 := (15, [vR y, vI n, vI bb, vI p], [vI 1, vI (2 * n), vL 0, vL p], aq_h m s F c)) rfl rfl ?_
    refine ae_sub rfl (am_ri (by omega) (by omega)) ?_
    show am_E _ (16, [vR y, vI n, vI bb, vI p], [vI ((2 * n) - 1), vL 0, vL p], aq_h m s F c) _
    refine am_E.go (t2 := (17, [vR y, vI n, vI bb, vI p], [vL ((2 * n) - 1), vL 0, vL p], aq_h m s F c)) rfl rfl ?_
    refine am_E.call rfl rfl rfl (Nat.le_of_ble_eq_true rfl) (qm_in) ?_
    rintro r5 h5 ⟨rfl, v_3, rfl, hv_3⟩
    show am_E _ (20, [vR y, vI n, vI bb, vI p], [vI v_3], aq_h m s F c) _
    refine ae_if0 rfl (fun (q_4 : v_3 = 0) => ?_) (fun (q_4 : v_3 ≠ 0) => ?_)
    · refine am_E.go (t2 := (39, [vR y, vI n, vI bb, vI p], [vI (-1)], aq_h m s F c)) rfl rfl ?_
      refine am_E.ret rfl rfl ?_
      exact ⟨_, rfl, (aq_sm0 (c := c) (S := fun a => y ≤ a ∧ a < y + 24)), by rw [pt_a, if_neg (by omega)], hI⟩
    · refine am_E.go (t2 := (24, [vR y, vI n, vI bb, vI p], [vR y], aq_h m s F c)) rfl rfl ?_
      refine aq_gf (v := vR (y + 1)) rfl (by omega) hFo (by decide) rfl ?_
      show am_E _ (27, [vR y, vI n, vI bb, vI p], [vR (y + 1)], aq_h m s F c) _
      refine am_E.go (t2 := (28, [vR y, vI n, vI bb, vI p], [vI n, vR (y + 1)], aq_h m s F c)) rfl rfl ?_
      refine am_E.go (t2 := (29, [vR y, vI n, vI bb, vI p], [vI bb, vI n, vR (y + 1)], aq_h m s F c)) rfl rfl ?_
      refine am_E.call rfl rfl rfl (Nat.le_of_ble_eq_true rfl) (qm_at (by omega) (by omega)) ?_
      rintro r5 h5 ⟨rfl, xa, rfl, hxa⟩
      show am_E _ (32, [vR y, vI n, vI bb, vI p], [vI xa, vR (y + 1)], aq_h m s F c) _
      refine am_E.go (t2 := (33, [vR y, vI n, vI bb, vI p], [vI p, vI xa, vR (y + 1)], aq_h m s F c)) rfl rfl ?_
      refine ae_add rfl (am_ri (by omega) (by omega)) ?_
      show am_E _ (34, [vR y, vI n, vI bb, vI p], [vI (xa + p), vR (y + 1)], aq_h m s F c) _
      refine aq_alt (ok := fun k => k == 0) rfl rfl (by omega) hT1 rfl (by omega) (by omega) ?_
      show am_E _ (35, [vR y, vI n, vI bb, vI p], [vI (tbl (xa + p))], aq_h m s F c) _
      refine am_E.go (t2 := (39, [vR y, vI n, vI bb, vI p], [vI (tbl (xa + p))], aq_h m s F c)) rfl rfl ?_
      refine am_E.ret rfl rfl ?_
      refine ⟨_, rfl, (aq_sm0 (c := c) (S := fun a => y ≤ a ∧ a < y + 24)), ?_, hI⟩
      rw [show (xa + p) = 8 * (mo_f n + bb) + p by omega, hTt n bb p (by omega) (by omega) (by omega) (by omega) (by omega) (by omega), pt_a, if_pos (by omega)]

theorem pl_e1 : ∀ l : Nat, l < 14 → (l = 0 ∨ ((1 ≤ l ∧ l < 1) ∨ (11 ≤ l ∧ l < 10 + 1))) → ∀ i : Nat, i < 2 → mo_pl 1 l i = bx_ol 1 l i := by decide +kernel
theorem pl_e2 : ∀ l : Nat, l < 14 → (l = 0 ∨ ((1 ≤ l ∧ l < 2) ∨ (11 ≤ l ∧ l < 10 + 2))) → ∀ i : Nat, i < 4 → mo_pl 2 l i = bx_ol 2 l i := by decide +kernel
theorem pl_e3 : ∀ l : Nat, l < 14 → (l = 0 ∨ ((1 ≤ l ∧ l < 3) ∨ (11 ≤ l ∧ l < 10 + 3))) → ∀ i : Nat, i < 6 → mo_pl 3 l i = bx_ol 3 l i := by decide +kernel
theorem pl_e4 : ∀ l : Nat, l < 14 → (l = 0 ∨ ((1 ≤ l ∧ l < 4) ∨ (11 ≤ l ∧ l < 10 + 4))) → ∀ i : Nat, i < 8 → mo_pl 4 l i = bx_ol 4 l i := by decide +kernel
theorem pl_e {n l i : Int} (h1 : 1 ≤ n) (h4 : n ≤ 4) (hl : l = 0 ∨ ((1 ≤ l ∧ l < n) ∨ (11 ≤ l ∧ l < 10 + n))) (h0 : 0 ≤ i) (hi : i < 2 * n) : mo_pl n l i = bx_ol n.toNat l i := by
  have el : ((l.toNat : Nat) : Int) = l := Int.toNat_of_nonneg (by omega)
  have ei : ((i.toNat : Nat) : Int) = i := Int.toNat_of_nonneg h0
  have h : n = 1 ∨ n = 2 ∨ n = 3 ∨ n = 4 := by omega
  rcases h with h | h | h | h <;> subst h
  · have := pl_e1 l.toNat (by omega) (by omega) i.toNat (by omega)
    rw [el, ei] at this
    exact this
  · have := pl_e2 l.toNat (by omega) (by omega) i.toNat (by omega)
    rw [el, ei] at this
    exact this
  · have := pl_e3 l.toNat (by omega) (by omega) i.toNat (by omega)
    rw [el, ei] at this
    exact this
  · have := pl_e4 l.toNat (by omega) (by omega) i.toNat (by omega)
    rw [el, ei] at this
    exact this
/-- the number of a box, by its pairing -/
theorem nu_v {n v : Int} {f : Int → Int} (h1 : 1 ≤ n) (h4 : n ≤ 4) (h0 : 0 ≤ v) (hv : v < bx_K n) (h : ∀ i, 0 ≤ i → i < 2 * n → prt n v i = f i) : nu_o f (2 * n) 9 0 0 (2 * n - 1) = v := by
  rw [← nu_oc (N := 2 * n) h (fun i k0 k1 => by have := pr_fi h1 h4 h0 hv i k0 k1; omega) 9 0 0 (2 * n - 1) (by omega)]
  exact nu_b h1 h4 h0 hv

theorem qe_X5_plain {m s : Nat} {F : aq_F} {c : aq_C} {y : Nat} (hC : mo_C m F y) (hI : mo_I y c) {n l : Int} : am_E ac_X5_plain (0, [vR y, vI n, vI l], [], aq_h m s F c) (aq_Z m s F (fun a => y ≤ a ∧ a < y + 24) c (fun r d => r = some (vI (pl_a n l)) ∧ mo_I y d)) := by
  obtain ⟨⟨hm, hFo, hG5, hG6, hG7, hG8, hG9, hG10, hG11, hG12, hG13, hG14, hG15, hG16, hG17, hG18, hG19, hG20, hG21, hG22, hG23⟩, ⟨tbl, hT1, hTt⟩, ⟨tA, tB, tD, hL1, hL2, hL3, hLt⟩⟩ := hC
  refine am_E.go (t2 := (1, [vR y, vI n, vI l], [vI n], aq_h m s F c)) rfl rfl ?_
  refine am_E.call rfl rfl rfl (Nat.le_of_ble_eq_true rfl) (qm_isWide) ?_
  rintro r5 h5 ⟨rfl, v_1, rfl, hv_1⟩
  show am_E _ (4, [vR y, vI n, vI l], [vI v_1], aq_h m s F c) _
  refine ae_if0 rfl (fun (q_2 : v_1 = 0) => ?_) (fun (q_2 : v_1 ≠ 0) => ?_)
  · refine am_E.go (t2 := (20, [vR y, vI n, vI l], [vI (-1)], aq_h m s F c)) rfl rfl ?_
    refine am_E.go (t2 := (29, [vR y, vI n, vI l], [vI (-1)], aq_h m s F c)) rfl rfl ?_
    refine am_E.ret rfl rfl ?_
    exact ⟨_, rfl, (aq_sm0 (c := c) (S := fun a => y ≤ a ∧ a < y + 24)), by rw [pl_a, if_neg (by omega)], hI⟩
  · refine am_E.go (t2 := (8, [vR y, vI n, vI l], [vI l], aq_h m s F c)) rfl rfl ?_
    refine ae_if0 rfl (fun (q_3 : l = 0) => ?_) (fun (q_3 : l ≠ 0) => ?_)
    · refine am_E.go (t2 := (24, [vR y, vI n, vI l], [vR y], aq_h m s F c)) rfl rfl ?_
      refine am_E.go (t2 := (25, [vR y, vI n, vI l], [vI n, vR y], aq_h m s F c)) rfl rfl ?_
      refine am_E.go (t2 := (26, [vR y, vI n, vI l], [vI l, vI n, vR y], aq_h m s F c)) rfl rfl ?_
      refine aq_callv (y := 3) (as2 := [vI n, vI l]) (rest := []) rfl rfl (by decide) (Nat.le_of_ble_eq_true rfl) rfl rfl (Nat.le_of_ble_eq_true rfl) (by omega) hFo rfl (Nat.le_of_ble_eq_true rfl) (qm_plainBox (S := fun a => a = y + 12) ⟨hm, hFo, hG5, hG6, hG7, hG8, hG9, hG10, hG11, hG12, hG13, hG14, hG15, hG16, hG17, hG18, hG19, hG20, hG21, hG22, hG23⟩ rfl ⟨hT1, hTt⟩ (by omega) (by omega) (by omega)) ?_
      rintro r5 h5 ⟨c_b, rfl, s_b, v_b, rfl, hv1_b, hv2_b, hv3_b⟩
      show am_E _ (29, [vR y, vI n, vI l], [vI v_b], aq_h m s F c_b) _
      refine am_E.ret rfl rfl ?_
      refine ⟨_, rfl, (aq_smt (aq_sm0 (c := c) (S := fun a => y ≤ a ∧ a < y + 24)) (aq_smi s_b (fun a h => by omega))), ?_, mo_Is hI s_b (mo_ks mo_k0 s_b (by omega)) (by omega) (by omega) (by omega) (by omega) (by omega)⟩
      rw [pl_a, if_pos (by omega), nu_v (by omega) (by omega) hv1_b hv2_b (fun i k0 k1 => by rw [hv3_b i k0 k1]; exact pl_e (by omega) (by omega) (by omega) k0 k1)]
    · refine am_E.go (t2 := (12, [vR y, vI n, vI l], [vI n], aq_h m s F c)) rfl rfl ?_
      refine am_E.go (t2 := (13, [vR y, vI n, vI l], [vI l, vI n], aq_h m s F c)) rfl rfl ?_
      refine am_E.call rfl rfl rfl (Nat.le_of_ble_eq_true rfl) (qm_isLetter (by omega) (by omega)) ?_
      rintro r5 h5 ⟨rfl, v_4, rfl, hv_4⟩
      show am_E _ (16, [vR y, vI n, vI l], [vI v_4], aq_h m s F c) _
      refine ae_if0 rfl (fun (q_5 : v_4 ≠ 0) => ?_) (fun (q_5 : v_4 = 0) => ?_)
      · refine am_E.go (t2 := (24, [vR y, vI n, vI l], [vR y], aq_h m s F c)) rfl rfl ?_
        refine am_E.go (t2 := (25, [vR y, vI n, vI l], [vI n, vR y], aq_h m s F c)) rfl rfl ?_
        refine am_E.go (t2 := (26, [vR y, vI n, vI l], [vI l, vI n, vR y], aq_h m s F c)) rfl rfl ?_
        refine aq_callv (y := 3) (as2 := [vI n, vI l]) (rest := []) rfl rfl (by decide) (Nat.le_of_ble_eq_true rfl) rfl rfl (Nat.le_of_ble_eq_true rfl) (by omega) hFo rfl (Nat.le_of_ble_eq_true rfl) (qm_plainBox (S := fun a => a = y + 12) ⟨hm, hFo, hG5, hG6, hG7, hG8, hG9, hG10, hG11, hG12, hG13, hG14, hG15, hG16, hG17, hG18, hG19, hG20, hG21, hG22, hG23⟩ rfl ⟨hT1, hTt⟩ (by omega) (by omega) (by omega)) ?_
        rintro r5 h5 ⟨c_b, rfl, s_b, v_b, rfl, hv1_b, hv2_b, hv3_b⟩
        show am_E _ (29, [vR y, vI n, vI l], [vI v_b], aq_h m s F c_b) _
        refine am_E.ret rfl rfl ?_
        refine ⟨_, rfl, (aq_smt (aq_sm0 (c := c) (S := fun a => y ≤ a ∧ a < y + 24)) (aq_smi s_b (fun a h => by omega))), ?_, mo_Is hI s_b (mo_ks mo_k0 s_b (by omega)) (by omega) (by omega) (by omega) (by omega) (by omega)⟩
        rw [pl_a, if_pos (by omega), nu_v (by omega) (by omega) hv1_b hv2_b (fun i k0 k1 => by rw [hv3_b i k0 k1]; exact pl_e (by omega) (by omega) (by omega) k0 k1)]
      · refine am_E.go (t2 := (20, [vR y, vI n, vI l], [vI (-1)], aq_h m s F c)) rfl rfl ?_
        refine am_E.go (t2 := (29, [vR y, vI n, vI l], [vI (-1)], aq_h m s F c)) rfl rfl ?_
        refine am_E.ret rfl rfl ?_
        exact ⟨_, rfl, (aq_sm0 (c := c) (S := fun a => y ≤ a ∧ a < y + 24)), by rw [pl_a, if_neg (by omega)], hI⟩
/-! The class: the answers of halves. Printed by wip/p20/sx/gEH.py. -/

/-- how many of the first z have t left -/
def cl_t (z t : Int) (tl : Int → Int) : Nat → Int → Int → Int
  | 0, _, x => x
  | d + 1, h, x => if h < z then cl_t z t tl d (h + 1) (x + if tl h = t then 1 else 0) else x
theorem cl_tc {z t : Int} {f g : Int → Int} (h : ∀ i, 0 ≤ i → i < z → f i = g i) : ∀ (d : Nat) (p x : Int), 0 ≤ p → cl_t z t f d p x = cl_t z t g d p x
  | 0, _, _, _ => rfl
  | d + 1, p, x, hp => by
    rw [cl_t, cl_t]
    by_cases e : p < z
    · rw [if_pos e, if_pos e, h p hp e, cl_tc h d (p + 1) _ (by omega)]
    · rw [if_neg e, if_neg e]
/-- the answer of halves -/
def hs_a (n t : Int) : Int := if 1 ≤ n ∧ n ≤ 4 ∧ 0 ≤ t ∧ t ≤ n then hv_N n t else -1
theorem hs_e1 : ∀ n : Nat, 1 ≤ n → n ≤ 4 → ∀ t : Nat, t ≤ n → cl_t (hx_z n) t (hx_l n) 7 0 0 = hv_N n t := by
  intro n h1 h4
  have hn : n = 1 ∨ n = 2 ∨ n = 3 ∨ n = 4 := by omega
  rcases hn with hn | hn | hn | hn <;> subst hn <;> decide
theorem hs_e {n t : Int} (h1 : 1 ≤ n) (h4 : n ≤ 4) (h0 : 0 ≤ t) (ht : t ≤ n) : cl_t (hx_z n) t (hx_l n) 7 0 0 = hv_N n t := by
  have := hs_e1 n.toNat (by omega) (by omega) t.toNat (by omega)
  rw [Int.toNat_of_nonneg (by omega), Int.toNat_of_nonneg h0] at this
  exact this

theorem qy_leaving_l {m s : Nat} {F : aq_F} {c : aq_C} {o n z : Nat} {tl : Int → Int} {th : Int → Int → Int} (hH : hv_0 m F o n z tl th) {t T : Int} : ∀ (d : Nat) (x : Int) (h : Int) (h0 : 0 ≤ h) (h1 : h ≤ (z : Int)) (h2 : 0 ≤ x) (h3 : x ≤ h) (ht : cl_t (z : Int) t tl d h x = T) (hd : (z : Int) - h < (d : Int)), am_E ac_X2_countLeaving (4, [vR o, vI t, vI x, vI h], [], aq_h m s F c) (aq_P m s F c (fun r => r = some (vI T)))
  | 0, x, h, h0, h1, h2, h3, ht, hd => by exfalso; omega
  | d + 1, x, h, h0, h1, h2, h3, ht, hd => by
    obtain ⟨hm, hn1, hn4, hz6, hFo, hFl, hFg, hFt, hFp, hFq, hFd, hFs, hht⟩ := hH
    refine am_E.go (t2 := (5, [vR o, vI t, vI x, vI h], [vI h], aq_h m s F c)) rfl rfl ?_
    refine am_E.go (t2 := (6, [vR o, vI t, vI x, vI h], [vR o, vI h], aq_h m s F c)) rfl rfl ?_
    refine aq_gf (v := vI (z : Int)) rfl (by omega) hFo (by decide) rfl ?_
    show am_E _ (9, [vR o, vI t, vI x, vI h], [vI (z : Int), vI h], aq_h m s F c) _
    refine ae_icmp rfl (fun (q_1 : (z : Int) ≤ h) => ?_) (fun (q_1 : h < (z : Int)) => ?_)
    · refine am_E.go (t2 := (37, [vR o, vI t, vI x, vI h], [vI x], aq_h m s F c)) rfl rfl ?_
      refine am_E.ret rfl rfl ?_
      refine ⟨rfl, ?_⟩
      rw [← ht, cl_t, if_neg (by omega)]
    · refine am_E.go (t2 := (13, [vR o, vI t, vI x, vI h], [vI x], aq_h m s F c)) rfl rfl ?_
      refine am_E.go (t2 := (14, [vR o, vI t, vI x, vI h], [vR o, vI x], aq_h m s F c)) rfl rfl ?_
      refine aq_gf (v := vR (o + 1)) rfl (by omega) hFo (by decide) rfl ?_
      show am_E _ (17, [vR o, vI t, vI x, vI h], [vR (o + 1), vI x], aq_h m s F c) _
      refine am_E.go (t2 := (18, [vR o, vI t, vI x, vI h], [vI h, vR (o + 1), vI x], aq_h m s F c)) rfl rfl ?_
      refine aq_alt (ok := fun k => k == 0) rfl rfl (by omega) hFl rfl (by omega) (by omega) ?_
      show am_E _ (19, [vR o, vI t, vI x, vI h], [vI (tl h), vI x], aq_h m s F c) _
      refine am_E.go (t2 := (20, [vR o, vI t, vI x, vI h], [vI t, vI (tl h), vI x], aq_h m s F c)) rfl rfl ?_
      refine ae_icmp rfl (fun (q_2 : (tl h) ≠ t) => ?_) (fun (q_2 : (tl h) = t) => ?_)
      · refine am_E.go (t2 := (28, [vR o, vI t, vI x, vI h], [vI 0, vI x], aq_h m s F c)) rfl rfl ?_
        refine ae_add rfl (am_ri (by omega) (by omega)) ?_
        show am_E _ (29, [vR o, vI t, vI x, vI h], [vI (x + 0)], aq_h m s F c) _
        refine am_E.go (t2 := (30, [vR o, vI t, vI (x + 0), vI h], [], aq_h m s F c)) rfl rfl ?_
        refine ae_iinc rfl rfl (am_ri (by omega) (by omega)) ?_
        show am_E _ (33, [vR o, vI t, vI (x + 0), vI (h + 1)], [], aq_h m s F c) _
        refine am_E.go (t2 := (4, [vR o, vI t, vI (x + 0), vI (h + 1)], [], aq_h m s F c)) rfl rfl ?_
        exact qy_leaving_l ⟨hm, hn1, hn4, hz6, hFo, hFl, hFg, hFt, hFp, hFq, hFd, hFs, hht⟩ d (x + 0) (h + 1) (by omega) (by omega) (by omega) (by omega) (by rw [← ht, cl_t, if_pos (by omega)]; first | rw [if_pos (by omega)] | rw [if_neg (by omega)]) (by omega)
      · refine am_E.go (t2 := (24, [vR o, vI t, vI x, vI h], [vI 1, vI x], aq_h m s F c)) rfl rfl ?_
        refine am_E.go (t2 := (28, [vR o, vI t, vI x, vI h], [vI 1, vI x], aq_h m s F c)) rfl rfl ?_
        refine ae_add rfl (am_ri (by omega) (by omega)) ?_
        show am_E _ (29, [vR o, vI t, vI x, vI h], [vI (x + 1)], aq_h m s F c) _
        refine am_E.go (t2 := (30, [vR o, vI t, vI (x + 1), vI h], [], aq_h m s F c)) rfl rfl ?_
        refine ae_iinc rfl rfl (am_ri (by omega) (by omega)) ?_
        show am_E _ (33, [vR o, vI t, vI (x + 1), vI (h + 1)], [], aq_h m s F c) _
        refine am_E.go (t2 := (4, [vR o, vI t, vI (x + 1), vI (h + 1)], [], aq_h m s F c)) rfl rfl ?_
        exact qy_leaving_l ⟨hm, hn1, hn4, hz6, hFo, hFl, hFg, hFt, hFp, hFq, hFd, hFs, hht⟩ d (x + 1) (h + 1) (by omega) (by omega) (by omega) (by omega) (by rw [← ht, cl_t, if_pos (by omega)]; first | rw [if_pos (by omega)] | rw [if_neg (by omega)]) (by omega)

theorem qy_countLeaving {m s : Nat} {F : aq_F} {c : aq_C} {o n z : Nat} {tl : Int → Int} {th : Int → Int → Int} (hH : hv_0 m F o n z tl th) {t : Int} : am_E ac_X2_countLeaving (0, [vR o, vI t, vU, vU], [], aq_h m s F c) (aq_P m s F c (fun r => r = some (vI (cl_t (z : Int) t tl 7 0 0)))) := by
  obtain ⟨hm, hn1, hn4, hz6, hFo, hFl, hFg, hFt, hFp, hFq, hFd, hFs, hht⟩ := hH
  refine am_E.go (t2 := (1, [vR o, vI t, vU, vU], [vI 0], aq_h m s F c)) rfl rfl ?_
  refine am_E.go (t2 := (2, [vR o, vI t, vI 0, vU], [], aq_h m s F c)) rfl rfl ?_
  refine am_E.go (t2 := (3, [vR o, vI t, vI 0, vU], [vI 0], aq_h m s F c)) rfl rfl ?_
  refine am_E.go (t2 := (4, [vR o, vI t, vI 0, vI 0], [], aq_h m s F c)) rfl rfl ?_
  exact qy_leaving_l ⟨hm, hn1, hn4, hz6, hFo, hFl, hFg, hFt, hFp, hFq, hFd, hFs, hht⟩ 7 0 0 (by omega) (by omega) (by omega) (by omega) rfl (by omega)

theorem qe_X4_halves {m s : Nat} {F : aq_F} {c : aq_C} (hC : sb_C m F) (hI : cl_I c) {nn t : Int} : am_E ac_X4_halves (0, [vR 0, vI nn, vI t], [], aq_h m s F c) (aq_Z m s F (fun a => a < 527) c (fun r d => r = some (vI (hs_a nn t)) ∧ cl_I d)) := by
  obtain ⟨hCm, hC0, hC1, hC2, hC3, ⟨hma4, hFa4, hFn4, hFp4, hFf4⟩, ⟨hmx, hFx, hFl, hFw⟩, hCs, hCb, hCh⟩ := id hC
  refine am_E.go (t2 := (1, [vR 0, vI nn, vI t], [vI nn], aq_h m s F c)) rfl rfl ?_
  refine am_E.go (t2 := (2, [vR 0, vI nn, vI t], [vI t, vI nn], aq_h m s F c)) rfl rfl ?_
  refine am_E.call rfl rfl rfl (Nat.le_of_ble_eq_true rfl) (qn_X4_isThrough) ?_
  rintro r5 h5 ⟨rfl, v_1, rfl, hv_1⟩
  show am_E _ (5, [vR 0, vI nn, vI t], [vI v_1], aq_h m s F c) _
  refine ae_if0 rfl (fun (q_2 : v_1 ≠ 0) => ?_) (fun (q_2 : v_1 = 0) => ?_)
  · refine am_E.go (t2 := (11, [vR 0, vI nn, vI t], [vR 0], aq_h m s F c)) rfl rfl ?_
    refine aq_gf (v := vR 2) rfl (by omega) hC0 (by decide) rfl ?_
    show am_E _ (14, [vR 0, vI nn, vI t], [vR 2], aq_h m s F c) _
    refine am_E.go (t2 := (15, [vR 0, vI nn, vI t], [vI nn, vR 2], aq_h m s F c)) rfl rfl ?_
    refine am_E.go (t2 := (16, [vR 0, vI nn, vI t], [vI 1, vI nn, vR 2], aq_h m s F c)) rfl rfl ?_
    refine ae_sub rfl (am_ri (by omega) (by omega)) ?_
    show am_E _ (17, [vR 0, vI nn, vI t], [vI (nn - 1), vR 2], aq_h m s F c) _
    obtain ⟨o, n, e_o, e_n, z, tl, th, ⟨hm, hn1, hn4, hz6, hFo, hFl, hFg, hFt, hFp, hFq, hFd, hFs, hht⟩, hve⟩ := sb_half hC (i := (nn - 1)) (by omega) (by omega)
    have hb := sb_hnd 0 (by omega) ((nn - 1)).toNat (by omega)
    rw [e_o] at hb
    refine aq_al (ok := fun k => decide (3 ≤ k) && decide (k < 7)) (v := vR o) rfl rfl (by omega) hC2 rfl (by omega) (by omega) (aq_gi2 (by omega) e_o) ?_
    show am_E _ (18, [vR 0, vI nn, vI t], [vR o], aq_h m s F c) _
    refine am_E.go (t2 := (19, [vR 0, vI nn, vI t], [vI t, vR o], aq_h m s F c)) rfl rfl ?_
    refine aq_callv (y := 2) (as2 := [vI t]) (rest := []) rfl rfl (by decide) (Nat.le_of_ble_eq_true rfl) rfl rfl (Nat.le_of_ble_eq_true rfl) (by omega) hFo rfl (Nat.le_of_ble_eq_true rfl) (qy_countLeaving ⟨hm, hn1, hn4, hz6, hFo, hFl, hFg, hFt, hFp, hFq, hFd, hFs, hht⟩) ?_
    rintro r5 h5 ⟨rfl, rfl⟩
    show am_E _ (22, [vR 0, vI nn, vI t], [vI (cl_t (z : Int) t tl 7 0 0)], aq_h m s F c) _
    refine am_E.ret rfl rfl ?_
    refine ⟨_, rfl, (aq_sm0 (S := fun a => a < 527)), ?_, hI⟩
    have e2 : (n : Int) = nn := by omega
    rw [hs_a, if_pos (by omega), hve.1, e2, cl_tc (f := tl) (g := hx_l nn) (fun i i0 i1 => by have := (hve.2 i i0 (by rw [e2]; exact i1)).1; rw [e2] at this; exact this) 7 0 0 (by omega), hs_e (by omega) (by omega) (by omega) (by omega)]
  · refine am_E.go (t2 := (9, [vR 0, vI nn, vI t], [vI (-1)], aq_h m s F c)) rfl rfl ?_
    refine am_E.ret rfl rfl ?_
    exact ⟨_, rfl, (aq_sm0 (S := fun a => a < 527)), by rw [hs_a, if_neg (by omega)], hI⟩
/-! The reference: the answers of halves. Printed by wip/p20/sx/gEHm.py. -/

theorem qe_X5_halves {m s : Nat} {F : aq_F} {c : aq_C} {y : Nat} (hC : mo_C m F y) (hI : mo_I y c) {n t : Int} : am_E ac_X5_halves (0, [vR y, vI n, vI t], [], aq_h m s F c) (aq_Z m s F (fun a => y ≤ a ∧ a < y + 24) c (fun r d => r = some (vI (hs_a n t)) ∧ mo_I y d)) := by
  obtain ⟨⟨hm, hFo, hG5, hG6, hG7, hG8, hG9, hG10, hG11, hG12, hG13, hG14, hG15, hG16, hG17, hG18, hG19, hG20, hG21, hG22, hG23⟩, ⟨tbl, hT1, hTt⟩, ⟨tA, tB, tD, hL1, hL2, hL3, hLt⟩⟩ := hC
  refine am_E.go (t2 := (1, [vR y, vI n, vI t], [vI n], aq_h m s F c)) rfl rfl ?_
  refine am_E.go (t2 := (2, [vR y, vI n, vI t], [vI t, vI n], aq_h m s F c)) rfl rfl ?_
  refine am_E.call rfl rfl rfl (Nat.le_of_ble_eq_true rfl) (qm_areHalves) ?_
  rintro r5 h5 ⟨rfl, v_1, rfl, hv_1⟩
  show am_E _ (5, [vR y, vI n, vI t], [vI v_1], aq_h m s F c) _
  refine ae_if0 rfl (fun (q_2 : v_1 = 0) => ?_) (fun (q_2 : v_1 ≠ 0) => ?_)
  · refine am_E.go (t2 := (23, [vR y, vI n, vI t], [vI (-1)], aq_h m s F c)) rfl rfl ?_
    refine am_E.ret rfl rfl ?_
    exact ⟨_, rfl, aq_smi (aq_sm0 (c := c) (S := mo_S y)) (fun a h => mo_Sa h), by rw [hs_a, if_neg (by omega)], mo_Ik hI (aq_sm0 (c := c) (S := mo_S y)) (mo_k0 (y := y) (c := c))⟩
  · refine am_E.go (t2 := (9, [vR y, vI n, vI t], [vR y], aq_h m s F c)) rfl rfl ?_
    refine am_E.go (t2 := (10, [vR y, vI n, vI t], [vI n, vR y], aq_h m s F c)) rfl rfl ?_
    refine am_E.go (t2 := (11, [vR y, vI n, vI t], [vI t, vI n, vR y], aq_h m s F c)) rfl rfl ?_
    refine am_E.go (t2 := (12, [vR y, vI n, vI t], [vI (-1), vI t, vI n, vR y], aq_h m s F c)) rfl rfl ?_
    refine am_E.go (t2 := (13, [vR y, vI n, vI t], [vR y, vI (-1), vI t, vI n, vR y], aq_h m s F c)) rfl rfl ?_
    refine aq_gf (v := vR (y + 18)) rfl (by omega) hFo (by decide) rfl ?_
    show am_E _ (16, [vR y, vI n, vI t], [vR (y + 18), vI (-1), vI t, vI n, vR y], aq_h m s F c) _
    refine aq_callv (y := 5) (as2 := [vI n, vI t, vI (-1), vR (y + 18)]) (rest := []) rfl rfl (by decide) (Nat.le_of_ble_eq_true rfl) rfl rfl (Nat.le_of_ble_eq_true rfl) (by omega) hFo rfl (Nat.le_of_ble_eq_true rfl) (qm_lay (y := y) (a := y + 18) (by omega) hFo (by omega) hG18 (n := n) (t := t) (by omega) (by omega) (by omega) (by omega) (Or.inl rfl)) ?_
    rintro r5 h5 ⟨c_3, rfl, sc_3, vc_3, rfl, hmc_3, hdc_3⟩
    show am_E _ (19, [vR y, vI n, vI t], [vI vc_3], aq_h m s F c_3) _
    have hm5 := hmc_3 rfl
    have hNb := hv_Nb n t
    refine am_E.go (t2 := (23, [vR y, vI n, vI t], [vI vc_3], aq_h m s F c_3)) rfl rfl ?_
    refine am_E.ret rfl rfl ?_
    exact ⟨_, rfl, aq_smi (aq_smt (aq_sm0 (c := c) (S := mo_S y)) (aq_smi sc_3 (fun a h => by unfold mo_S; omega))) (fun a h => mo_Sa h), by rw [hs_a, if_pos (by omega), hm5], mo_Ik hI (aq_smt (aq_sm0 (c := c) (S := mo_S y)) (aq_smi sc_3 (fun a h => by unfold mo_S; omega))) (mo_ks (mo_k0 (y := y) (c := c)) sc_3 (by omega))⟩
