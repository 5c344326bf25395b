
/-- countUp on plain numbers -/
def cu_ (n : Int) : Nat → Int → (Int → Int) → Int → Int
  | 0, _, v => v
  | d + 1, k, v => if 0 ≤ k ∧ 2 * n - 2 * k - 2 ≤ v k then cu_ n d (k + -1) (fun i => if i = k then 0 else v i) else (if 0 ≤ k then (fun i => if i = k then v i + 1 else v i) else v)

theorem qb_countUp_l {m s : Nat} {F : aq_F} {c0 : aq_C} {o n K : Nat} (hB : bx_0 m F o n K) {ap : Nat} (hap : ap < m) (hFp : F ap = (0, n, fun _ => .inl 0)) {T : Int → Int} : ∀ (d : Nat) (v : Int → Int) (k : Int) (c : aq_C) (hs : aq_sm (fun a => a = ap) c0 c) (h0 : -1 ≤ k) (h1 : k < (n : Int)) (hv : ∀ i, 0 ≤ i → i < (n : Int) → c ap i = v i) (hb : ∀ i, 0 ≤ i → i < (n : Int) → 0 ≤ v i ∧ v i ≤ 100) (ht : ∀ i, 0 ≤ i → i < (n : Int) → cu_ (n : Int) d k v i = T i) (hd : k + 1 < (d : Int)), am_E ac_X0_countUp (7, [vR o, vR ap, vI k], [], aq_h m s F c) (aq_Z m s F (fun a => a = ap) c0 (fun r d => r = none ∧ ∀ i, 0 ≤ i → i < (n : Int) → d ap i = T i))
  | 0, v, k, c, hs, h0, h1, hv, hb, ht, hd => by exfalso; omega
  | d + 1, v, k, c, hs, h0, h1, hv, hb, ht, hd => by
    obtain ⟨hm, hn1, hn4, hK, hFo, hFd, hFs⟩ := hB
    refine am_E.go (t2 := (8, [vR o, vR ap, vI k], [vI k], aq_h m s F c)) rfl rfl ?_
    refine ae_if0 rfl (fun (q_1 : k < 0) => ?_) (fun (q_1 : 0 ≤ k) => ?_)
    · refine am_E.go (t2 := (38, [vR o, vR ap, vI k], [vI k], aq_h m s F c)) rfl rfl ?_
      refine ae_if0 rfl (fun (q_2 : k < 0) => ?_) (fun (q_2 : 0 ≤ k) => ?_)
      · refine am_E.ret rfl rfl ?_
        refine ⟨_, rfl, hs, rfl, fun i h5 h6 => ?_⟩
        rw [← ht i h5 h6, cu_, if_neg (by omega), if_neg (by omega)]
        exact hv i h5 h6
      · refine am_E.go (t2 := (42, [vR o, vR ap, vI k], [vR ap], aq_h m s F c)) rfl rfl ?_
        refine am_E.go (t2 := (43, [vR o, vR ap, vI k], [vI k, vR ap], aq_h m s F c)) rfl rfl ?_
        refine am_E.go (t2 := (44, [vR o, vR ap, vI k], [vI k, vR ap, vI k, vR ap], aq_h m s F c)) rfl rfl ?_
        refine aq_al (ok := fun k => k == 0) (v := vI (c ap k)) rfl rfl hap hFp rfl (by omega) (by omega) rfl ?_
        show am_E _ (45, [vR o, vR ap, vI k], [vI (c ap k), vI k, vR ap], aq_h m s F c) _
        have f_3 := hv k (by omega) (by omega)
        have f_3b := hb k (by omega) (by omega)
        refine am_E.go (t2 := (46, [vR o, vR ap, vI k], [vI 1, vI (c ap k), vI k, vR ap], aq_h m s F c)) rfl rfl ?_
        refine ae_add rfl (am_ri (by omega) (by omega)) ?_
        show am_E _ (47, [vR o, vR ap, vI k], [vI ((c ap k) + 1), vI k, vR ap], aq_h m s F c) _
        refine aq_as (kd := 0) rfl rfl hap hFp (by omega) (by omega) rfl rfl ?_
        show am_E _ (48, [vR o, vR ap, vI k], [], aq_h m s F (aq_u c ap k ((c ap k) + 1))) _
        generalize hdc_4 : aq_u c ap k ((c ap k) + 1) = c_4
        have sc_4 := aq_smu hs hdc_4 rfl
        refine am_E.ret rfl rfl ?_
        refine ⟨_, rfl, sc_4, rfl, fun i h5 h6 => ?_⟩
        rw [← ht i h5 h6, cu_, if_neg (by omega), if_pos (by omega), ← hdc_4]
        unfold aq_u
        by_cases e : i = k
        · rw [if_pos ⟨rfl, e⟩, if_pos e, e, hv k (by omega) (by omega)]
        · rw [if_neg (fun q => e q.2), if_neg e]
          exact hv i h5 h6
    · refine am_E.go (t2 := (12, [vR o, vR ap, vI k], [vR ap], aq_h m s F c)) rfl rfl ?_
      refine am_E.go (t2 := (13, [vR o, vR ap, vI k], [vI k, vR ap], aq_h m s F c)) rfl rfl ?_
      refine aq_al (ok := fun k => k == 0) (v := vI (c ap k)) rfl rfl hap hFp rfl (by omega) (by omega) rfl ?_
      show am_E _ (14, [vR o, vR ap, vI k], [vI (c ap k)], aq_h m s F c) _
      have f_5 := hv k (by omega) (by omega)
      have f_5b := hb k (by omega) (by omega)
      refine am_E.go (t2 := (15, [vR o, vR ap, vI k], [vR o, vI (c ap k)], aq_h m s F c)) rfl rfl ?_
      refine aq_gf (v := vI (2 * (n : Int))) rfl (by omega) hFo (by decide) rfl ?_
      show am_E _ (18, [vR o, vR ap, vI k], [vI (2 * (n : Int)), vI (c ap k)], aq_h m s F c) _
      refine am_E.go (t2 := (19, [vR o, vR ap, vI k], [vI 2, vI (2 * (n : Int)), vI (c ap k)], aq_h m s F c)) rfl rfl ?_
      refine am_E.go (t2 := (20, [vR o, vR ap, vI k], [vI k, vI 2, vI (2 * (n : Int)), vI (c ap k)], aq_h m s F c)) rfl rfl ?_
      refine ae_mul rfl (am_ri (by omega) (by omega)) ?_
      show am_E _ (21, [vR o, vR ap, vI k], [vI (2 * k), vI (2 * (n : Int)), vI (c ap k)], aq_h m s F c) _
      refine ae_sub rfl (am_ri (by omega) (by omega)) ?_
      show am_E _ (22, [vR o, vR ap, vI k], [vI ((2 * (n : Int)) - (2 * k)), vI (c ap k)], aq_h m s F c) _
      refine am_E.go (t2 := (23, [vR o, vR ap, vI k], [vI 2, vI ((2 * (n : Int)) - (2 * k)), vI (c ap k)], aq_h m s F c)) rfl rfl ?_
      refine ae_sub rfl (am_ri (by omega) (by omega)) ?_
      show am_E _ (24, [vR o, vR ap, vI k], [vI (((2 * (n : Int)) - (2 * k)) - 2), vI (c ap k)], aq_h m s F c) _
      refine ae_icmp rfl (fun (q_6 : (c ap k) < (((2 * (n : Int)) - (2 * k)) - 2)) => ?_) (fun (q_6 : (((2 * (n : Int)) - (2 * k)) - 2) ≤ (c ap k)) => ?_)
      · refine am_E.go (t2 := (38, [vR o, vR ap, vI k], [vI k], aq_h m s F c)) rfl rfl ?_
        refine ae_if0 rfl (fun (q_7 : k < 0) => ?_) (fun (q_7 : 0 ≤ k) => ?_)
        · refine am_E.ret rfl rfl ?_
          refine ⟨_, rfl, hs, rfl, fun i h5 h6 => ?_⟩
          rw [← ht i h5 h6, cu_, if_neg (by omega), if_neg (by omega)]
          exact hv i h5 h6
        · refine am_E.go (t2 := (42, [vR o, vR ap, vI k], [vR ap], aq_h m s F c)) rfl rfl ?_
          refine am_E.go (t2 := (43, [vR o, vR ap, vI k], [vI k, vR ap], aq_h m s F c)) rfl rfl ?_
          refine am_E.go (t2 := (44, [vR o, vR ap, vI k], [vI k, vR ap, vI k, vR ap], aq_h m s F c)) rfl rfl ?_
          refine aq_al (ok := fun k => k == 0) (v := vI (c ap k)) rfl rfl hap hFp rfl (by omega) (by omega) rfl ?_
          show am_E _ (45, [vR o, vR ap, vI k], [vI (c ap k), vI k, vR ap], aq_h m s F c) _
          have f_8 := hv k (by omega) (by omega)
          have f_8b := hb k (by omega) (by omega)
          refine am_E.go (t2 := (46, [vR o, vR ap, vI k], [vI 1, vI (c ap k), vI k, vR ap], aq_h m s F c)) rfl rfl ?_
          refine ae_add rfl (am_ri (by omega) (by omega)) ?_
          show am_E _ (47, [vR o, vR ap, vI k], [vI ((c ap k) + 1), vI k, vR ap], aq_h m s F c) _
          refine aq_as (kd := 0) rfl rfl hap hFp (by omega) (by omega) rfl rfl ?_
          show am_E _ (48, [vR o, vR ap, vI k], [], aq_h m s F (aq_u c ap k ((c ap k) + 1))) _
          generalize hdc_9 : aq_u c ap k ((c ap k) + 1) = c_9
          have sc_9 := aq_smu hs hdc_9 rfl
          refine am_E.ret rfl rfl ?_
          refine ⟨_, rfl, sc_9, rfl, fun i h5 h6 => ?_⟩
          rw [← ht i h5 h6, cu_, if_neg (by omega), if_pos (by omega), ← hdc_9]
          unfold aq_u
          by_cases e : i = k
          · rw [if_pos ⟨rfl, e⟩, if_pos e, e, hv k (by omega) (by omega)]
          · rw [if_neg (fun q => e q.2), if_neg e]
            exact hv i h5 h6
      · refine am_E.go (t2 := (28, [vR o, vR ap, vI k], [vR ap], aq_h m s F c)) rfl rfl ?_
        refine am_E.go (t2 := (29, [vR o, vR ap, vI k], [vI k, vR ap], aq_h m s F c)) rfl rfl ?_
        refine am_E.go (t2 := (30, [vR o, vR ap, vI k], [vI 0, vI k, vR ap], aq_h m s F c)) rfl rfl ?_
        refine aq_as (kd := 0) rfl rfl hap hFp (by omega) (by omega) rfl rfl ?_
        show am_E _ (31, [vR o, vR ap, vI k], [], aq_h m s F (aq_u c ap k 0)) _
        generalize hdc_10 : aq_u c ap k 0 = c_10
        have sc_10 := aq_smu hs hdc_10 rfl
        refine ae_iinc rfl rfl (am_ri (by omega) (by omega)) ?_
        show am_E _ (34, [vR o, vR ap, vI (k + (-1))], [], aq_h m s F c_10) _
        refine am_E.go (t2 := (7, [vR o, vR ap, vI (k + (-1))], [], aq_h m s F c_10)) rfl rfl ?_
        exact qb_countUp_l ⟨hm, hn1, hn4, hK, hFo, hFd, hFs⟩ hap hFp d (fun i => if i = k then 0 else v i) (k + (-1)) c_10 sc_10 (by omega) (by omega) (fun i h5 h6 => by rw [← hdc_10]; unfold aq_u; by_cases e : i = k; (rw [if_pos ⟨rfl, e⟩, if_pos e]); rw [if_neg (fun q => e q.2), if_neg e]; exact hv i h5 h6) (fun i h5 h6 => by by_cases e : i = k; (rw [if_pos e]; omega); rw [if_neg e]; exact hb i h5 h6) (fun i h5 h6 => by rw [← ht i h5 h6, cu_, if_pos (by omega)]) (by omega)

theorem qb_countUp {m s : Nat} {F : aq_F} {c : aq_C} {o n K : Nat} (hB : bx_0 m F o n K) {ap : Nat} (hap : ap < m) (hFp : F ap = (0, n, fun _ => .inl 0)) {v : Int → Int} (hv : ∀ i, 0 ≤ i → i < (n : Int) → c ap i = v i) (hb : ∀ i, 0 ≤ i → i < (n : Int) → 0 ≤ v i ∧ v i ≤ 100) : am_E ac_X0_countUp (0, [vR o, vR ap, vU], [], aq_h m s F c) (aq_Z m s F (fun a => a = ap) c (fun r d => r = none ∧ ∀ i, 0 ≤ i → i < (n : Int) → d ap i = cu_ (n : Int) 6 ((n : Int) - 1) v i)) := by
  obtain ⟨hm, hn1, hn4, hK, hFo, hFd, hFs⟩ := hB
  refine am_E.go (t2 := (1, [vR o, vR ap, vU], [vR o], aq_h m s F c)) rfl rfl ?_
  refine aq_gf (v := vI (n : Int)) rfl (by omega) hFo (by decide) rfl ?_
  show am_E _ (4, [vR o, vR ap, vU], [vI (n : Int)], aq_h m s F c) _
  refine am_E.go (t2 := (5, [vR o, vR ap, vU], [vI 1, vI (n : Int)], aq_h m s F c)) rfl rfl ?_
  refine ae_sub rfl (am_ri (by omega) (by omega)) ?_
  show am_E _ (6, [vR o, vR ap, vU], [vI ((n : Int) - 1)], aq_h m s F c) _
  refine am_E.go (t2 := (7, [vR o, vR ap, vI ((n : Int) - 1)], [], aq_h m s F c)) rfl rfl ?_
  exact qb_countUp_l ⟨hm, hn1, hn4, hK, hFo, hFd, hFs⟩ hap hFp 6 v ((n : Int) - 1) c (aq_sm0 (c := c) (S := (fun a => a = ap))) (by omega) (by omega) hv hb (fun _ _ _ => rfl) (by omega)
/-- what each pair passes over, in box b -/
def dgm (n b k : Int) : Int := if n = 4 then (if k = 0 then b / 15 else if k = 1 then b / 3 % 5 else if k = 2 then b % 3 else 0) else if n = 3 then (if k = 0 then b / 3 else if k = 1 then b % 3 else 0) else if n = 2 then (if k = 0 then b else 0) else 0
theorem cu_2 : ∀ b : Nat, b < 2 → ∀ k : Nat, k < 2 → cu_ 2 6 (2 - 1) (dgm 2 b) k = dgm 2 (b + 1) k := by decide +kernel
theorem cu_3 : ∀ b : Nat, b < 14 → ∀ k : Nat, k < 3 → cu_ 3 6 (3 - 1) (dgm 3 b) k = dgm 3 (b + 1) k := by decide +kernel
theorem cu_4 : ∀ b : Nat, b < 104 → ∀ k : Nat, k < 4 → cu_ 4 6 (4 - 1) (dgm 4 b) k = dgm 4 (b + 1) k := by decide +kernel
theorem cu_n {n b k : Int} (h1 : 1 ≤ n) (h4 : n ≤ 4) (h0 : 0 ≤ b) (hb : b + 1 < bx_K n) (hk0 : 0 ≤ k) (hk : k < n) : cu_ n 6 (n - 1) (dgm n b) k = dgm n (b + 1) k := by
  have h : n = 1 ∨ n = 2 ∨ n = 3 ∨ n = 4 := by omega
  have eb : ((b.toNat : Nat) : Int) = b := Int.toNat_of_nonneg h0
  have ek : ((k.toNat : Nat) : Int) = k := Int.toNat_of_nonneg hk0
  rcases h with h | h | h | h <;> subst h
  · have hk9 : bx_K 1 = 1 := rfl
    omega
  · have hk9 : bx_K 2 = 3 := rfl
    have := cu_2 b.toNat (by omega) k.toNat (by omega)
    rw [eb, ek] at this
    exact this
  · have hk9 : bx_K 3 = 15 := rfl
    have := cu_3 b.toNat (by omega) k.toNat (by omega)
    rw [eb, ek] at this
    exact this
  · have hk9 : bx_K 4 = 105 := rfl
    have := cu_4 b.toNat (by omega) k.toNat (by omega)
    rw [eb, ek] at this
    exact this
theorem dgm_r {n b k : Int} (h1 : 1 ≤ n) (h4 : n ≤ 4) (h0 : 0 ≤ b) (hb : b < bx_K n) : 0 ≤ dgm n b k ∧ dgm n b k ≤ 100 := by
  have h : n = 1 ∨ n = 2 ∨ n = 3 ∨ n = 4 := by omega
  rcases h with h | h | h | h <;> subst h
  · have hk9 : bx_K 1 = 1 := rfl
    have e : dgm 1 b k = 0 := rfl
    omega
  · have hk9 : bx_K 2 = 3 := rfl
    simp only [dgm]
    (repeat' split) <;> omega
  · have hk9 : bx_K 3 = 15 := rfl
    simp only [dgm]
    (repeat' split) <;> omega
  · have hk9 : bx_K 4 = 105 := rfl
    simp only [dgm]
    (repeat' split) <;> omega
/-- pairBy goes well, and finds the pairs of prt -/
def pb_b (n b : Int) : Nat → Int → Int → (Int → Int) → Bool
  | 0, _, _, _ => false
  | d + 1, k, p, w => if p < 2 * n - 1 ∧ k < n then (if w p = 0 then
      (decide (prt n b p = fb_ (2 * n) w 9 (dgm n b k) (p + 1)) && decide (prt n b (fb_ (2 * n) w 9 (dgm n b k) (p + 1)) = p) && pb_b n b d (k + 1) (p + 1) (dc_u (dc_u w p) (fb_ (2 * n) w 9 (dgm n b k) (p + 1))))
    else pb_b n b d k (p + 1) w) else (List.range (2 * n).toNat).all (fun i => decide (w (i : Int) = 1))
theorem pb_1 : ∀ b : Nat, b < 1 → pb_b 1 b 9 0 0 (fun _ => 0) = true := by decide +kernel
theorem pb_2 : ∀ b : Nat, b < 3 → pb_b 2 b 9 0 0 (fun _ => 0) = true := by decide +kernel
theorem pb_3 : ∀ b : Nat, b < 15 → pb_b 3 b 9 0 0 (fun _ => 0) = true := by decide +kernel
theorem pb_4 : ∀ b : Nat, b < 105 → pb_b 4 b 9 0 0 (fun _ => 0) = true := by decide +kernel
theorem pb_n {n b : Int} (h1 : 1 ≤ n) (h4 : n ≤ 4) (h0 : 0 ≤ b) (hb : b < bx_K n) : pb_b n b 9 0 0 (fun _ => 0) = true := by
  have h : n = 1 ∨ n = 2 ∨ n = 3 ∨ n = 4 := by omega
  have eb : ((b.toNat : Nat) : Int) = b := Int.toNat_of_nonneg h0
  rcases h with h | h | h | h <;> subst h
  · have hk : bx_K 1 = 1 := rfl
    have := pb_1 b.toNat (by omega)
    rw [eb] at this
    exact this
  · have hk : bx_K 2 = 3 := rfl
    have := pb_2 b.toNat (by omega)
    rw [eb] at this
    exact this
  · have hk : bx_K 3 = 15 := rfl
    have := pb_3 b.toNat (by omega)
    rw [eb] at this
    exact this
  · have hk : bx_K 4 = 105 := rfl
    have := pb_4 b.toNat (by omega)
    rw [eb] at this
    exact this

theorem fb_c {N : Int} {w w2 : Int → Int} (h : ∀ i, 0 ≤ i → i < N → w i = w2 i) : ∀ (d : Nat) (l q : Int), 0 ≤ q → fb_ N w d l q = fb_ N w2 d l q
  | 0, l, q, _ => rfl
  | d + 1, l, q, hq => by
    rw [fb_, fb_]
    by_cases e : q < N - 1
    · rw [h q hq (by omega)]
      by_cases e2 : q < N - 1 ∧ (w2 q ≠ 0 ∨ 0 < l)
      · rw [if_pos e2, if_pos e2]
        exact fb_c h d _ (q + 1) (by omega)
      · rw [if_neg e2, if_neg e2]
    · rw [if_neg (fun k => e k.1), if_neg (fun k => e k.1)]
theorem dc_ac2 {A : Nat} {N p : Int} {w : Int → Int} {c d : aq_C} (hw : ∀ i, 0 ≤ i → i < N → c A i = w i) (he : aq_u c A p 1 = d) : ∀ i, 0 ≤ i → i < N → d A i = dc_u w p i := fun i h0 h1 => by
  rw [← he]
  unfold aq_u dc_u
  by_cases e : i = p
  · rw [if_pos ⟨rfl, e⟩, if_pos e]
  · rw [if_neg (fun h => e h.2), if_neg e]
    exact hw i h0 h1

theorem qb_pairBy_l {m s : Nat} {F : aq_F} {c0 : aq_C} {o n K : Nat} (hB : bx_0 m F o n K) {ap ar : Nat} (hap : ap < m) (hFp : F ap = (0, n, fun _ => .inl 0)) (har : ar < m) (hFr : F ar = (0, 2 * n, fun _ => .inl 0)) (hn1a : ap ≠ o + 7 + 3 * K) (hn2a : ap ≠ ar) (hn3a : ar ≠ o + 7 + 3 * K) {b : Int} (hb0 : 0 ≤ b) (hbK : b < bx_K (n : Int)) (hpv : ∀ i, 0 ≤ i → i < (n : Int) → c0 ap i = dgm (n : Int) b i) : ∀ (d : Nat) (w : Int → Int) (k : Int) (p : Int) (v5 : am_V) (c : aq_C) (hs : aq_sm (fun a => a = o + 7 + 3 * K ∨ a = ar) c0 c) (h0 : 0 ≤ p) (h1 : p ≤ 2 * (n : Int)) (h2 : 0 ≤ k) (h3 : k ≤ (n : Int)) (hw : ∀ i, 0 ≤ i → i < 2 * (n : Int) → c (o + 7 + 3 * K) i = w i) (hr : ∀ i, 0 ≤ i → i < 2 * (n : Int) → w i = 1 → c ar i = prt (n : Int) b i) (hb : pb_b (n : Int) b d k p w = true), am_E ac_X0_pairBy (9, [vR o, vR ap, vR ar, vI k, vI p, v5], [], aq_h m s F c) (aq_Z m s F (fun a => a = o + 7 + 3 * K ∨ a = ar) c0 (fun r d => r = none ∧ ∀ i, 0 ≤ i → i < 2 * (n : Int) → d ar i = prt (n : Int) b i))
  | 0, w, k, p, v5, c, hs, h0, h1, h2, h3, hw, hr, hb => by cases hb
  | d + 1, w, k, p, v5, c, hs, h0, h1, h2, h3, hw, hr, hb => by
    obtain ⟨hm, hn1, hn4, hK, hFo, hFd, hFs⟩ := hB
    rw [pb_b] at hb
    refine am_E.go (t2 := (11, [vR o, vR ap, vR ar, vI k, vI p, v5], [vI p], aq_h m s F c)) rfl rfl ?_
    refine am_E.go (t2 := (12, [vR o, vR ap, vR ar, vI k, vI p, v5], [vR o, vI p], aq_h m s F c)) rfl rfl ?_
    refine aq_gf (v := vI (2 * (n : Int))) rfl (by omega) hFo (by decide) rfl ?_
    show am_E _ (15, [vR o, vR ap, vR ar, vI k, vI p, v5], [vI (2 * (n : Int)), vI p], aq_h m s F c) _
    refine am_E.go (t2 := (16, [vR o, vR ap, vR ar, vI k, vI p, v5], [vI 1, vI (2 * (n : Int)), vI p], aq_h m s F c)) rfl rfl ?_
    refine ae_sub rfl (am_ri (by omega) (by omega)) ?_
    show am_E _ (17, [vR o, vR ap, vR ar, vI k, vI p, v5], [vI ((2 * (n : Int)) - 1), vI p], aq_h m s F c) _
    refine ae_icmp rfl (fun (q_1 : ((2 * (n : Int)) - 1) ≤ p) => ?_) (fun (q_1 : p < ((2 * (n : Int)) - 1)) => ?_)
    · refine am_E.ret rfl rfl ?_
      rw [if_neg (by omega), List.all_eq_true] at hb
      exact ⟨_, rfl, hs, rfl, fun i h8 h9 => hr i h8 h9 (by have h10 := of_decide_eq_true (hb i.toNat (List.mem_range.mpr (by omega))); rw [Int.toNat_of_nonneg h8] at h10; exact h10)⟩
    · refine am_E.go (t2 := (21, [vR o, vR ap, vR ar, vI k, vI p, v5], [vI k], aq_h m s F c)) rfl rfl ?_
      refine am_E.go (t2 := (22, [vR o, vR ap, vR ar, vI k, vI p, v5], [vR o, vI k], aq_h m s F c)) rfl rfl ?_
      refine aq_gf (v := vI (n : Int)) rfl (by omega) hFo (by decide) rfl ?_
      show am_E _ (25, [vR o, vR ap, vR ar, vI k, vI p, v5], [vI (n : Int), vI k], aq_h m s F c) _
      refine ae_icmp rfl (fun (q_2 : (n : Int) ≤ k) => ?_) (fun (q_2 : k < (n : Int)) => ?_)
      · refine am_E.ret rfl rfl ?_
        rw [if_neg (by omega), List.all_eq_true] at hb
        exact ⟨_, rfl, hs, rfl, fun i h8 h9 => hr i h8 h9 (by have h10 := of_decide_eq_true (hb i.toNat (List.mem_range.mpr (by omega))); rw [Int.toNat_of_nonneg h8] at h10; exact h10)⟩
      · refine am_E.go (t2 := (29, [vR o, vR ap, vR ar, vI k, vI p, v5], [vR o], aq_h m s F c)) rfl rfl ?_
        refine aq_gf (v := vR (o + 7 + 3 * K)) rfl (by omega) hFo (by decide) rfl ?_
        show am_E _ (32, [vR o, vR ap, vR ar, vI k, vI p, v5], [vR (o + 7 + 3 * K)], aq_h m s F c) _
        refine am_E.go (t2 := (34, [vR o, vR ap, vR ar, vI k, vI p, v5], [vI p, vR (o + 7 + 3 * K)], aq_h m s F c)) rfl rfl ?_
        refine aq_al (ok := fun k => k == 1) (v := vI (c (o + 7 + 3 * K) p)) rfl rfl (by omega) hFs rfl (by omega) (by omega) rfl ?_
        show am_E _ (35, [vR o, vR ap, vR ar, vI k, vI p, v5], [vI (c (o + 7 + 3 * K) p)], aq_h m s F c) _
        have f_3 := hw p (by omega) (by omega)
        refine ae_if0 rfl (fun (q_4 : (c (o + 7 + 3 * K) p) ≠ 0) => ?_) (fun (q_4 : (c (o + 7 + 3 * K) p) = 0) => ?_)
        · rw [if_pos (by omega), if_neg (by omega)] at hb
          refine ae_iinc rfl rfl (am_ri (by omega) (by omega)) ?_
          show am_E _ (79, [vR o, vR ap, vR ar, vI k, vI (p + 1), v5], [], aq_h m s F c) _
          refine am_E.go (t2 := (9, [vR o, vR ap, vR ar, vI k, vI (p + 1), v5], [], aq_h m s F c)) rfl rfl ?_
          exact qb_pairBy_l ⟨hm, hn1, hn4, hK, hFo, hFd, hFs⟩ hap hFp har hFr hn1a hn2a hn3a hb0 hbK hpv d w k (p + 1) (v5) c hs (by omega) (by omega) (by omega) (by omega) hw hr hb
        · rw [if_pos (by omega), if_pos (by omega)] at hb
          simp only [Bool.and_eq_true, decide_eq_true_eq] at hb
          obtain ⟨⟨b6, b7⟩, b8⟩ := hb
          have qr := fb_r (N := 2 * (n : Int)) (w := w) 9 (dgm (n : Int) b k) (p + 1) (by omega)
          refine am_E.go (t2 := (39, [vR o, vR ap, vR ar, vI k, vI p, v5], [vR o], aq_h m s F c)) rfl rfl ?_
          refine am_E.go (t2 := (41, [vR o, vR ap, vR ar, vI k, vI p, v5], [vI p, vR o], aq_h m s F c)) rfl rfl ?_
          refine am_E.go (t2 := (42, [vR o, vR ap, vR ar, vI k, vI p, v5], [vR ap, vI p, vR o], aq_h m s F c)) rfl rfl ?_
          refine am_E.go (t2 := (43, [vR o, vR ap, vR ar, vI k, vI p, v5], [vI k, vR ap, vI p, vR o], aq_h m s F c)) rfl rfl ?_
          refine aq_al (ok := fun k => k == 0) (v := vI (c ap k)) rfl rfl hap hFp rfl (by omega) (by omega) rfl ?_
          show am_E _ (44, [vR o, vR ap, vR ar, vI k, vI p, v5], [vI (c ap k), vI p, vR o], aq_h m s F c) _
          have f_5 := hs ap (by omega) k
          have f_5b := hpv k (by omega) (by omega)
          refine aq_callv (y := 3) (as2 := [vI p, vI (c ap k)]) (rest := []) rfl rfl (by decide) (Nat.le_of_ble_eq_true rfl) rfl rfl (Nat.le_of_ble_eq_true rfl) (by omega) hFo rfl (Nat.le_of_ble_eq_true rfl) (qb_freeBehind ⟨hm, hn1, hn4, hK, hFo, hFd, hFs⟩ (by omega) (by omega) (by have := dgm_r (k := k) (n := (n : Int)) (b := b) (by omega) (by omega) hb0 hbK; omega) (by have := dgm_r (k := k) (n := (n : Int)) (b := b) (by omega) (by omega) hb0 hbK; omega)) ?_
          rintro r5 h5 ⟨rfl, rfl⟩
          show am_E _ (47, [vR o, vR ap, vR ar, vI k, vI p, v5], [vI (fb_ (2 * (n : Int)) (c (o + 7 + 3 * K)) 9 (c ap k) (p + 1))], aq_h m s F c) _
          have efb : fb_ (2 * (n : Int)) (c (o + 7 + 3 * K)) 9 (c ap k) (p + 1) = fb_ (2 * (n : Int)) w 9 (dgm (n : Int) b k) (p + 1) := by rw [show c ap k = dgm (n : Int) b k by omega]; exact fb_c hw 9 _ (p + 1) (by omega)
          rw [efb]
          refine am_E.go (t2 := (49, [vR o, vR ap, vR ar, vI k, vI p, vI (fb_ (2 * (n : Int)) w 9 (dgm (n : Int) b k) (p + 1))], [], aq_h m s F c)) rfl rfl ?_
          refine am_E.go (t2 := (50, [vR o, vR ap, vR ar, vI k, vI p, vI (fb_ (2 * (n : Int)) w 9 (dgm (n : Int) b k) (p + 1))], [vR o], aq_h m s F c)) rfl rfl ?_
          refine aq_gf (v := vR (o + 7 + 3 * K)) rfl (by omega) hFo (by decide) rfl ?_
          show am_E _ (53, [vR o, vR ap, vR ar, vI k, vI p, vI (fb_ (2 * (n : Int)) w 9 (dgm (n : Int) b k) (p + 1))], [vR (o + 7 + 3 * K)], aq_h m s F c) _
          refine am_E.go (t2 := (55, [vR o, vR ap, vR ar, vI k, vI p, vI (fb_ (2 * (n : Int)) w 9 (dgm (n : Int) b k) (p + 1))], [vI p, vR (o + 7 + 3 * K)], aq_h m s F c)) rfl rfl ?_
          refine am_E.go (t2 := (56, [vR o, vR ap, vR ar, vI k, vI p, vI (fb_ (2 * (n : Int)) w 9 (dgm (n : Int) b k) (p + 1))], [vI 1, vI p, vR (o + 7 + 3 * K)], aq_h m s F c)) rfl rfl ?_
          refine aq_as (kd := 1) rfl rfl (by omega) hFs (by omega) (by omega) rfl rfl ?_
          show am_E _ (57, [vR o, vR ap, vR ar, vI k, vI p, vI (fb_ (2 * (n : Int)) w 9 (dgm (n : Int) b k) (p + 1))], [], aq_h m s F (aq_u c (o + 7 + 3 * K) p 1)) _
          generalize hdc_6 : aq_u c (o + 7 + 3 * K) p 1 = c_6
          have sc_6 := aq_smu hs hdc_6 (Or.inl rfl)
          refine am_E.go (t2 := (58, [vR o, vR ap, vR ar, vI k, vI p, vI (fb_ (2 * (n : Int)) w 9 (dgm (n : Int) b k) (p + 1))], [vR o], aq_h m s F c_6)) rfl rfl ?_
          refine aq_gf (v := vR (o + 7 + 3 * K)) rfl (by omega) hFo (by decide) rfl ?_
          show am_E _ (61, [vR o, vR ap, vR ar, vI k, vI p, vI (fb_ (2 * (n : Int)) w 9 (dgm (n : Int) b k) (p + 1))], [vR (o + 7 + 3 * K)], aq_h m s F c_6) _
          refine am_E.go (t2 := (63, [vR o, vR ap, vR ar, vI k, vI p, vI (fb_ (2 * (n : Int)) w 9 (dgm (n : Int) b k) (p + 1))], [vI (fb_ (2 * (n : Int)) w 9 (dgm (n : Int) b k) (p + 1)), vR (o + 7 + 3 * K)], aq_h m s F c_6)) rfl rfl ?_
          refine am_E.go (t2 := (64, [vR o, vR ap, vR ar, vI k, vI p, vI (fb_ (2 * (n : Int)) w 9 (dgm (n : Int) b k) (p + 1))], [vI 1, vI (fb_ (2 * (n : Int)) w 9 (dgm (n : Int) b k) (p + 1)), vR (o + 7 + 3 * K)], aq_h m s F c_6)) rfl rfl ?_
          refine aq_as (kd := 1) rfl rfl (by omega) hFs (by omega) (by omega) rfl rfl ?_
          show am_E _ (65, [vR o, vR ap, vR ar, vI k, vI p, vI (fb_ (2 * (n : Int)) w 9 (dgm (n : Int) b k) (p + 1))], [], aq_h m s F (aq_u c_6 (o + 7 + 3 * K) (fb_ (2 * (n : Int)) w 9 (dgm (n : Int) b k) (p + 1)) 1)) _
          generalize hdc_7 : aq_u c_6 (o + 7 + 3 * K) (fb_ (2 * (n : Int)) w 9 (dgm (n : Int) b k) (p + 1)) 1 = c_7
          have sc_7 := aq_smu sc_6 hdc_7 (Or.inl rfl)
          refine am_E.go (t2 := (66, [vR o, vR ap, vR ar, vI k, vI p, vI (fb_ (2 * (n : Int)) w 9 (dgm (n : Int) b k) (p + 1))], [vR ar], aq_h m s F c_7)) rfl rfl ?_
          refine am_E.go (t2 := (68, [vR o, vR ap, vR ar, vI k, vI p, vI (fb_ (2 * (n : Int)) w 9 (dgm (n : Int) b k) (p + 1))], [vI p, vR ar], aq_h m s F c_7)) rfl rfl ?_
          refine am_E.go (t2 := (70, [vR o, vR ap, vR ar, vI k, vI p, vI (fb_ (2 * (n : Int)) w 9 (dgm (n : Int) b k) (p + 1))], [vI (fb_ (2 * (n : Int)) w 9 (dgm (n : Int) b k) (p + 1)), vI p, vR ar], aq_h m s F c_7)) rfl rfl ?_
          refine am_E.call rfl rfl rfl (Nat.le_of_ble_eq_true rfl) (qn_X0_pair har hFr (by omega) (by omega) (by omega) (by omega)) ?_
          rintro r5 h5 ⟨rfl, rfl⟩
          show am_E _ (73, [vR o, vR ap, vR ar, vI k, vI p, vI (fb_ (2 * (n : Int)) w 9 (dgm (n : Int) b k) (p + 1))], [], aq_h m s F (aq_u (aq_u c_7 ar p (fb_ (2 * (n : Int)) w 9 (dgm (n : Int) b k) (p + 1))) ar (fb_ (2 * (n : Int)) w 9 (dgm (n : Int) b k) (p + 1)) p)) _
          generalize hdc_8 : aq_u c_7 ar p (fb_ (2 * (n : Int)) w 9 (dgm (n : Int) b k) (p + 1)) = c_8
          have sc_8 := aq_smu sc_7 hdc_8 (Or.inr rfl)
          generalize hdc_9 : aq_u c_8 ar (fb_ (2 * (n : Int)) w 9 (dgm (n : Int) b k) (p + 1)) p = c_9
          have sc_9 := aq_smu sc_8 hdc_9 (Or.inr rfl)
          refine ae_iinc rfl rfl (am_ri (by omega) (by omega)) ?_
          show am_E _ (76, [vR o, vR ap, vR ar, vI (k + 1), vI p, vI (fb_ (2 * (n : Int)) w 9 (dgm (n : Int) b k) (p + 1))], [], aq_h m s F c_9) _
          refine ae_iinc rfl rfl (am_ri (by omega) (by omega)) ?_
          show am_E _ (79, [vR o, vR ap, vR ar, vI (k + 1), vI (p + 1), vI (fb_ (2 * (n : Int)) w 9 (dgm (n : Int) b k) (p + 1))], [], aq_h m s F c_9) _
          refine am_E.go (t2 := (9, [vR o, vR ap, vR ar, vI (k + 1), vI (p + 1), vI (fb_ (2 * (n : Int)) w 9 (dgm (n : Int) b k) (p + 1))], [], aq_h m s F c_9)) rfl rfl ?_
          exact qb_pairBy_l ⟨hm, hn1, hn4, hK, hFo, hFd, hFs⟩ hap hFp har hFr hn1a hn2a hn3a hb0 hbK hpv d (dc_u (dc_u w p) (fb_ (2 * (n : Int)) w 9 (dgm (n : Int) b k) (p + 1))) (k + 1) (p + 1) (vI (fb_ (2 * (n : Int)) w 9 (dgm (n : Int) b k) (p + 1))) c_9 sc_9 (by omega) (by omega) (by omega) (by omega) (fun i h5 h6 => by rw [← hdc_9, aq_un (Or.inl (by omega)), ← hdc_8, aq_un (Or.inl (by omega))]; exact dc_ac2 (dc_ac2 hw hdc_6) hdc_7 i h5 h6) (fun i h5 h6 h7 => by
      rw [← hdc_9]
      by_cases e1 : i = fb_ (2 * (n : Int)) w 9 (dgm (n : Int) b k) (p + 1)
      · rw [e1, aq_us, b7]
      · rw [aq_un (Or.inr e1), ← hdc_8]
        by_cases e2 : i = p
        · rw [e2, aq_us, b6]
        · rw [aq_un (Or.inr e2), ← hdc_7, aq_un (Or.inl (by omega)), ← hdc_6, aq_un (Or.inl (by omega))]
          unfold dc_u at h7
          rw [if_neg e1, if_neg e2] at h7
          exact hr i h5 h6 h7) b8

theorem qb_pairBy {m s : Nat} {F : aq_F} {c : aq_C} {o n K : Nat} (hB : bx_0 m F o n K) {ap ar : Nat} (hap : ap < m) (hFp : F ap = (0, n, fun _ => .inl 0)) (har : ar < m) (hFr : F ar = (0, 2 * n, fun _ => .inl 0)) (hn1a : ap ≠ o + 7 + 3 * K) (hn2a : ap ≠ ar) (hn3a : ar ≠ o + 7 + 3 * K) {b : Int} (hb0 : 0 ≤ b) (hbK : b < bx_K (n : Int)) (hpv : ∀ i, 0 ≤ i → i < (n : Int) → c ap i = dgm (n : Int) b i) : am_E ac_X0_pairBy (0, [vR o, vR ap, vR ar, vU, vU, vU], [], aq_h m s F c) (aq_Z m s F (fun a => a = o + 7 + 3 * K ∨ a = ar) c (fun r d => r = none ∧ ∀ i, 0 ≤ i → i < 2 * (n : Int) → d ar i = prt (n : Int) b i)) := by
  obtain ⟨hm, hn1, hn4, hK, hFo, hFd, hFs⟩ := hB
  refine am_E.go (t2 := (1, [vR o, vR ap, vR ar, vU, vU, vU], [vR o], aq_h m s F c)) rfl rfl ?_
  refine aq_callv (y := 1) (as2 := []) (rest := []) rfl rfl (by decide) (Nat.le_of_ble_eq_true rfl) rfl rfl (Nat.le_of_ble_eq_true rfl) (by omega) hFo rfl (Nat.le_of_ble_eq_true rfl) (qn_X0_forgetSeen ⟨hm, hn1, hn4, hK, hFo, hFd, hFs⟩) ?_
  rintro r5 h5 ⟨c_z, rfl, s_z, rfl, hz⟩
  show am_E _ (4, [vR o, vR ap, vR ar, vU, vU, vU], [], aq_h m s F c_z) _
  refine am_E.go (t2 := (5, [vR o, vR ap, vR ar, vU, vU, vU], [vI 0], aq_h m s F c_z)) rfl rfl ?_
  refine am_E.go (t2 := (6, [vR o, vR ap, vR ar, vI 0, vU, vU], [], aq_h m s F c_z)) rfl rfl ?_
  refine am_E.go (t2 := (7, [vR o, vR ap, vR ar, vI 0, vU, vU], [vI 0], aq_h m s F c_z)) rfl rfl ?_
  refine am_E.go (t2 := (9, [vR o, vR ap, vR ar, vI 0, vI 0, vU], [], aq_h m s F c_z)) rfl rfl ?_
  exact qb_pairBy_l ⟨hm, hn1, hn4, hK, hFo, hFd, hFs⟩ hap hFp har hFr hn1a hn2a hn3a hb0 hbK hpv 9 (fun _ => 0) 0 0 (vU) c_z (aq_smt (aq_sm0 (c := c) (S := (fun a => a = o + 7 + 3 * K ∨ a = ar))) (aq_smi s_z (fun a h => Or.inl h))) (by omega) (by omega) (by omega) (by omega) hz (fun i _ _ h7 => absurd h7 (by decide)) (pb_n (by omega) (by omega) hb0 hbK)

theorem qb_list_l {m s : Nat} {F : aq_F} {c0 : aq_C} {o n K : Nat} (hB : bx_0 m F o n K) (hKn : (K : Int) = bx_K (n : Int)) (hPg : F (o + 1) = (3, K, fun j => aq_g K j (o + 2 + j))) (hPr : ∀ b, b < K → F (o + 2 + b) = (0, 2 * n, fun _ => .inl 0)) {ap : Nat} (hap : ap < m) (hFp : F ap = (0, n, fun _ => .inl 0)) (hn1a : o + 8 + 3 * K ≤ ap) : ∀ (d : Nat) (b : Int) (c : aq_C) (hs : aq_sm (fun a => a = o + 7 + 3 * K ∨ a = ap ∨ (o + 2 ≤ a ∧ a < o + 2 + K)) c0 c) (h0 : 0 ≤ b) (h1 : b ≤ (K : Int)) (hpv : b < (K : Int) → ∀ i, 0 ≤ i → i < (n : Int) → c ap i = dgm (n : Int) b i) (hdn : ∀ b2 i : Int, 0 ≤ b2 → b2 < b → 0 ≤ i → i < 2 * (n : Int) → c (o + 2 + b2.toNat) i = prt (n : Int) b2 i) (hd : (K : Int) - b < (d : Int)), am_E ac_X0_listPairings (9, [vR o, vR ap, vI b], [], aq_h m s F c) (aq_Z m s F (fun a => a = o + 7 + 3 * K ∨ a = ap ∨ (o + 2 ≤ a ∧ a < o + 2 + K)) c0 (fun r d => r = none ∧ ∀ b i : Int, 0 ≤ b → b < (K : Int) → 0 ≤ i → i < 2 * (n : Int) → d (o + 2 + b.toNat) i = prt (n : Int) b i))
  | 0, b, c, hs, h0, h1, hpv, hdn, hd => by exfalso; omega
  | d + 1, b, c, hs, h0, h1, hpv, hdn, hd => by
    obtain ⟨hm, hn1, hn4, hK, hFo, hFd, hFs⟩ := hB
    refine am_E.go (t2 := (10, [vR o, vR ap, vI b], [vI b], aq_h m s F c)) rfl rfl ?_
    refine am_E.go (t2 := (11, [vR o, vR ap, vI b], [vR o, vI b], aq_h m s F c)) rfl rfl ?_
    refine aq_gf (v := vI (K : Int)) rfl (by omega) hFo (by decide) rfl ?_
    show am_E _ (14, [vR o, vR ap, vI b], [vI (K : Int), vI b], aq_h m s F c) _
    refine ae_icmp rfl (fun (q_1 : (K : Int) ≤ b) => ?_) (fun (q_1 : b < (K : Int)) => ?_)
    · refine am_E.ret rfl rfl ?_
      exact ⟨_, rfl, hs, rfl, fun b2 i k0 k1 k2 k3 => hdn b2 i k0 (by omega) k2 k3⟩
    · refine am_E.go (t2 := (18, [vR o, vR ap, vI b], [vR o], aq_h m s F c)) rfl rfl ?_
      refine am_E.go (t2 := (19, [vR o, vR ap, vI b], [vR ap, vR o], aq_h m s F c)) rfl rfl ?_
      refine am_E.go (t2 := (20, [vR o, vR ap, vI b], [vR o, vR ap, vR o], aq_h m s F c)) rfl rfl ?_
      refine aq_gf (v := vR (o + 1)) rfl (by omega) hFo (by decide) rfl ?_
      show am_E _ (23, [vR o, vR ap, vI b], [vR (o + 1), vR ap, vR o], aq_h m s F c) _
      refine am_E.go (t2 := (24, [vR o, vR ap, vI b], [vI b, vR (o + 1), vR ap, vR o], aq_h m s F c)) rfl rfl ?_
      refine aq_al (ok := fun k => decide (3 ≤ k) && decide (k < 7)) (v := vR (o + 2 + b.toNat)) rfl rfl (by omega) hPg rfl (by omega) (by omega) (aq_gi (by omega)) ?_
      show am_E _ (25, [vR o, vR ap, vI b], [vR (o + 2 + b.toNat), vR ap, vR o], aq_h m s F c) _
      refine aq_callv (y := 3) (as2 := [vR ap, vR (o + 2 + b.toNat)]) (rest := []) rfl rfl (by decide) (Nat.le_of_ble_eq_true rfl) rfl rfl (Nat.le_of_ble_eq_true rfl) (by omega) hFo rfl (Nat.le_of_ble_eq_true rfl) (qb_pairBy (ap := ap) (ar := o + 2 + b.toNat) ⟨hm, hn1, hn4, hK, hFo, hFd, hFs⟩ hap hFp (by omega) (hPr _ (by omega)) (by omega) (by omega) (by omega) (b := b) (by omega) (by omega) (hpv (by omega))) ?_
      rintro r5 h5 ⟨c_1, rfl, s_1, rfl, r_1⟩
      show am_E _ (28, [vR o, vR ap, vI b], [], aq_h m s F c_1) _
      refine am_E.go (t2 := (29, [vR o, vR ap, vI b], [vR o], aq_h m s F c_1)) rfl rfl ?_
      refine am_E.go (t2 := (30, [vR o, vR ap, vI b], [vR ap, vR o], aq_h m s F c_1)) rfl rfl ?_
      refine aq_callv (y := 2) (as2 := [vR ap]) (rest := []) rfl rfl (by decide) (Nat.le_of_ble_eq_true rfl) rfl rfl (Nat.le_of_ble_eq_true rfl) (by omega) hFo rfl (Nat.le_of_ble_eq_true rfl) (qb_countUp (ap := ap) ⟨hm, hn1, hn4, hK, hFo, hFd, hFs⟩ hap hFp (v := dgm (n : Int) b) (fun i h5 h6 => by rw [s_1 ap (by omega)]; exact hpv (by omega) i h5 h6) (fun i _ _ => dgm_r (by omega) (by omega) (by omega) (by omega))) ?_
      rintro r5 h5 ⟨c_2, rfl, s_2, rfl, r_2⟩
      show am_E _ (33, [vR o, vR ap, vI b], [], aq_h m s F c_2) _
      refine ae_iinc rfl rfl (am_ri (by omega) (by omega)) ?_
      show am_E _ (36, [vR o, vR ap, vI (b + 1)], [], aq_h m s F c_2) _
      refine am_E.go (t2 := (9, [vR o, vR ap, vI (b + 1)], [], aq_h m s F c_2)) rfl rfl ?_
      exact qb_list_l ⟨hm, hn1, hn4, hK, hFo, hFd, hFs⟩ hKn hPg hPr hap hFp hn1a d (b + 1) c_2 (aq_smt (aq_smt hs (aq_smi s_1 (fun a h => by omega))) (aq_smi s_2 (fun a h => by omega))) (by omega) (by omega) (fun h9 i h5 h6 => by rw [r_2 i h5 h6]; exact cu_n (by omega) (by omega) (by omega) (by omega) h5 h6) (fun b2 i k0 k1 k2 k3 => by rw [s_2 _ (by omega)]; by_cases e : b2 = b; (rw [e]; exact r_1 i k2 k3); rw [s_1 _ (by omega)]; exact hdn b2 i k0 (by omega) k2 k3) (by omega)

def su_t0 : Nat → aq_T := fun y => match y with
  | 2 => .inr vN
  | 3 => .inr vN
  | 4 => .inr vN
  | _ => .inl 0
def cr_t0 : Nat → aq_T := fun y => match y with
  | 2 => .inr vN
  | 3 => .inr vN
  | _ => .inl 0

theorem qn_X3_init {s : Nat} {F : aq_F} {c : aq_C} {a : Nat} (hy : F a = (13, 5, su_t0)) : am_E ac_X3_init (0, [vR a], [], aq_h (a + 1) s F c) (fun r h2 => ∃ F2 c2, r = none ∧ h2 = aq_h (a + 4) (s + 120) F2 c2 ∧ su_0 (a + 4) F2 a ∧ (∀ b, b < a → F2 b = F b) ∧ (∀ b, b < a → ∀ i, c2 b i = c b i) ∧ c2 a 0 = 2 ∧ ∀ i, i ≠ 0 → c2 a i = c a i) := by
  refine am_E.go (t2 := (1, [vR a], [vR a], aq_h (a + 1) s F c)) rfl rfl ?_
  refine am_E.go (t2 := (4, [vR a], [], aq_h (a + 1) s F c)) rfl rfl ?_
  refine am_E.go (t2 := (5, [vR a], [vR a], aq_h (a + 1) s F c)) rfl rfl ?_
  refine am_E.go (t2 := (6, [vR a], [vI 2, vR a], aq_h (a + 1) s F c)) rfl rfl ?_
  refine aq_pf rfl (by omega) hy (by decide) rfl rfl ?_
  show am_E _ (9, [vR a], [], aq_h (a + 1) s F (aq_u c a 0 2)) _
  refine am_E.go (t2 := (10, [vR a], [vR a], aq_h (a + 1) s F (aq_u c a 0 2))) rfl rfl ?_
  refine am_E.go (t2 := (12, [vR a], [vI 40, vR a], aq_h (a + 1) s F (aq_u c a 0 2))) rfl rfl ?_
  refine aq_step (o := a) (n := 40) rfl rfl hy (by omega) (by decide) rfl (by decide) rfl (by decide) (fun F_1 c_1 hy_1 a_1 o_1 z_1 u_1 => ?_)
  show am_E _ (17, [vR a], [], aq_h (a + 2) (s + 40) F_1 c_1) _
  refine am_E.go (t2 := (18, [vR a], [vR a], aq_h (a + 2) (s + 40) F_1 c_1)) rfl rfl ?_
  refine am_E.go (t2 := (20, [vR a], [vI 40, vR a], aq_h (a + 2) (s + 40) F_1 c_1)) rfl rfl ?_
  refine aq_step (o := a) (n := 40) rfl rfl hy_1 (by omega) (by decide) rfl (by decide) rfl (by decide) (fun F_2 c_2 hy_2 a_2 o_2 z_2 u_2 => ?_)
  show am_E _ (25, [vR a], [], aq_h (a + 3) (s + 80) F_2 c_2) _
  refine am_E.go (t2 := (26, [vR a], [vR a], aq_h (a + 3) (s + 80) F_2 c_2)) rfl rfl ?_
  refine am_E.go (t2 := (28, [vR a], [vI 40, vR a], aq_h (a + 3) (s + 80) F_2 c_2)) rfl rfl ?_
  refine aq_step (o := a) (n := 40) rfl rfl hy_2 (by omega) (by decide) rfl (by decide) rfl (by decide) (fun F_3 c_3 hy_3 a_3 o_3 z_3 u_3 => ?_)
  show am_E _ (33, [vR a], [], aq_h (a + 4) (s + 120) F_3 c_3) _
  have et : am_up (am_up (am_up (su_t0) 2 (.inr (vR (a + 1)))) 3 (.inr (vR (a + 2)))) 4 (.inr (vR (a + 3))) = su_t a := by
    funext k
    have hk : k = 0 ∨ k = 1 ∨ k = 2 ∨ k = 3 ∨ k = 4 ∨ 5 ≤ k := by omega
    rcases hk with hk | hk | hk | hk | hk | hk
    · subst hk; rfl
    · subst hk; rfl
    · subst hk; rfl
    · subst hk; rfl
    · subst hk; rfl
    · obtain ⟨j, rfl⟩ : ∃ j, k = j + 5 := ⟨k - 5, by omega⟩
      repeat rw [am_up_n (by omega)]
      rfl
  refine am_E.ret rfl rfl ⟨_, _, rfl, rfl, ⟨Nat.le_refl _, by rw [← et]; exact hy_3, by rw [o_3 _ (by omega) (by omega), o_2 _ (by omega) (by omega)]; exact a_1, by rw [o_3 _ (by omega) (by omega)]; exact a_2, by exact a_3⟩, fun b hb => by rw [o_3 _ (by omega) (by omega), o_2 _ (by omega) (by omega), o_1 _ (by omega) (by omega)], fun b hb i => by rw [u_3 _ (by omega), u_2 _ (by omega), u_1 _ (by omega), aq_un (Or.inl (by omega))], by rw [u_3 _ (by omega), u_2 _ (by omega), u_1 _ (by omega), aq_us], fun i hi => by rw [u_3 _ (by omega), u_2 _ (by omega), u_1 _ (by omega), aq_un (Or.inr hi)]⟩

theorem qn_X1_init {s : Nat} {F : aq_F} {c : aq_C} {a : Nat} (hy : F a = (11, 5, cr_t0)) : am_E ac_X1_init (0, [vR a], [], aq_h (a + 1) s F c) (fun r h2 => ∃ F2 c2, r = none ∧ h2 = aq_h (a + 3) (s + 89) F2 c2 ∧ cr_0 (a + 3) F2 a ∧ (∀ b, b < a → F2 b = F b) ∧ (∀ b, b < a → ∀ i, c2 b i = c b i) ∧ c2 a 0 = 2 ∧ ∀ i, i ≠ 0 → c2 a i = c a i) := by
  refine am_E.go (t2 := (1, [vR a], [vR a], aq_h (a + 1) s F c)) rfl rfl ?_
  refine am_E.go (t2 := (4, [vR a], [], aq_h (a + 1) s F c)) rfl rfl ?_
  refine am_E.go (t2 := (5, [vR a], [vR a], aq_h (a + 1) s F c)) rfl rfl ?_
  refine am_E.go (t2 := (6, [vR a], [vI 2, vR a], aq_h (a + 1) s F c)) rfl rfl ?_
  refine aq_pf rfl (by omega) hy (by decide) rfl rfl ?_
  show am_E _ (9, [vR a], [], aq_h (a + 1) s F (aq_u c a 0 2)) _
  refine am_E.go (t2 := (10, [vR a], [vR a], aq_h (a + 1) s F (aq_u c a 0 2))) rfl rfl ?_
  refine am_E.go (t2 := (12, [vR a], [vI 8, vR a], aq_h (a + 1) s F (aq_u c a 0 2))) rfl rfl ?_
  refine aq_step (o := a) (n := 8) rfl rfl hy (by omega) (by decide) rfl (by decide) rfl (by decide) (fun F_1 c_1 hy_1 a_1 o_1 z_1 u_1 => ?_)
  show am_E _ (17, [vR a], [], aq_h (a + 2) (s + 8) F_1 c_1) _
  refine am_E.go (t2 := (18, [vR a], [vR a], aq_h (a + 2) (s + 8) F_1 c_1)) rfl rfl ?_
  refine am_E.go (t2 := (20, [vR a], [vI 81, vR a], aq_h (a + 2) (s + 8) F_1 c_1)) rfl rfl ?_
  refine aq_step (o := a) (n := 81) rfl rfl hy_1 (by omega) (by decide) rfl (by decide) rfl (by decide) (fun F_2 c_2 hy_2 a_2 o_2 z_2 u_2 => ?_)
  show am_E _ (25, [vR a], [], aq_h (a + 3) (s + 89) F_2 c_2) _
  have et : am_up (am_up (cr_t0) 2 (.inr (vR (a + 1)))) 3 (.inr (vR (a + 2))) = cr_t a := by
    funext k
    have hk : k = 0 ∨ k = 1 ∨ k = 2 ∨ k = 3 ∨ k = 4 ∨ 5 ≤ k := by omega
    rcases hk with hk | hk | hk | hk | hk | hk
    · subst hk; rfl
    · subst hk; rfl
    · subst hk; rfl
    · subst hk; rfl
    · subst hk; rfl
    · obtain ⟨j, rfl⟩ : ∃ j, k = j + 5 := ⟨k - 5, by omega⟩
      repeat rw [am_up_n (by omega)]
      rfl
  refine am_E.ret rfl rfl ⟨_, _, rfl, rfl, ⟨Nat.le_refl _, by rw [← et]; exact hy_2, by rw [o_2 _ (by omega) (by omega)]; exact a_1, by exact a_2⟩, fun b hb => by rw [o_2 _ (by omega) (by omega), o_1 _ (by omega) (by omega)], fun b hb i => by rw [u_2 _ (by omega), u_1 _ (by omega), aq_un (Or.inl (by omega))], by rw [u_2 _ (by omega), u_1 _ (by omega), aq_us], fun i hi => by rw [u_2 _ (by omega), u_1 _ (by omega), aq_un (Or.inr hi)]⟩
/-! Constructors: more rules for new cells, in heaps of a shape. -/
theorem aq_eq {m s : Nat} {F F2 : aq_F} {c c2 : aq_C} (h : ∀ a, (F2 a).1 = (F a).1 ∧ (F2 a).2.1 = (F a).2.1 ∧ ∀ i : Nat, aq_w ((F2 a).2.2 i) (c2 a (i : Int)) = aq_w ((F a).2.2 i) (c a (i : Int))) : aq_h m s F c = aq_h m s F2 c2 := by
  show (m, s, (aq_h m s F c).2.2) = (m, s, (aq_h m s F2 c2).2.2)
  refine congrArg (fun f => (m, s, f)) ?_
  funext a
  show ((F a).1, (F a).2.1, fun i : Nat => aq_w ((F a).2.2 i) (c a (i : Int))) = ((F2 a).1, (F2 a).2.1, fun i : Nat => aq_w ((F2 a).2.2 i) (c2 a (i : Int)))
  obtain ⟨h1, h2, h3⟩ := h a
  rw [h1, h2]
  refine congrArg (fun f => ((F a).1, (F a).2.1, f)) ?_
  funext i
  exact (h3 i).symm
/-- the cells of T hold numbers that stay from here on -/
noncomputable def aq_fz (T : Nat → Prop) (F : aq_F) (c : aq_C) : aq_F := fun a => @ite (Nat × Nat × (Nat → aq_T)) (T a) (Classical.propDecidable (T a)) ((F a).1, (F a).2.1, fun j => .inr (vI (c a (j : Int)))) (F a)
theorem aq_fzh {m s : Nat} {F : aq_F} {c : aq_C} {T : Nat → Prop} (h : ∀ a, T a → ∃ n, F a = (0, n, fun _ => .inl 0)) : aq_h m s F c = aq_h m s (aq_fz T F c) c := by
  refine aq_eq fun a => ?_
  unfold aq_fz
  by_cases e : T a
  · rw [if_pos e]
    obtain ⟨n, hn⟩ := h a e
    refine ⟨rfl, rfl, fun i => ?_⟩
    rw [hn]
    rfl
  · rw [if_neg e]
    exact ⟨rfl, rfl, fun i => rfl⟩
theorem aq_fzy {F : aq_F} {c : aq_C} {T : Nat → Prop} {a n : Nat} (h : T a) (hF : F a = (0, n, fun _ => .inl 0)) : aq_fz T F c a = (0, n, fun j => .inr (vI (c a (j : Int)))) := by
  unfold aq_fz
  rw [if_pos h, hF]
theorem aq_fzn {F : aq_F} {c : aq_C} {T : Nat → Prop} {a : Nat} (h : ¬ T a) : aq_fz T F c a = F a := by
  unfold aq_fz
  rw [if_neg h]
theorem aq_grid {m s n w : Nat} {F : aq_F} {c : aq_C} : am_grid (aq_h m s F c) n w = aq_h (m + 1 + n) (s + n + n * w) (fun a => if a = m then (3, n, fun j => aq_g n j (m + 1 + j)) else if m < a ∧ a < m + 1 + n then (0, w, fun _ => .inl 0) else F a) (fun a i => if m ≤ a ∧ a < m + 1 + n then 0 else c a i) := by
  unfold am_grid
  refine congrArg (fun f => (m + 1 + n, s + n + n * w, f)) ?_
  funext a
  show (if a = m then (3, n, fun i => if i < n then vR (m + 1 + i) else vN) else if m < a ∧ a < m + 1 + n then (0, w, fun _ => vI 0) else ((F a).1, (F a).2.1, fun i : Nat => aq_w ((F a).2.2 i) (c a (i : Int)))) = _
  show _ = (((fun a => if a = m then (3, n, fun j => aq_g n j (m + 1 + j)) else if m < a ∧ a < m + 1 + n then (0, w, fun _ => .inl 0) else F a : aq_F) a).1, ((fun a => if a = m then (3, n, fun j => aq_g n j (m + 1 + j)) else if m < a ∧ a < m + 1 + n then (0, w, fun _ => .inl 0) else F a : aq_F) a).2.1, fun i : Nat => aq_w (((fun a => if a = m then (3, n, fun j => aq_g n j (m + 1 + j)) else if m < a ∧ a < m + 1 + n then (0, w, fun _ => .inl 0) else F a : aq_F) a).2.2 i) (if m ≤ a ∧ a < m + 1 + n then 0 else c a (i : Int)))
  by_cases e : a = m
  · simp only [if_pos e]
    rfl
  · simp only [if_neg e]
    by_cases e2 : m < a ∧ a < m + 1 + n
    · have e3 : m ≤ a ∧ a < m + 1 + n := by omega
      simp only [if_pos e2, if_pos e3]
      rfl
    · have e3 : ¬ (m ≤ a ∧ a < m + 1 + n) := by omega
      simp only [if_neg e2, if_neg e3]
def aq_ot (k : Nat) : aq_T := match k with
  | 0 => .inl 0
  | 1 => .inl 0
  | 2 => .inl 2
  | _ => .inr vN
theorem aq_otw (k : Nat) : aq_w (aq_ot k) 0 = am_dv k := by
  match k with
  | 0 => rfl
  | 1 => rfl
  | 2 => rfl
  | k + 3 => rfl
section AE
variable {C : am_C} {pc : Nat} {ls st : List am_V} {Z : Option am_V → am_H → Prop} {m s : Nat} {F : aq_F} {c : aq_C}
theorem aq_mkg {kd n : Nat} {f : Nat → am_V} {t : Nat → aq_T} (h : ∀ i, aq_w (t i) 0 = f i) : am_mk (aq_h m s F c) kd n f = aq_h (m + 1) (s + n) (am_up F m (kd, n, t)) (fun a i => if a = m then 0 else c a i) := by
  unfold am_mk
  refine congrArg (fun f => (m + 1, s + n, f)) ?_
  funext a
  by_cases e : a = m
  · subst e
    show am_up (aq_h a s F c).2.2 a (kd, n, f) a = ((am_up F a (kd, n, t) a).1, (am_up F a (kd, n, t) a).2.1, fun i : Nat => aq_w ((am_up F a (kd, n, t) a).2.2 i) (if a = a then 0 else c a (i : Int)))
    simp only [am_up_s]
    refine congrArg (fun f => (kd, n, f)) ?_
    funext i
    rw [if_pos trivial, h i]
  · show am_up (aq_h m s F c).2.2 m (kd, n, f) a = _
    rw [am_up_n e]
    show ((F a).1, (F a).2.1, fun i : Nat => aq_w ((F a).2.2 i) (c a (i : Int))) = ((am_up F m _ a).1, (am_up F m _ a).2.1, fun i : Nat => aq_w ((am_up F m _ a).2.2 i) (if a = m then 0 else c a (i : Int)))
    rw [am_up_n e]
    simp only [if_neg e]
/-- a new object -/
theorem aq_new {i x N a m2 : Nat} (hrow : am_row C pc = some (.new i, 3, x, N)) (ha : a = m) (hm : m2 = m + 1) (k : ∀ (s2 : Nat) (F2 : aq_F) (c2 : aq_C), s2 = s + N → F2 a = (10 + x, N, fun j => aq_ot (ac_ft x j)) → (∀ b, b ≠ a → F2 b = F b) → (∀ j, c2 a j = 0) → (∀ b, b ≠ a → ∀ j, c2 b j = c b j) → am_E C (pc + 3, ls, vR a :: st, aq_h m2 s2 F2 c2) Z) : am_E C (pc, ls, st, aq_h m s F c) Z := by
  subst ha
  subst hm
  refine am_E.go hrow (t2 := (pc + 3, ls, vR a :: st, am_mk (aq_h a s F c) (10 + x) N (fun j => am_dv (ac_ft x j)))) rfl ?_
  rw [aq_mkg (fun i => aq_otw (ac_ft x i))]
  exact k _ _ _ rfl am_up_s (fun b hb => am_up_n hb) (fun j => if_pos rfl) (fun b hb j => if_neg hb)
/-- a new array of numbers -/
theorem aq_nwa {ty : Jvm.ClassFile.ArrayType} {kd y1 n a m2 : Nat} {v : Int} (hrow : am_row C pc = some (.newarray ty, 2, kd, y1)) (hkd : kd ≤ 1) (hv : v = (n : Int)) (hn : n ≤ 1024) (ha : a = m) (hm : m2 = m + 1) (k : ∀ (s2 : Nat) (F2 : aq_F) (c2 : aq_C), s2 = s + n → F2 a = (kd, n, fun _ => .inl 0) → (∀ b, b ≠ a → F2 b = F b) → (∀ j, c2 a j = 0) → (∀ b, b ≠ a → ∀ j, c2 b j = c b j) → am_E C (pc + 2, ls, vR a :: st, aq_h m2 s2 F2 c2) Z) : am_E C (pc, ls, vI v :: st, aq_h m s F c) Z := by
  subst ha
  subst hm
  refine ae_newa (h := aq_h a s F c) (lo := 0) (top := 2) (n := n) hrow rfl hv hn ⟨by omega, by omega⟩ ?_
  rw [aq_mkg (t := fun _ => .inl 0) (fun i => by rcases (show kd = 0 ∨ kd = 1 by omega) with h | h <;> subst h <;> rfl)]
  exact k _ _ _ rfl am_up_s (fun b hb => am_up_n hb) (fun j => if_pos rfl) (fun b hb j => if_neg hb)
/-- a new array of references -/
theorem aq_nwr {i kd y1 n a m2 : Nat} {v : Int} (hrow : am_row C pc = some (.anewarray i, 3, kd, y1)) (hkd : 4 ≤ kd ∧ kd ≤ 6) (hv : v = (n : Int)) (hn : n ≤ 1024) (ha : a = m) (hm : m2 = m + 1) (k : ∀ (s2 : Nat) (F2 : aq_F) (c2 : aq_C), s2 = s + n → F2 a = (kd, n, fun _ => .inr vN) → (∀ b, b ≠ a → F2 b = F b) → (∀ b, b ≠ a → ∀ j, c2 b j = c b j) → am_E C (pc + 3, ls, vR a :: st, aq_h m2 s2 F2 c2) Z) : am_E C (pc, ls, vI v :: st, aq_h m s F c) Z := by
  subst ha
  subst hm
  refine ae_newa (h := aq_h a s F c) (lo := 4) (top := 6) (n := n) hrow rfl hv hn hkd ?_
  rw [aq_mkg (t := fun _ => .inr vN) (fun i => by rcases (show kd = 4 ∨ kd = 5 ∨ kd = 6 by omega) with h | h | h <;> subst h <;> rfl)]
  exact k _ _ _ rfl am_up_s (fun b hb => am_up_n hb) (fun b hb j => if_neg hb)
/-- a reference into a field -/
theorem aq_pfr {i x fl o N a : Nat} {tg : Nat → aq_T} (hrow : am_row C pc = some (.putfield i, 3, x, fl)) (ho : o < m) (hF : F o = (10 + x, N, tg)) (hfl : fl < N) (hft : ac_ft x fl = 3) (k : ∀ F2 : aq_F, F2 o = (10 + x, N, am_up tg fl (.inr (vR a))) → (∀ b, b ≠ o → F2 b = F b) → am_E C (pc + 3, ls, st, aq_h m s F2 c) Z) : am_E C (pc, ls, vR a :: vR o :: st, aq_h m s F c) Z := by
  refine ae_pf (h := aq_h m s F c) hrow ho (aq_hc hF) hfl (by rw [hft]; rfl) ?_
  rw [aq_wp hF]
  exact k _ am_up_s (fun b hb => am_up_n hb)
/-- a reference into an array -/
theorem aq_aas {x y a b n n2 kd j : Nat} {i : Int} {tg tg2 : Nat → aq_T} (hrow : am_row C pc = some (.aastore, 1, x, y)) (ha : a < m) (hb : b < m) (hF : F a = (kd, n, tg)) (hF2 : F b = (am_comp kd, n2, tg2)) (h4 : 4 ≤ kd) (h7 : kd < 7) (hi : i = (j : Int)) (hj : j < n) (k : ∀ F2 : aq_F, F2 a = (kd, n, am_up tg j (.inr (vR b))) → (∀ d, d ≠ a → F2 d = F d) → am_E C (pc + 1, ls, st, aq_h m s F2 c) Z) : am_E C (pc, ls, vR b :: vI i :: vR a :: st, aq_h m s F c) Z := by
  refine ae_aast (h := aq_h m s F c) hrow ha hb (aq_hc hF) (aq_hc hF2) h4 h7 hi hj ?_
  rw [aq_wp hF]
  exact k _ am_up_s (fun b hb => am_up_n hb)
/-- a new array of numbers, put into a field -/
theorem aq_stp {ty : Jvm.ClassFile.ArrayType} {kd y1 i x fl o n N a m2 : Nat} {v : Int} {tg : Nat → aq_T} (hr1 : am_row C pc = some (.newarray ty, 2, kd, y1)) (hr2 : am_row C (pc + 2) = some (.putfield i, 3, x, fl)) (hF : F o = (10 + x, N, tg)) (ho : o < m) (hkd : kd ≤ 1) (hv : v = (n : Int)) (hn : n ≤ 1024) (hft : ac_ft x fl = 3) (hfl : fl < N) (ha : a = m) (hm : m2 = m + 1) (k : ∀ (s2 : Nat) (F2 : aq_F) (c2 : aq_C), s2 = s + n → F2 o = (10 + x, N, am_up tg fl (.inr (vR a))) → F2 a = (kd, n, fun _ => .inl 0) → (∀ b, b ≠ o → b ≠ a → F2 b = F b) → (∀ j, c2 a j = 0) → (∀ b, b ≠ a → ∀ j, c2 b j = c b j) → am_E C (pc + 5, ls, st, aq_h m2 s2 F2 c2) Z) : am_E C (pc, ls, vI v :: vR o :: st, aq_h m s F c) Z := by
  refine aq_nwa hr1 hkd hv hn ha hm fun s2 F2 c2 e1 e2 e3 e4 e5 => ?_
  refine aq_pfr (pc := pc + 2) (F := F2) hr2 (by omega) (by rw [e3 o (by omega)]; exact hF) hfl hft fun F3 e6 e7 => ?_
  exact k s2 F3 c2 e1 e6 (by rw [e7 a (by omega)]; exact e2) (fun b h1 h2 => by rw [e7 b h1, e3 b h2]) e4 e5
/-- a new row of rows, put into a field -/
theorem aq_gst {i1 d1 x1 y1 i x fl o n w N a m2 : Nat} {v v2 : Int} {tg : Nat → aq_T} (hr1 : am_row C pc = some (.multianewarray i1 d1, 4, x1, y1)) (hr2 : am_row C (pc + 4) = some (.putfield i, 3, x, fl)) (hF : F o = (10 + x, N, tg)) (ho : o < m) (hv : v = (n : Int)) (hv2 : v2 = (w : Int)) (hn : n ≤ 1024) (hw : w ≤ 1024) (hft : ac_ft x fl = 3) (hfl : fl < N) (ha : a = m) (hm : m2 = m + 1 + n) (k : ∀ (s2 : Nat) (F2 : aq_F) (c2 : aq_C), s2 = s + n + n * w → F2 o = (10 + x, N, am_up tg fl (.inr (vR a))) → F2 a = (3, n, fun j => aq_g n j (a + 1 + j)) → (∀ b, b < n → F2 (a + 1 + b) = (0, w, fun _ => .inl 0)) → (∀ b, b ≠ o → (b < a ∨ m2 ≤ b) → F2 b = F b) → (∀ b, a ≤ b → b < m2 → ∀ j, c2 b j = 0) → (∀ b, (b < a ∨ m2 ≤ b) → ∀ j, c2 b j = c b j) → am_E C (pc + 7, ls, st, aq_h m2 s2 F2 c2) Z) : am_E C (pc, ls, vI v2 :: vI v :: vR o :: st, aq_h m s F c) Z := by
  subst ha
  refine ae_mna (h := aq_h a s F c) (n := n) (m := w) hr1 hv hv2 hn hw ?_
  rw [aq_grid, ← hm]
  show am_E C (pc + 4, ls, vR a :: vR o :: st, aq_h m2 (s + n + n * w) _ _) Z
  refine aq_pfr (pc := pc + 4) (o := o) (tg := tg) (N := N) hr2 (by omega) ?_ hfl hft fun F3 e6 e7 => ?_
  · rw [if_neg (by omega), if_neg (by omega)]
    exact hF
  refine k _ F3 _ rfl e6 ?_ (fun b hb => ?_) (fun b h1 h2 => ?_) (fun b h1 h2 j => ?_) (fun b h1 j => ?_)
  · rw [e7 a (by omega), if_pos rfl]
  · rw [e7 _ (by omega), if_neg (by omega), if_pos (by omega)]
  · rw [e7 b h1]
    by_cases e : b = a
    · omega
    · rw [if_neg e, if_neg (by omega)]
  · rw [if_pos (by omega)]
  · rw [if_neg (by omega)]
end AE

def bx_t0 : Nat → aq_T := fun j => aq_ot (ac_ft 0 j)
/-- the numbers are set, no array is there -/
def bx_t1 (n K : Nat) : Nat → aq_T := fun y => match y with
  | 0 => .inr (vI (n : Int))
  | 1 => .inr (vI (2 * (n : Int)))
  | 2 => .inr (vI (2 * (n : Int) - 2))
  | 3 => .inr (vI (K : Int))
  | y + 4 => bx_t0 (y + 4)
theorem bx_cnt {n K : Nat} (h1 : 1 ≤ n) (h4 : n ≤ 4) (hK : (K : Int) = bx_K (n : Int)) (h : am_H) : am_E ac_X0_countPairings (0, [vI (2 * (n : Int)), vU, vU], [], h) (fun r h2 => r = some (vI (K : Int)) ∧ h2 = h) := by
  have hn : n = 1 ∨ n = 2 ∨ n = 3 ∨ n = 4 := by omega
  rcases hn with hn | hn | hn | hn <;> subst hn <;> rw [hK]
  · exact rn_X0_count2 h
  · exact rn_X0_count4 h
  · exact rn_X0_count6 h
  · exact rn_X0_count8 h
theorem bx_K105 {n K : Nat} (h1 : 1 ≤ n) (h4 : n ≤ 4) (hK : (K : Int) = bx_K (n : Int)) : 1 ≤ K ∧ K ≤ 105 := by
  have hn : n = 1 ∨ n = 2 ∨ n = 3 ∨ n = 4 := by omega
  rcases hn with hn | hn | hn | hn <;> subst hn
  · have : (K : Int) = 1 := hK
    omega
  · have : (K : Int) = 3 := hK
    omega
  · have : (K : Int) = 15 := hK
    omega
  · have : (K : Int) = 105 := hK
    omega
/-- all arrays are there: the object and draft and seen are as they stay, the tables hold noughts -/
def bx_i (F : aq_F) (o n K : Nat) : Prop := F o = (10, 11, bx_t o n K) ∧ F (o + 6 + 3 * K) = (0, 2 * n, fun _ => .inl 0) ∧ F (o + 7 + 3 * K) = (1, 2 * n, fun _ => .inl 0) ∧
  F (o + 1) = (3, K, fun j => aq_g K j (o + 2 + j)) ∧ (∀ b, b < K → F (o + 2 + b) = (0, 2 * n, fun _ => .inl 0)) ∧ F (o + 2 + K) = (0, K, fun _ => .inl 0) ∧ F (o + 3 + K) = (0, K, fun _ => .inl 0) ∧
  F (o + 4 + K) = (3, K, fun j => aq_g K j (o + 5 + K + j)) ∧ (∀ b, b < K → F (o + 5 + K + b) = (0, 6, fun _ => .inl 0)) ∧ F (o + 5 + 2 * K) = (3, K, fun j => aq_g K j (o + 6 + 2 * K + j)) ∧ (∀ b, b < K → F (o + 6 + 2 * K + b) = (0, 2 * n - 2, fun _ => .inl 0))

theorem qb_ini0 {s : Nat} {F : aq_F} {c : aq_C} {o n K : Nat} {Z : Option am_V → am_H → Prop} (h1 : 1 ≤ n) (h4 : n ≤ 4) (hK : (K : Int) = bx_K (n : Int)) (hF : F o = (10, 11, bx_t0)) (hc : ∀ j, c o j = 0) (k : ∀ (s2 : Nat) (F2 : aq_F) (c2 : aq_C), s2 ≤ s + 2700 → bx_i F2 o n K → (∀ b, b < o → F2 b = F b) → (∀ b, b < o → ∀ j, c2 b j = c b j) → (∀ b, o < b → b < o + 8 + 3 * K → ∀ j, c2 b j = 0) → am_E ac_X0_init (122, [vR o, vI (n : Int), vU], [], aq_h (o + 8 + 3 * K) s2 F2 c2) Z) : am_E ac_X0_init (0, [vR o, vI (n : Int), vU], [], aq_h (o + 1) s F c) Z := by
  have hKb := bx_K105 h1 h4 hK
  refine am_E.go (t2 := (1, [vR o, vI (n : Int), vU], [vR o], aq_h (o + 1) s F c)) rfl rfl ?_
  refine am_E.go (t2 := (4, [vR o, vI (n : Int), vU], [], aq_h (o + 1) s F c)) rfl rfl ?_
  refine am_E.go (t2 := (5, [vR o, vI (n : Int), vU], [vR o], aq_h (o + 1) s F c)) rfl rfl ?_
  refine am_E.go (t2 := (6, [vR o, vI (n : Int), vU], [vI (n : Int), vR o], aq_h (o + 1) s F c)) rfl rfl ?_
  refine aq_pf rfl (by omega) hF (by decide) rfl rfl ?_
  show am_E _ (9, [vR o, vI (n : Int), vU], [], aq_h (o + 1) s F (aq_u c o 0 (n : Int))) _
  generalize hd0 : aq_u c o 0 (n : Int) = c_0
  refine am_E.go (t2 := (10, [vR o, vI (n : Int), vU], [vR o], aq_h (o + 1) s F c_0)) rfl rfl ?_
  refine am_E.go (t2 := (11, [vR o, vI (n : Int), vU], [vI 2, vR o], aq_h (o + 1) s F c_0)) rfl rfl ?_
  refine am_E.go (t2 := (12, [vR o, vI (n : Int), vU], [vI (n : Int), vI 2, vR o], aq_h (o + 1) s F c_0)) rfl rfl ?_
  refine ae_mul rfl (am_ri (by omega) (by omega)) ?_
  show am_E _ (13, [vR o, vI (n : Int), vU], [vI (2 * (n : Int)), vR o], aq_h (o + 1) s F c_0) _
  refine aq_pf rfl (by omega) hF (by decide) rfl rfl ?_
  show am_E _ (16, [vR o, vI (n : Int), vU], [], aq_h (o + 1) s F (aq_u c_0 o 1 (2 * (n : Int)))) _
  generalize hd1 : aq_u c_0 o 1 (2 * (n : Int)) = c_1
  refine am_E.go (t2 := (17, [vR o, vI (n : Int), vU], [vR o], aq_h (o + 1) s F c_1)) rfl rfl ?_
  refine am_E.go (t2 := (18, [vR o, vI (n : Int), vU], [vI 2, vR o], aq_h (o + 1) s F c_1)) rfl rfl ?_
  refine am_E.go (t2 := (19, [vR o, vI (n : Int), vU], [vI (n : Int), vI 2, vR o], aq_h (o + 1) s F c_1)) rfl rfl ?_
  refine am_E.go (t2 := (20, [vR o, vI (n : Int), vU], [vI 1, vI (n : Int), vI 2, vR o], aq_h (o + 1) s F c_1)) rfl rfl ?_
  refine ae_sub rfl (am_ri (by omega) (by omega)) ?_
  show am_E _ (21, [vR o, vI (n : Int), vU], [vI ((n : Int) - 1), vI 2, vR o], aq_h (o + 1) s F c_1) _
  refine ae_mul rfl (am_ri (by omega) (by omega)) ?_
  show am_E _ (22, [vR o, vI (n : Int), vU], [vI (2 * ((n : Int) - 1)), vR o], aq_h (o + 1) s F c_1) _
  refine aq_pf rfl (by omega) hF (by decide) rfl rfl ?_
  show am_E _ (25, [vR o, vI (n : Int), vU], [], aq_h (o + 1) s F (aq_u c_1 o 2 (2 * ((n : Int) - 1)))) _
  generalize hd2 : aq_u c_1 o 2 (2 * ((n : Int) - 1)) = c_2
  refine am_E.go (t2 := (26, [vR o, vI (n : Int), vU], [vR o], aq_h (o + 1) s F c_2)) rfl rfl ?_
  refine am_E.go (t2 := (27, [vR o, vI (n : Int), vU], [vR o, vR o], aq_h (o + 1) s F c_2)) rfl rfl ?_
  have e1 : c_2 o 1 = 2 * (n : Int) := by rw [← hd2, aq_un (Or.inr (by decide)), ← hd1, aq_us]
  refine aq_gf (v := vI (2 * (n : Int))) rfl (by omega) hF (by decide) (by rw [← e1]; rfl) ?_
  show am_E _ (30, [vR o, vI (n : Int), vU], [vI (2 * (n : Int)), vR o], aq_h (o + 1) s F c_2) _
  refine am_E.call rfl rfl rfl (Nat.le_of_ble_eq_true rfl) (bx_cnt h1 h4 hK _) ?_
  rintro r5 h5 ⟨rfl, rfl⟩
  show am_E _ (33, [vR o, vI (n : Int), vU], [vI (K : Int), vR o], aq_h (o + 1) s F c_2) _
  refine aq_pf rfl (by omega) hF (by decide) rfl rfl ?_
  show am_E _ (36, [vR o, vI (n : Int), vU], [], aq_h (o + 1) s F (aq_u c_2 o 3 (K : Int))) _
  generalize hd3 : aq_u c_2 o 3 (K : Int) = c_3
  have z0 : c_3 o 0 = (n : Int) := by rw [← hd3, aq_un (Or.inr (by decide)), ← hd2, aq_un (Or.inr (by decide)), ← hd1, aq_un (Or.inr (by decide)), ← hd0, aq_us]
  have z1 : c_3 o 1 = 2 * (n : Int) := by rw [← hd3, aq_un (Or.inr (by decide)), e1]
  have z2 : c_3 o 2 = 2 * (n : Int) - 2 := by rw [← hd3, aq_un (Or.inr (by decide)), ← hd2, aq_us]; omega
  have z3 : c_3 o 3 = (K : Int) := by rw [← hd3, aq_us]
  have zb : ∀ b, b ≠ o → ∀ j, c_3 b j = c b j := fun b hb j => by rw [← hd3, aq_un (Or.inl hb), ← hd2, aq_un (Or.inl hb), ← hd1, aq_un (Or.inl hb), ← hd0, aq_un (Or.inl hb)]
  have ef : aq_h (o + 1) s F c_3 = aq_h (o + 1) s (am_up F o (10, 11, bx_t1 n K)) c_3 := by
    refine aq_eq fun a => ?_
    by_cases e : a = o
    · subst e
      rw [am_up_s, hF]
      refine ⟨rfl, rfl, fun i => ?_⟩
      match i with
      | 0 => exact congrArg vI z0.symm
      | 1 => exact congrArg vI z1.symm
      | 2 => exact congrArg vI z2.symm
      | 3 => exact congrArg vI z3.symm
      | i + 4 => rfl
    · rw [am_up_n e]
      exact ⟨rfl, rfl, fun i => rfl⟩
  rw [ef]
  have y_0 : am_up F o (10, 11, bx_t1 n K) o = (10, 11, bx_t1 n K) := am_up_s
  have f_0 : ∀ b, b < o → am_up F o (10, 11, bx_t1 n K) b = F b := fun b hb => am_up_n (by omega)
  generalize am_up F o (10, 11, bx_t1 n K) = F_0 at y_0 f_0 ⊢
  have u_0 : ∀ b, b < o → ∀ j, c_3 b j = c b j := fun b hb j => zb b (by omega) j
  have zz_0 : ∀ b, o < b → b < o + 1 → ∀ j, c_3 b j = 0 := fun b hb1 hb2 j => absurd hb1 (by omega)
  refine am_E.go (t2 := (37, [vR o, vI (n : Int), vU], [vR o], aq_h (o + 1) s F_0 c_3)) rfl rfl ?_
  refine am_E.go (t2 := (38, [vR o, vI (n : Int), vU], [vR o, vR o], aq_h (o + 1) s F_0 c_3)) rfl rfl ?_
  refine aq_gf (v := vI ((K : Int))) rfl (by omega) y_0 (by decide) rfl ?_
  show am_E _ (41, [vR o, vI (n : Int), vU], [vI (K : Int), vR o], aq_h (o + 1) s F_0 c_3) _
  refine am_E.go (t2 := (42, [vR o, vI (n : Int), vU], [vR o, vI (K : Int), vR o], aq_h (o + 1) s F_0 c_3)) rfl rfl ?_
  refine aq_gf (v := vI (2 * (n : Int))) rfl (by omega) y_0 (by decide) rfl ?_
  show am_E _ (45, [vR o, vI (n : Int), vU], [vI (2 * (n : Int)), vI (K : Int), vR o], aq_h (o + 1) s F_0 c_3) _
  refine aq_gst (o := o) (n := K) (w := 2 * n) (a := o + 1) (m2 := o + 2 + K) rfl rfl y_0 (by omega) rfl (by omega) (by omega) (by omega) rfl (by decide) (by omega) (by omega) ?_
  intro s_1 F_1 c_1 es_1 y_1 a_1 r_1 o_1 z_1 u_1
  show am_E _ (52, [vR o, vI (n : Int), vU], [], aq_h (o + 2 + K) s_1 F_1 c_1) _
  have ga1_1 : F_1 (o + 1) = (3, K, fun j => aq_g K j (o + 1 + 1 + j)) := a_1
  have gr1_1 : ∀ b, b < K → F_1 (o + 1 + 1 + b) = (0, 2 * n, fun _ => .inl 0) := r_1
  have f_1 : ∀ b, b < o → F_1 b = F b := fun b hb => (o_1 b (by omega) (by omega)).trans (f_0 b hb)
  have v_1 : ∀ b, b < o → ∀ j, c_1 b j = c b j := fun b hb j => (u_1 b (by omega) j).trans (u_0 b hb j)
  have zz_1 : ∀ b, o < b → b < o + 2 + K → ∀ j, c_1 b j = 0 := fun b hb1 hb2 j => by
    by_cases e : b < o + 1
    · rw [u_1 b (by omega) j]; exact zz_0 b hb1 e j
    · exact z_1 b (by omega) (by omega) j
  refine am_E.go (t2 := (53, [vR o, vI (n : Int), vU], [vR o], aq_h (o + 2 + K) s_1 F_1 c_1)) rfl rfl ?_
  refine am_E.go (t2 := (54, [vR o, vI (n : Int), vU], [vR o, vR o], aq_h (o + 2 + K) s_1 F_1 c_1)) rfl rfl ?_
  refine aq_gf (v := vI ((K : Int))) rfl (by omega) y_1 (by decide) rfl ?_
  show am_E _ (57, [vR o, vI (n : Int), vU], [vI ((K : Int)), vR o], aq_h (o + 2 + K) s_1 F_1 c_1) _
  refine aq_stp (o := o) (n := K) (a := o + 2 + K) (m2 := o + 3 + K) rfl rfl y_1 (by omega) (by decide) (by omega) (by omega) rfl (by decide) (by omega) (by omega) ?_
  intro s_2 F_2 c_2 es_2 y_2 a_2 o_2 z_2 u_2
  show am_E _ (62, [vR o, vI (n : Int), vU], [], aq_h (o + 3 + K) s_2 F_2 c_2) _
  have ga1_2 : F_2 (o + 1) = (3, K, fun j => aq_g K j (o + 1 + 1 + j)) := by rw [o_2 _ (by omega) (by omega)]; exact ga1_1
  have gr1_2 : ∀ b, b < K → F_2 (o + 1 + 1 + b) = (0, 2 * n, fun _ => .inl 0) := fun b hb => by rw [o_2 _ (by omega) (by omega)]; exact gr1_1 b hb
  have ga2_2 : F_2 (o + 2 + K) = (0, K, fun _ => .inl 0) := a_2
  have f_2 : ∀ b, b < o → F_2 b = F b := fun b hb => (o_2 b (by omega) (by omega)).trans (f_1 b hb)
  have v_2 : ∀ b, b < o → ∀ j, c_2 b j = c b j := fun b hb j => (u_2 b (by omega) j).trans (v_1 b hb j)
  have zz_2 : ∀ b, o < b → b < o + 3 + K → ∀ j, c_2 b j = 0 := fun b hb1 hb2 j => by
    by_cases e : b < o + 2 + K
    · rw [u_2 b (by omega) j]; exact zz_1 b hb1 e j
    · obtain rfl : b = o + 2 + K := by omega
      exact z_2 j
  refine am_E.go (t2 := (63, [vR o, vI (n : Int), vU], [vR o], aq_h (o + 3 + K) s_2 F_2 c_2)) rfl rfl ?_
  refine am_E.go (t2 := (64, [vR o, vI (n : Int), vU], [vR o, vR o], aq_h (o + 3 + K) s_2 F_2 c_2)) rfl rfl ?_
  refine aq_gf (v := vI ((K : Int))) rfl (by omega) y_2 (by decide) rfl ?_
  show am_E _ (67, [vR o, vI (n : Int), vU], [vI ((K : Int)), vR o], aq_h (o + 3 + K) s_2 F_2 c_2) _
  refine aq_stp (o := o) (n := K) (a := o + 3 + K) (m2 := o + 4 + K) rfl rfl y_2 (by omega) (by decide) (by omega) (by omega) rfl (by decide) (by omega) (by omega) ?_
  intro s_3 F_3 c_3 es_3 y_3 a_3 o_3 z_3 u_3
  show am_E _ (72, [vR o, vI (n : Int), vU], [], aq_h (o + 4 + K) s_3 F_3 c_3) _
  have ga1_3 : F_3 (o + 1) = (3, K, fun j => aq_g K j (o + 1 + 1 + j)) := by rw [o_3 _ (by omega) (by omega)]; exact ga1_2
  have gr1_3 : ∀ b, b < K → F_3 (o + 1 + 1 + b) = (0, 2 * n, fun _ => .inl 0) := fun b hb => by rw [o_3 _ (by omega) (by omega)]; exact gr1_2 b hb
  have ga2_3 : F_3 (o + 2 + K) = (0, K, fun _ => .inl 0) := by rw [o_3 _ (by omega) (by omega)]; exact ga2_2
  have ga3_3 : F_3 (o + 3 + K) = (0, K, fun _ => .inl 0) := a_3
  have f_3 : ∀ b, b < o → F_3 b = F b := fun b hb => (o_3 b (by omega) (by omega)).trans (f_2 b hb)
  have v_3 : ∀ b, b < o → ∀ j, c_3 b j = c b j := fun b hb j => (u_3 b (by omega) j).trans (v_2 b hb j)
  have zz_3 : ∀ b, o < b → b < o + 4 + K → ∀ j, c_3 b j = 0 := fun b hb1 hb2 j => by
    by_cases e : b < o + 3 + K
    · rw [u_3 b (by omega) j]; exact zz_2 b hb1 e j
    · obtain rfl : b = o + 3 + K := by omega
      exact z_3 j
  refine am_E.go (t2 := (73, [vR o, vI (n : Int), vU], [vR o], aq_h (o + 4 + K) s_3 F_3 c_3)) rfl rfl ?_
  refine am_E.go (t2 := (74, [vR o, vI (n : Int), vU], [vR o, vR o], aq_h (o + 4 + K) s_3 F_3 c_3)) rfl rfl ?_
  refine aq_gf (v := vI ((K : Int))) rfl (by omega) y_3 (by decide) rfl ?_
  show am_E _ (77, [vR o, vI (n : Int), vU], [vI (K : Int), vR o], aq_h (o + 4 + K) s_3 F_3 c_3) _
  refine am_E.go (t2 := (79, [vR o, vI (n : Int), vU], [vI 6, vI (K : Int), vR o], aq_h (o + 4 + K) s_3 F_3 c_3)) rfl rfl ?_
  refine aq_gst (o := o) (n := K) (w := 6) (a := o + 4 + K) (m2 := o + 5 + 2 * K) rfl rfl y_3 (by omega) rfl (by omega) (by omega) (by omega) rfl (by decide) (by omega) (by omega) ?_
  intro s_4 F_4 c_4 es_4 y_4 a_4 r_4 o_4 z_4 u_4
  show am_E _ (86, [vR o, vI (n : Int), vU], [], aq_h (o + 5 + 2 * K) s_4 F_4 c_4) _
  have ga1_4 : F_4 (o + 1) = (3, K, fun j => aq_g K j (o + 1 + 1 + j)) := by rw [o_4 _ (by omega) (by omega)]; exact ga1_3
  have gr1_4 : ∀ b, b < K → F_4 (o + 1 + 1 + b) = (0, 2 * n, fun _ => .inl 0) := fun b hb => by rw [o_4 _ (by omega) (by omega)]; exact gr1_3 b hb
  have ga2_4 : F_4 (o + 2 + K) = (0, K, fun _ => .inl 0) := by rw [o_4 _ (by omega) (by omega)]; exact ga2_3
  have ga3_4 : F_4 (o + 3 + K) = (0, K, fun _ => .inl 0) := by rw [o_4 _ (by omega) (by omega)]; exact ga3_3
  have ga4_4 : F_4 (o + 4 + K) = (3, K, fun j => aq_g K j (o + 4 + K + 1 + j)) := a_4
  have gr4_4 : ∀ b, b < K → F_4 (o + 4 + K + 1 + b) = (0, 6, fun _ => .inl 0) := r_4
  have f_4 : ∀ b, b < o → F_4 b = F b := fun b hb => (o_4 b (by omega) (by omega)).trans (f_3 b hb)
  have v_4 : ∀ b, b < o → ∀ j, c_4 b j = c b j := fun b hb j => (u_4 b (by omega) j).trans (v_3 b hb j)
  have zz_4 : ∀ b, o < b → b < o + 5 + 2 * K → ∀ j, c_4 b j = 0 := fun b hb1 hb2 j => by
    by_cases e : b < o + 4 + K
    · rw [u_4 b (by omega) j]; exact zz_3 b hb1 e j
    · exact z_4 b (by omega) (by omega) j
  refine am_E.go (t2 := (87, [vR o, vI (n : Int), vU], [vR o], aq_h (o + 5 + 2 * K) s_4 F_4 c_4)) rfl rfl ?_
  refine am_E.go (t2 := (88, [vR o, vI (n : Int), vU], [vR o, vR o], aq_h (o + 5 + 2 * K) s_4 F_4 c_4)) rfl rfl ?_
  refine aq_gf (v := vI ((K : Int))) rfl (by omega) y_4 (by decide) rfl ?_
  show am_E _ (91, [vR o, vI (n : Int), vU], [vI (K : Int), vR o], aq_h (o + 5 + 2 * K) s_4 F_4 c_4) _
  refine am_E.go (t2 := (92, [vR o, vI (n : Int), vU], [vR o, vI (K : Int), vR o], aq_h (o + 5 + 2 * K) s_4 F_4 c_4)) rfl rfl ?_
  refine aq_gf (v := vI (2 * (n : Int) - 2)) rfl (by omega) y_4 (by decide) rfl ?_
  show am_E _ (95, [vR o, vI (n : Int), vU], [vI (2 * (n : Int) - 2), vI (K : Int), vR o], aq_h (o + 5 + 2 * K) s_4 F_4 c_4) _
  refine aq_gst (o := o) (n := K) (w := 2 * n - 2) (a := o + 5 + 2 * K) (m2 := o + 6 + 3 * K) rfl rfl y_4 (by omega) rfl (by omega) (by omega) (by omega) rfl (by decide) (by omega) (by omega) ?_
  intro s_5 F_5 c_5 es_5 y_5 a_5 r_5 o_5 z_5 u_5
  show am_E _ (102, [vR o, vI (n : Int), vU], [], aq_h (o + 6 + 3 * K) s_5 F_5 c_5) _
  have ga1_5 : F_5 (o + 1) = (3, K, fun j => aq_g K j (o + 1 + 1 + j)) := by rw [o_5 _ (by omega) (by omega)]; exact ga1_4
  have gr1_5 : ∀ b, b < K → F_5 (o + 1 + 1 + b) = (0, 2 * n, fun _ => .inl 0) := fun b hb => by rw [o_5 _ (by omega) (by omega)]; exact gr1_4 b hb
  have ga2_5 : F_5 (o + 2 + K) = (0, K, fun _ => .inl 0) := by rw [o_5 _ (by omega) (by omega)]; exact ga2_4
  have ga3_5 : F_5 (o + 3 + K) = (0, K, fun _ => .inl 0) := by rw [o_5 _ (by omega) (by omega)]; exact ga3_4
  have ga4_5 : F_5 (o + 4 + K) = (3, K, fun j => aq_g K j (o + 4 + K + 1 + j)) := by rw [o_5 _ (by omega) (by omega)]; exact ga4_4
  have gr4_5 : ∀ b, b < K → F_5 (o + 4 + K + 1 + b) = (0, 6, fun _ => .inl 0) := fun b hb => by rw [o_5 _ (by omega) (by omega)]; exact gr4_4 b hb
  have ga5_5 : F_5 (o + 5 + 2 * K) = (3, K, fun j => aq_g K j (o + 5 + 2 * K + 1 + j)) := a_5
  have gr5_5 : ∀ b, b < K → F_5 (o + 5 + 2 * K + 1 + b) = (0, 2 * n - 2, fun _ => .inl 0) := r_5
  have f_5 : ∀ b, b < o → F_5 b = F b := fun b hb => (o_5 b (by omega) (by omega)).trans (f_4 b hb)
  have v_5 : ∀ b, b < o → ∀ j, c_5 b j = c b j := fun b hb j => (u_5 b (by omega) j).trans (v_4 b hb j)
  have zz_5 : ∀ b, o < b → b < o + 6 + 3 * K → ∀ j, c_5 b j = 0 := fun b hb1 hb2 j => by
    by_cases e : b < o + 5 + 2 * K
    · rw [u_5 b (by omega) j]; exact zz_4 b hb1 e j
    · exact z_5 b (by omega) (by omega) j
  refine am_E.go (t2 := (103, [vR o, vI (n : Int), vU], [vR o], aq_h (o + 6 + 3 * K) s_5 F_5 c_5)) rfl rfl ?_
  refine am_E.go (t2 := (104, [vR o, vI (n : Int), vU], [vR o, vR o], aq_h (o + 6 + 3 * K) s_5 F_5 c_5)) rfl rfl ?_
  refine aq_gf (v := vI (2 * (n : Int))) rfl (by omega) y_5 (by decide) rfl ?_
  show am_E _ (107, [vR o, vI (n : Int), vU], [vI (2 * (n : Int)), vR o], aq_h (o + 6 + 3 * K) s_5 F_5 c_5) _
  refine aq_stp (o := o) (n := 2 * n) (a := o + 6 + 3 * K) (m2 := o + 7 + 3 * K) rfl rfl y_5 (by omega) (by decide) (by omega) (by omega) rfl (by decide) (by omega) (by omega) ?_
  intro s_6 F_6 c_6 es_6 y_6 a_6 o_6 z_6 u_6
  show am_E _ (112, [vR o, vI (n : Int), vU], [], aq_h (o + 7 + 3 * K) s_6 F_6 c_6) _
  have ga1_6 : F_6 (o + 1) = (3, K, fun j => aq_g K j (o + 1 + 1 + j)) := by rw [o_6 _ (by omega) (by omega)]; exact ga1_5
  have gr1_6 : ∀ b, b < K → F_6 (o + 1 + 1 + b) = (0, 2 * n, fun _ => .inl 0) := fun b hb => by rw [o_6 _ (by omega) (by omega)]; exact gr1_5 b hb
  have ga2_6 : F_6 (o + 2 + K) = (0, K, fun _ => .inl 0) := by rw [o_6 _ (by omega) (by omega)]; exact ga2_5
  have ga3_6 : F_6 (o + 3 + K) = (0, K, fun _ => .inl 0) := by rw [o_6 _ (by omega) (by omega)]; exact ga3_5
  have ga4_6 : F_6 (o + 4 + K) = (3, K, fun j => aq_g K j (o + 4 + K + 1 + j)) := by rw [o_6 _ (by omega) (by omega)]; exact ga4_5
  have gr4_6 : ∀ b, b < K → F_6 (o + 4 + K + 1 + b) = (0, 6, fun _ => .inl 0) := fun b hb => by rw [o_6 _ (by omega) (by omega)]; exact gr4_5 b hb
  have ga5_6 : F_6 (o + 5 + 2 * K) = (3, K, fun j => aq_g K j (o + 5 + 2 * K + 1 + j)) := by rw [o_6 _ (by omega) (by omega)]; exact ga5_5
  have gr5_6 : ∀ b, b < K → F_6 (o + 5 + 2 * K + 1 + b) = (0, 2 * n - 2, fun _ => .inl 0) := fun b hb => by rw [o_6 _ (by omega) (by omega)]; exact gr5_5 b hb
  have ga6_6 : F_6 (o + 6 + 3 * K) = (0, 2 * n, fun _ => .inl 0) := a_6
  have f_6 : ∀ b, b < o → F_6 b = F b := fun b hb => (o_6 b (by omega) (by omega)).trans (f_5 b hb)
  have v_6 : ∀ b, b < o → ∀ j, c_6 b j = c b j := fun b hb j => (u_6 b (by omega) j).trans (v_5 b hb j)
  have zz_6 : ∀ b, o < b → b < o + 7 + 3 * K → ∀ j, c_6 b j = 0 := fun b hb1 hb2 j => by
    by_cases e : b < o + 6 + 3 * K
    · rw [u_6 b (by omega) j]; exact zz_5 b hb1 e j
    · obtain rfl : b = o + 6 + 3 * K := by omega
      exact z_6 j
  refine am_E.go (t2 := (113, [vR o, vI (n : Int), vU], [vR o], aq_h (o + 7 + 3 * K) s_6 F_6 c_6)) rfl rfl ?_
  refine am_E.go (t2 := (114, [vR o, vI (n : Int), vU], [vR o, vR o], aq_h (o + 7 + 3 * K) s_6 F_6 c_6)) rfl rfl ?_
  refine aq_gf (v := vI (2 * (n : Int))) rfl (by omega) y_6 (by decide) rfl ?_
  show am_E _ (117, [vR o, vI (n : Int), vU], [vI (2 * (n : Int)), vR o], aq_h (o + 7 + 3 * K) s_6 F_6 c_6) _
  refine aq_stp (o := o) (n := 2 * n) (a := o + 7 + 3 * K) (m2 := o + 8 + 3 * K) rfl rfl y_6 (by omega) (by decide) (by omega) (by omega) rfl (by decide) (by omega) (by omega) ?_
  intro s_7 F_7 c_7 es_7 y_7 a_7 o_7 z_7 u_7
  show am_E _ (122, [vR o, vI (n : Int), vU], [], aq_h (o + 8 + 3 * K) s_7 F_7 c_7) _
  have ga1_7 : F_7 (o + 1) = (3, K, fun j => aq_g K j (o + 1 + 1 + j)) := by rw [o_7 _ (by omega) (by omega)]; exact ga1_6
  have gr1_7 : ∀ b, b < K → F_7 (o + 1 + 1 + b) = (0, 2 * n, fun _ => .inl 0) := fun b hb => by rw [o_7 _ (by omega) (by omega)]; exact gr1_6 b hb
  have ga2_7 : F_7 (o + 2 + K) = (0, K, fun _ => .inl 0) := by rw [o_7 _ (by omega) (by omega)]; exact ga2_6
  have ga3_7 : F_7 (o + 3 + K) = (0, K, fun _ => .inl 0) := by rw [o_7 _ (by omega) (by omega)]; exact ga3_6
  have ga4_7 : F_7 (o + 4 + K) = (3, K, fun j => aq_g K j (o + 4 + K + 1 + j)) := by rw [o_7 _ (by omega) (by omega)]; exact ga4_6
  have gr4_7 : ∀ b, b < K → F_7 (o + 4 + K + 1 + b) = (0, 6, fun _ => .inl 0) := fun b hb => by rw [o_7 _ (by omega) (by omega)]; exact gr4_6 b hb
  have ga5_7 : F_7 (o + 5 + 2 * K) = (3, K, fun j => aq_g K j (o + 5 + 2 * K + 1 + j)) := by rw [o_7 _ (by omega) (by omega)]; exact ga5_6
  have gr5_7 : ∀ b, b < K → F_7 (o + 5 + 2 * K + 1 + b) = (0, 2 * n - 2, fun _ => .inl 0) := fun b hb => by rw [o_7 _ (by omega) (by omega)]; exact gr5_6 b hb
  have ga6_7 : F_7 (o + 6 + 3 * K) = (0, 2 * n, fun _ => .inl 0) := by rw [o_7 _ (by omega) (by omega)]; exact ga6_6
  have ga7_7 : F_7 (o + 7 + 3 * K) = (1, 2 * n, fun _ => .inl 0) := a_7
  have f_7 : ∀ b, b < o → F_7 b = F b := fun b hb => (o_7 b (by omega) (by omega)).trans (f_6 b hb)
  have v_7 : ∀ b, b < o → ∀ j, c_7 b j = c b j := fun b hb j => (u_7 b (by omega) j).trans (v_6 b hb j)
  have zz_7 : ∀ b, o < b → b < o + 8 + 3 * K → ∀ j, c_7 b j = 0 := fun b hb1 hb2 j => by
    by_cases e : b < o + 7 + 3 * K
    · rw [u_7 b (by omega) j]; exact zz_6 b hb1 e j
    · obtain rfl : b = o + 7 + 3 * K := by omega
      exact z_7 j
  have et : am_up (am_up (am_up (am_up (am_up (am_up (am_up (bx_t1 n K) 4 (.inr (vR (o + 1)))) 5 (.inr (vR (o + 2 + K)))) 6 (.inr (vR (o + 3 + K)))) 7 (.inr (vR (o + 4 + K)))) 8 (.inr (vR (o + 5 + 2 * K)))) 9 (.inr (vR (o + 6 + 3 * K)))) 10 (.inr (vR (o + 7 + 3 * K))) = bx_t o n K := by
    funext k
    match k with
    | 0 => rfl
    | 1 => rfl
    | 2 => rfl
    | 3 => rfl
    | 4 => rfl
    | 5 => rfl
    | 6 => rfl
    | 7 => rfl
    | 8 => rfl
    | 9 => rfl
    | 10 => rfl
    | k + 11 =>
      repeat rw [am_up_n (by omega)]
      rfl
  rw [et] at y_7
  have b1 : K * (2 * n) ≤ 105 * 8 := Nat.mul_le_mul hKb.2 (by omega)
  have b2 : K * (2 * n - 2) ≤ 105 * 6 := Nat.mul_le_mul hKb.2 (by omega)
  refine k s_7 F_7 c_7 (by omega) ⟨y_7, ga6_7, ga7_7, ga1_7, fun b hb => ?_, ga2_7, ga3_7, ?_, fun b hb => ?_, ?_, fun b hb => ?_⟩ f_7 v_7 zz_7
  · rw [show o + 2 + b = o + 1 + 1 + b by omega]; exact gr1_7 b hb
  · rw [ga4_7]; exact congrArg (fun f => (3, K, f)) (funext fun j => by rw [show o + 4 + K + 1 + j = o + 5 + K + j by omega])
  · rw [show o + 5 + K + b = o + 4 + K + 1 + b by omega]; exact gr4_7 b hb
  · rw [ga5_7]; exact congrArg (fun f => (3, K, f)) (funext fun j => by rw [show o + 5 + 2 * K + 1 + j = o + 6 + 2 * K + j by omega])
  · rw [show o + 6 + 2 * K + b = o + 5 + 2 * K + 1 + b by omega]; exact gr5_7 b hb
