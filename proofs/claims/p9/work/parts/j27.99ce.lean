
/-- how many letters come before l -/
def ki_ (n l : Int) : Int := if l ≤ n then l - 1 else if l ≤ 11 then n - 1 else n + l - 12
theorem ki_l {n l : Int} (h1 : 1 ≤ n) (h4 : n ≤ 4) (hl : (1 ≤ l ∧ l < n) ∨ (11 ≤ l ∧ l < 10 + n)) : 0 ≤ ki_ n l ∧ ki_ n l < 2 * n - 2 ∧ lt_ n (ki_ n l) = l ∧ ki_ n (l + 1) = ki_ n l + 1 := by
  unfold lt_ ki_
  (repeat' split) <;> omega
theorem ki_n {n l : Int} (h1 : 1 ≤ n) (h4 : n ≤ 4) (h0 : 1 ≤ l) (h9 : l < 10 + n) (hl : ¬ ((1 ≤ l ∧ l < n) ∨ (11 ≤ l ∧ l < 10 + n))) : ki_ n (l + 1) = ki_ n l := by
  unfold ki_
  (repeat' split) <;> omega
theorem ki_e {n : Int} (h1 : 1 ≤ n) (h4 : n ≤ 4) : ki_ n (10 + n) = 2 * n - 2 ∧ ki_ n 1 = 0 := by
  unfold ki_
  (repeat' split) <;> omega
theorem bs_2 : ∀ b : Nat, b < 3 → ∀ k : Nat, k < 2 → bn_ 2 b k = sk_ 2 b (lb_ 2 k) := by decide +kernel
theorem bs_3 : ∀ b : Nat, b < 15 → ∀ k : Nat, k < 4 → bn_ 3 b k = sk_ 3 b (lb_ 3 k) := by decide +kernel
theorem bs_4 : ∀ b : Nat, b < 105 → ∀ k : Nat, k < 6 → bn_ 4 b k = sk_ 4 b (lb_ 4 k) := by decide +kernel
theorem bn_sk {n b k : Int} (h1 : 1 ≤ n) (h4 : n ≤ 4) (b0 : 0 ≤ b) (bK : b < bx_K n) (k0 : 0 ≤ k) (kL : k < 2 * n - 2) : bn_ n b k = sk_ n b (lb_ n k) := by
  have ex : ((b.toNat : Nat) : Int) = b := Int.toNat_of_nonneg b0
  have ek : ((k.toNat : Nat) : Int) = k := Int.toNat_of_nonneg k0
  have h : n = 1 ∨ n = 2 ∨ n = 3 ∨ n = 4 := by omega
  rcases h with h | h | h | h <;> subst h
  · exfalso
    omega
  · have g : bx_K 2 = 3 := by decide
    have := bs_2 b.toNat (by omega) k.toNat (by omega)
    rw [ex, ek] at this
    exact this
  · have g : bx_K 3 = 15 := by decide
    have := bs_3 b.toNat (by omega) k.toNat (by omega)
    rw [ex, ek] at this
    exact this
  · have g : bx_K 4 = 105 := by decide
    have := bs_4 b.toNat (by omega) k.toNat (by omega)
    rw [ex, ek] at this
    exact this
/-- found are the first, what is told of them is the tables' -/
def fx_ (y : Nat) (n f many : Int) (c0 c : aq_C) : Prop := (∀ j, 0 ≤ j → j < many → c (y + 14) j = fd_ n j) ∧ (∀ b, 0 ≤ b → b < bx_K n → (ix_ n b < many → c (y + 4) (f + b) = ln_ n b ∧ (0 < ix_ n b → c (y + 3) (f + b) = pa_ n b ∧ c (y + 2) (f + b) = ll_ n b)) ∧ (many ≤ ix_ n b → c (y + 4) (f + b) = -4)) ∧ (∀ b, 0 ≤ b → b < bx_K n → 0 ≤ c (y + 3) (f + b) ∧ c (y + 3) (f + b) < bx_K n) ∧ ∀ j, (j < f ∨ f + bx_K n ≤ j) → c (y + 2) j = c0 (y + 2) j ∧ c (y + 3) j = c0 (y + 3) j ∧ c (y + 4) j = c0 (y + 4) j
theorem fx_s {S : Nat → Prop} {y : Nat} {n f many : Int} {c0 c d : aq_C} (h : fx_ y n f many c0 c) (hs : aq_sm S c d) (h2 : ¬ S (y + 2)) (h3 : ¬ S (y + 3)) (h4 : ¬ S (y + 4)) (h14 : ¬ S (y + 14)) : fx_ y n f many c0 d := by
  unfold fx_ at *
  have e2 := hs _ h2
  have e3 := hs _ h3
  have e4 := hs _ h4
  have e14 := hs _ h14
  simp only [e2, e3, e4, e14]
  exact h
theorem fx_l {y : Nat} {n f many b : Int} {c0 c : aq_C} (h : fx_ y n f many c0 c) (h1 : 1 ≤ n) (h4 : n ≤ 4) (b0 : 0 ≤ b) (bK : b < bx_K n) : (ix_ n b < many ∧ c (y + 4) (f + b) = ln_ n b ∧ 0 ≤ ln_ n b ∧ ln_ n b ≤ 6) ∨ (many ≤ ix_ n b ∧ c (y + 4) (f + b) = -4) := by
  have a := (tb_A_a (n := n) (x := b) h1 h4 b0 (by omega)).1
  have k := h.2.1 b b0 bK
  by_cases e : ix_ n b < many
  · exact Or.inl ⟨e, (k.1 e).1, a.1, a.2⟩
  · exact Or.inr ⟨by omega, k.2 (by omega)⟩
theorem fx_u {y : Nat} {n f i k x x2 l bb many : Int} {c0 c c1 c2 c3 c4 : aq_C} (h1 : 1 ≤ n) (h4 : n ≤ 4) (h : fx_ y n f many c0 c) (hm : many = sz_ n i k) (hxe : x = bn_ n (fd_ n i) k) (hbb : bb = fd_ n i) (i0 : 0 ≤ i) (iK : i < bx_K n) (k0 : 0 ≤ k) (kL : k < 2 * n - 2) (hn0 : 0 ≤ x) (hn : x < bx_K n) (hx : many ≤ ix_ n x) (hz : many < bx_K n) (hx2 : x2 = ln_ n bb + 1) (hl : l = lt_ n k) (hd1 : aq_u c (y + 4) (f + x) x2 = c1) (hd2 : aq_u c1 (y + 2) (f + x) l = c2) (hd3 : aq_u c2 (y + 3) (f + x) bb = c3) (hd4 : aq_u c3 (y + 14) many x = c4) : fx_ y n f (many + 1) c0 c4 := by
  have tB := (tb_B_a (n := n) (x := i) (k := k) h1 h4 i0 (by omega) k0 (by omega)) kL
  obtain ⟨t1, t2, t3⟩ := tB
  rw [← hxe, ← hm] at t3
  rw [if_pos ⟨hn, hx, hz⟩] at t3
  obtain ⟨u1, u2, u3, u4, u5, u6, u7⟩ := t3
  have tP := (tb_P_a (n := n) (x := i) (k := k) h1 h4 i0 (by omega) k0 (by omega)) kL
  rw [← hxe, ← hm] at tP
  obtain ⟨p1, p2⟩ := tP ⟨hn, hx, hz⟩
  have tA := tb_A_a (n := n) (x := i) h1 h4 i0 (by omega)
  obtain ⟨-, -, ⟨a1, a2, a3⟩, -⟩ := tA
  obtain ⟨w1, w2, w3, w5⟩ := h
  have q0 : ix_ n bb = i := by rw [hbb]; exact a3
  subst hd1
  subst hd2
  subst hd3
  subst hd4
  have e4 : ∀ j, aq_u (aq_u (aq_u (aq_u c (y + 4) (f + x) x2) (y + 2) (f + x) l) (y + 3) (f + x) bb) (y + 14) many x (y + 4) j = if j = f + x then x2 else c (y + 4) j := fun j => by
    rw [aq_un (Or.inl (by omega)), aq_un (Or.inl (by omega)), aq_un (Or.inl (by omega))]
    unfold aq_u
    by_cases e : j = f + x
    · rw [if_pos ⟨rfl, e⟩, if_pos e]
    · rw [if_neg (fun q => e q.2), if_neg e]
  have e2 : ∀ j, aq_u (aq_u (aq_u (aq_u c (y + 4) (f + x) x2) (y + 2) (f + x) l) (y + 3) (f + x) bb) (y + 14) many x (y + 2) j = if j = f + x then l else c (y + 2) j := fun j => by
    rw [aq_un (Or.inl (by omega)), aq_un (Or.inl (by omega))]
    by_cases e : j = f + x
    · rw [e, aq_us, if_pos rfl]
    · rw [aq_un (Or.inr e), aq_un (Or.inl (by omega)), if_neg e]
  have e3 : ∀ j, aq_u (aq_u (aq_u (aq_u c (y + 4) (f + x) x2) (y + 2) (f + x) l) (y + 3) (f + x) bb) (y + 14) many x (y + 3) j = if j = f + x then bb else c (y + 3) j := fun j => by
    rw [aq_un (Or.inl (by omega))]
    by_cases e : j = f + x
    · rw [e, aq_us, if_pos rfl]
    · rw [aq_un (Or.inr e), aq_un (Or.inl (by omega)), aq_un (Or.inl (by omega)), if_neg e]
  have e14 : ∀ j, aq_u (aq_u (aq_u (aq_u c (y + 4) (f + x) x2) (y + 2) (f + x) l) (y + 3) (f + x) bb) (y + 14) many x (y + 14) j = if j = many then x else c (y + 14) j := fun j => by
    by_cases e : j = many
    · rw [e, aq_us, if_pos rfl]
    · rw [aq_un (Or.inr e), aq_un (Or.inl (by omega)), aq_un (Or.inl (by omega)), aq_un (Or.inl (by omega)), if_neg e]
  refine ⟨fun j j0 j1 => ?_, fun b b0 bK => ⟨fun q => ?_, fun q => ?_⟩, fun b b0 bK => ?_, fun j k5 => ?_⟩
  · rw [e14]
    split
    · rename_i e
      rw [e]
      exact u1.symm
    · exact w1 j j0 (by omega)
  · by_cases eb : b = x
    · rw [eb, e4, e3, e2, if_pos rfl, if_pos rfl, if_pos rfl, u2, p1, p2]
      refine ⟨by rw [hx2, hbb], fun _ => ⟨hbb, ?_⟩⟩
      rw [hl]
      rfl
    · have tb := tb_A_a (n := n) (x := b) h1 h4 b0 (by omega)
      have hne : ix_ n b ≠ many := fun q5 => eb (by have := tb.2.1.2.2; rw [q5, u1] at this; exact this.symm)
      rw [e4, e3, e2, if_neg (by omega), if_neg (by omega), if_neg (by omega)]
      exact (w2 b b0 bK).1 (by omega)
  · have eb : b ≠ x := fun q5 => by rw [q5, u6] at q; omega
    rw [e4, if_neg (by omega)]
    exact (w2 b b0 bK).2 (by omega)
  · rw [e3]
    split
    · rw [hbb]
      exact ⟨a1, a2⟩
    · exact w3 b b0 bK
  · rw [e4, e3, e2, if_neg (by omega), if_neg (by omega), if_neg (by omega)]
    exact w5 j k5
theorem fx_1 {y : Nat} {n f v : Int} {c0 c c1 c2 : aq_C} (h1 : 1 ≤ n) (h4 : n ≤ 4) (hv : v = fd_ n 0) (hl0 : ln_ n (fd_ n 0) = 0) (hz : ∀ i, 0 ≤ i → i < bx_K n → c (y + 4) (f + i) = -4) (h3 : ∀ j, c (y + 3) j = c0 (y + 3) j) (h2 : ∀ j, c (y + 2) j = c0 (y + 2) j) (h5 : ∀ j, (j < f ∨ f + bx_K n ≤ j) → c (y + 4) j = c0 (y + 4) j) (hA0 : ∀ b, 0 ≤ b → b < bx_K n → 0 ≤ c0 (y + 3) (f + b) ∧ c0 (y + 3) (f + b) < bx_K n) (hd1 : aq_u c (y + 4) (f + v) 0 = c1) (hd2 : aq_u c1 (y + 14) 0 v = c2) : fx_ y n f 1 c0 c2 := by
  have hk := mo_fs n
  have tA0 := (tb_A_a (n := n) (x := 0) h1 h4 (by omega) (by omega)).2.2.1
  have e4 : ∀ j, c2 (y + 4) j = if j = f + v then 0 else c (y + 4) j := fun j => by
    rw [← hd2, aq_un (Or.inl (by omega)), ← hd1]
    by_cases e : j = f + v
    · rw [e, aq_us, if_pos rfl]
    · rw [aq_un (Or.inr e), if_neg e]
  have e3 : ∀ j, c2 (y + 3) j = c0 (y + 3) j := fun j => by rw [← hd2, aq_un (Or.inl (by omega)), ← hd1, aq_un (Or.inl (by omega))]; exact h3 j
  have e2 : ∀ j, c2 (y + 2) j = c0 (y + 2) j := fun j => by rw [← hd2, aq_un (Or.inl (by omega)), ← hd1, aq_un (Or.inl (by omega))]; exact h2 j
  refine ⟨fun j j0 j1 => ?_, fun b b0 bK => ⟨fun q => ⟨?_, fun q2 => absurd q2 (by omega)⟩, fun q => ?_⟩, fun b b0 bK => by rw [e3]; exact hA0 b b0 bK, fun j q => ⟨e2 j, e3 j, ?_⟩⟩
  · have ej : j = 0 := by omega
    rw [ej, ← hd2, aq_us, hv]
  · have tb := tb_A_a (n := n) (x := b) h1 h4 b0 (by omega)
    have t5 := tb.2.1.1
    have eb : b = v := by
      have := tb.2.1.2.2
      rw [show ix_ n b = 0 by omega] at this
      rw [hv]
      exact this.symm
    rw [e4, eb, if_pos rfl, hv, hl0]
  · have eb : b ≠ v := fun q5 => by rw [q5, hv, tA0.2.2] at q; omega
    rw [e4, if_neg (by omega)]
    exact hz b b0 bK
  · rw [e4, if_neg (by omega)]
    exact h5 j q

theorem qz_fw_l {m s : Nat} {F : aq_F} {c0 : aq_C} {y : Nat} (hO : mo_0 m F y) {tbl : Int → Int} (hT : mo_T F y tbl) (hG2 : F (y + 2) = (0, 124, fun _ => .inl 0)) (hG3 : F (y + 3) = (0, 124, fun _ => .inl 0)) (hG4 : F (y + 4) = (0, 124, fun _ => .inl 0)) {n fr : Int} (hn1 : 1 ≤ n) (hn4 : n ≤ 4) (hfr : fr = mo_f n) : ∀ (d : Nat) (v3 : Int) (mn : Int) (k : Int) (bb : Int) (l : Int) (v8 : am_V) (v9 : am_V) (c : aq_C) (hs : aq_sm (fun a => a = y ∨ a = y + 2 ∨ a = y + 3 ∨ a = y + 4 ∨ a = y + 12 ∨ a = y + 13 ∨ a = y + 14) c0 c) (h0 : 1 ≤ l) (h1 : l ≤ 10 + n) (h2 : 0 ≤ bb) (h3 : bb < bx_K n) (h4 : 0 ≤ k) (h5 : k < mn) (h6 : mn ≤ bx_K n) (hbb : bb = fd_ n k) (hzz : mn = sz_ n k (ki_ n l)) (hob : mo_k y c0 c) (hfx : fx_ y n fr mn c0 c) (hd : 10 + n - l < (d : Int)) (K0 : ∀ (mn2 : Int) (l2 : Int) (v82 : am_V) (v92 : am_V) (c2 : aq_C) (hs2 : aq_sm (fun a => a = y ∨ a = y + 2 ∨ a = y + 3 ∨ a = y + 4 ∨ a = y + 12 ∨ a = y + 13 ∨ a = y + 14) c0 c2) (f1 : k < mn2) (f2 : mn2 ≤ bx_K n) (hzz2 : mn2 = sz_ n k (2 * n - 2)) (hob2 : mo_k y c0 c2) (hfx2 : fx_ y n fr mn2 c0 c2), am_E ac_X5_findWords (198, [vR y, vI n, vI fr, vI v3, vI mn2, vI k, vI bb, vI l2, v82, v92], [], aq_h m s F c2) (aq_Z m s F (fun a => a = y ∨ a = y + 2 ∨ a = y + 3 ∨ a = y + 4 ∨ a = y + 12 ∨ a = y + 13 ∨ a = y + 14) c0 (fun r d => r = none ∧ mo_k y c0 d ∧ fx_ y n (mo_f n) (bx_K n) c0 d))), am_E ac_X5_findWords (79, [vR y, vI n, vI fr, vI v3, vI mn, vI k, vI bb, vI l, v8, v9], [], aq_h m s F c) (aq_Z m s F (fun a => a = y ∨ a = y + 2 ∨ a = y + 3 ∨ a = y + 4 ∨ a = y + 12 ∨ a = y + 13 ∨ a = y + 14) c0 (fun r d => r = none ∧ mo_k y c0 d ∧ fx_ y n (mo_f n) (bx_K n) c0 d))
  | 0, v3, mn, k, bb, l, v8, v9, c, hs, h0, h1, h2, h3, h4, h5, h6, hbb, hzz, hob, hfx, hd, K0 => by exfalso; omega
  | d + 1, v3, mn, k, bb, l, v8, v9, c, hs, h0, h1, h2, h3, h4, h5, h6, hbb, hzz, hob, hfx, hd, K0 => by
    obtain ⟨hm, hFo, hG5, hG6, hG7, hG8, hG9, hG10, hG11, hG12, hG13, hG14, hG15, hG16, hG17, hG18, hG19, hG20, hG21, hG22, hG23⟩ := hO
    obtain ⟨hT1, hTt⟩ := hT
    have hfs := mo_fs n
    refine am_E.go (t2 := (81, [vR y, vI n, vI fr, vI v3, vI mn, vI k, vI bb, vI l, v8, v9], [vI l], aq_h m s F c)) rfl rfl ?_
    refine am_E.go (t2 := (83, [vR y, vI n, vI fr, vI v3, vI mn, vI k, vI bb, vI l, v8, v9], [vI 10, vI l], aq_h m s F c)) rfl rfl ?_
    refine am_E.go (t2 := (84, [vR y, vI n, vI fr, vI v3, vI mn, vI k, vI bb, vI l, v8, v9], [vI n, vI 10, vI l], aq_h m s F c)) rfl rfl ?_
    refine ae_add rfl (am_ri (by omega) (by omega)) ?_
    show am_E _ (85, [vR y, vI n, vI fr, vI v3, vI mn, vI k, vI bb, vI l, v8, v9], [vI (10 + n), vI l], aq_h m s F c) _
    refine ae_icmp rfl (fun (q_1 : (10 + n) ≤ l) => ?_) (fun (q_1 : l < (10 + n)) => ?_)
    · exact K0 mn l (v8) (v9) c hs (by omega) (by omega) (by rw [hzz, show l = 10 + n by omega, (ki_e hn1 hn4).1]) hob hfx
    · refine am_E.go (t2 := (89, [vR y, vI n, vI fr, vI v3, vI mn, vI k, vI bb, vI l, v8, v9], [vI n], aq_h m s F c)) rfl rfl ?_
      refine am_E.go (t2 := (91, [vR y, vI n, vI fr, vI v3, vI mn, vI k, vI bb, vI l, v8, v9], [vI l, vI n], aq_h m s F c)) rfl rfl ?_
      refine am_E.call rfl rfl rfl (Nat.le_of_ble_eq_true rfl) (qm_isLetter (by omega) (by omega)) ?_
      rintro r5 h5 ⟨rfl, v_2, rfl, hv_2⟩
      show am_E _ (94, [vR y, vI n, vI fr, vI v3, vI mn, vI k, vI bb, vI l, v8, v9], [vI v_2], aq_h m s F c) _
      refine ae_if0 rfl (fun (q_3 : v_2 = 0) => ?_) (fun (q_3 : v_2 ≠ 0) => ?_)
      · refine ae_iinc rfl rfl (am_ri (by omega) (by omega)) ?_
        show am_E _ (195, [vR y, vI n, vI fr, vI v3, vI mn, vI k, vI bb, vI (l + 1), v8, v9], [], aq_h m s F c) _
        refine am_E.go (t2 := (79, [vR y, vI n, vI fr, vI v3, vI mn, vI k, vI bb, vI (l + 1), v8, v9], [], aq_h m s F c)) rfl rfl ?_
        exact qz_fw_l ⟨hm, hFo, hG5, hG6, hG7, hG8, hG9, hG10, hG11, hG12, hG13, hG14, hG15, hG16, hG17, hG18, hG19, hG20, hG21, hG22, hG23⟩ ⟨hT1, hTt⟩ hG2 hG3 hG4 hn1 hn4 hfr d v3 mn k bb (l + 1) (v8) (v9) c hs (by omega) (by omega) (by omega) (by omega) (by omega) (by omega) (by omega) hbb (by rw [ki_n hn1 hn4 (by omega) (by omega) (by omega), hzz]) hob hfx (by omega) K0
      · have hki := ki_l hn1 hn4 (l := l) (by omega)
        have hTA := (tb_A_a (n := n) (x := k) hn1 hn4 h4 (by omega)).2.2.1
        have tB := (tb_B_a (n := n) (x := k) (k := ki_ n l) hn1 hn4 h4 (by omega) hki.1 (by omega)) hki.2.1
        obtain ⟨tB1, tB2, tB3⟩ := tB
        have tN_ := (tb_N_a (n := n) (x := fd_ n k) (k := ki_ n l) hn1 hn4 (by omega) (by omega) hki.1 (by omega)) hki.2.1
        have exb : ix_ n bb = k := by rw [hbb]; exact hTA.2.2
        refine am_E.go (t2 := (98, [vR y, vI n, vI fr, vI v3, vI mn, vI k, vI bb, vI l, v8, v9], [vR y], aq_h m s F c)) rfl rfl ?_
        refine am_E.go (t2 := (99, [vR y, vI n, vI fr, vI v3, vI mn, vI k, vI bb, vI l, v8, v9], [vI n, vR y], aq_h m s F c)) rfl rfl ?_
        refine am_E.go (t2 := (101, [vR y, vI n, vI fr, vI v3, vI mn, vI k, vI bb, vI l, v8, v9], [vI l, vI n, vR y], aq_h m s F c)) rfl rfl ?_
        refine aq_callv (y := 3) (as2 := [vI n, vI l]) (rest := []) rfl rfl (by decide) (Nat.le_of_ble_eq_true rfl) rfl rfl (Nat.le_of_ble_eq_true rfl) (by omega) hFo rfl (Nat.le_of_ble_eq_true rfl) (qm_plainBox (S := fun a => a = y + 12) ⟨hm, hFo, hG5, hG6, hG7, hG8, hG9, hG10, hG11, hG12, hG13, hG14, hG15, hG16, hG17, hG18, hG19, hG20, hG21, hG22, hG23⟩ rfl ⟨hT1, hTt⟩ (by omega) (by omega) (by omega)) ?_
        rintro r5 h5 ⟨c_4, rfl, sc_4, vc_4, rfl, hv1c_4, hv2c_4, hv3c_4⟩
        show am_E _ (104, [vR y, vI n, vI fr, vI v3, vI mn, vI k, vI bb, vI l, v8, v9], [vI vc_4], aq_h m s F c_4) _
        have ep_ := nu_v (f := bx_ol n.toNat l) hn1 hn4 hv1c_4 hv2c_4 (fun i k0 k1 => by rw [hv3c_4 i k0 k1]; exact pl_e hn1 hn4 (by omega) k0 k1)
        have evp : vc_4 = lb_ n (ki_ n l) := by unfold lb_; rw [hki.2.2.1]; exact ep_.symm
        refine am_E.go (t2 := (106, [vR y, vI n, vI fr, vI v3, vI mn, vI k, vI bb, vI l, vI vc_4, v9], [], aq_h m s F c_4)) rfl rfl ?_
        refine am_E.go (t2 := (107, [vR y, vI n, vI fr, vI v3, vI mn, vI k, vI bb, vI l, vI vc_4, v9], [vR y], aq_h m s F c_4)) rfl rfl ?_
        refine am_E.go (t2 := (108, [vR y, vI n, vI fr, vI v3, vI mn, vI k, vI bb, vI l, vI vc_4, v9], [vI n, vR y], aq_h m s F c_4)) rfl rfl ?_
        refine am_E.go (t2 := (110, [vR y, vI n, vI fr, vI v3, vI mn, vI k, vI bb, vI l, vI vc_4, v9], [vI bb, vI n, vR y], aq_h m s F c_4)) rfl rfl ?_
        refine am_E.go (t2 := (112, [vR y, vI n, vI fr, vI v3, vI mn, vI k, vI bb, vI l, vI vc_4, v9], [vI vc_4, vI bb, vI n, vR y], aq_h m s F c_4)) rfl rfl ?_
        refine aq_callv (y := 4) (as2 := [vI n, vI bb, vI vc_4]) (rest := []) rfl rfl (by decide) (Nat.le_of_ble_eq_true rfl) rfl rfl (Nat.le_of_ble_eq_true rfl) (by omega) hFo rfl (Nat.le_of_ble_eq_true rfl) (qz_stacked (S := fun a => a = y ∨ a = y + 12 ∨ a = y + 13) ⟨hm, hFo, hG5, hG6, hG7, hG8, hG9, hG10, hG11, hG12, hG13, hG14, hG15, hG16, hG17, hG18, hG19, hG20, hG21, hG22, hG23⟩ (Or.inl rfl) (Or.inr (Or.inl rfl)) (Or.inr (Or.inr rfl)) ⟨hT1, hTt⟩ (by omega) (by omega) (by omega) (by omega) (by omega) (by omega)) ?_
        rintro r5 h5 ⟨c_5, rfl, sc_5, vc_5, rfl, hv1c_5, hv2c_5, hr1c_5, hr2c_5, hkc_5, hrrc_5, hvvc_5⟩
        show am_E _ (115, [vR y, vI n, vI fr, vI v3, vI mn, vI k, vI bb, vI l, vI vc_4, v9], [vI vc_5], aq_h m s F c_5) _
        have er_ := sk_r (n := n) (x := bb) (y := vc_4) hn1 hn4 h2 h3 (by omega) (by omega)
        have ev_ := sk_v (n := n) (x := bb) (y := vc_4) hn1 hn4 h2 h3 (by omega) (by omega) hv1c_5 hv2c_5 hvvc_5
        have eb_ : bn_ n (fd_ n k) (ki_ n l) = sk_ n bb vc_4 := by rw [← hbb, evp]; exact bn_sk hn1 hn4 h2 h3 hki.1 hki.2.1
        have lx_ := fx_l (fx_s (fx_s hfx sc_4 (by omega) (by omega) (by omega) (by omega)) sc_5 (by omega) (by omega) (by omega) (by omega)) hn1 hn4 (b := vc_5) hv1c_5 hv2c_5
        have lb2_ := fx_l (fx_s (fx_s hfx sc_4 (by omega) (by omega) (by omega) (by omega)) sc_5 (by omega) (by omega) (by omega) (by omega)) hn1 hn4 (b := bb) h2 h3
        refine am_E.go (t2 := (117, [vR y, vI n, vI fr, vI v3, vI mn, vI k, vI bb, vI l, vI vc_4, vI vc_5], [], aq_h m s F c_5)) rfl rfl ?_
        refine am_E.go (t2 := (118, [vR y, vI n, vI fr, vI v3, vI mn, vI k, vI bb, vI l, vI vc_4, vI vc_5], [vR y], aq_h m s F c_5)) rfl rfl ?_
        refine aq_gf (v := vI (c_5 y 15)) rfl (by omega) hFo (by decide) rfl ?_
        show am_E _ (121, [vR y, vI n, vI fr, vI v3, vI mn, vI k, vI bb, vI l, vI vc_4, vI vc_5], [vI (c_5 y 15)], aq_h m s F c_5) _
        skip
        refine ae_if0 rfl (fun (q_7 : (c_5 y 15) ≠ 0) => ?_) (fun (q_7 : (c_5 y 15) = 0) => ?_)
        · refine ae_iinc rfl rfl (am_ri (by omega) (by omega)) ?_
          show am_E _ (195, [vR y, vI n, vI fr, vI v3, vI mn, vI k, vI bb, vI (l + 1), vI vc_4, vI vc_5], [], aq_h m s F c_5) _
          refine am_E.go (t2 := (79, [vR y, vI n, vI fr, vI v3, vI mn, vI k, vI bb, vI (l + 1), vI vc_4, vI vc_5], [], aq_h m s F c_5)) rfl rfl ?_
          exact qz_fw_l ⟨hm, hFo, hG5, hG6, hG7, hG8, hG9, hG10, hG11, hG12, hG13, hG14, hG15, hG16, hG17, hG18, hG19, hG20, hG21, hG22, hG23⟩ ⟨hT1, hTt⟩ hG2 hG3 hG4 hn1 hn4 hfr d v3 mn k bb (l + 1) (vI vc_4) (vI vc_5) c_5 (aq_smt (aq_smt hs (aq_smi sc_4 (fun a h => by omega))) (aq_smi sc_5 (fun a h => by omega))) (by omega) (by omega) (by omega) (by omega) (by omega) (by omega) (by omega) hbb (by rw [if_neg (by omega)] at tB3; rw [hki.2.2.2, tB3, hzz]) (mo_kt (mo_ks hob sc_4 (by omega)) hkc_5) (fx_s (fx_s hfx sc_4 (by omega) (by omega) (by omega) (by omega)) sc_5 (by omega) (by omega) (by omega) (by omega)) (by omega) K0
        · refine am_E.go (t2 := (125, [vR y, vI n, vI fr, vI v3, vI mn, vI k, vI bb, vI l, vI vc_4, vI vc_5], [vR y], aq_h m s F c_5)) rfl rfl ?_
          refine aq_gf (v := vR (y + 4)) rfl (by omega) hFo (by decide) rfl ?_
          show am_E _ (128, [vR y, vI n, vI fr, vI v3, vI mn, vI k, vI bb, vI l, vI vc_4, vI vc_5], [vR (y + 4)], aq_h m s F c_5) _
          refine am_E.go (t2 := (129, [vR y, vI n, vI fr, vI v3, vI mn, vI k, vI bb, vI l, vI vc_4, vI vc_5], [vI fr, vR (y + 4)], aq_h m s F c_5)) rfl rfl ?_
          refine am_E.go (t2 := (131, [vR y, vI n, vI fr, vI v3, vI mn, vI k, vI bb, vI l, vI vc_4, vI vc_5], [vI vc_5, vI fr, vR (y + 4)], aq_h m s F c_5)) rfl rfl ?_
          refine ae_add rfl (am_ri (by omega) (by omega)) ?_
          show am_E _ (132, [vR y, vI n, vI fr, vI v3, vI mn, vI k, vI bb, vI l, vI vc_4, vI vc_5], [vI (fr + vc_5), vR (y + 4)], aq_h m s F c_5) _
          refine aq_al (ok := fun k => k == 0) (v := vI (c_5 (y + 4) (fr + vc_5))) rfl rfl (by omega) hG4 rfl (by omega) (by omega) rfl ?_
          show am_E _ (133, [vR y, vI n, vI fr, vI v3, vI mn, vI k, vI bb, vI l, vI vc_4, vI vc_5], [vI (c_5 (y + 4) (fr + vc_5))], aq_h m s F c_5) _
          refine am_E.go (t2 := (135, [vR y, vI n, vI fr, vI v3, vI mn, vI k, vI bb, vI l, vI vc_4, vI vc_5], [vI (-4), vI (c_5 (y + 4) (fr + vc_5))], aq_h m s F c_5)) rfl rfl ?_
          refine ae_icmp rfl (fun (q_8 : (c_5 (y + 4) (fr + vc_5)) ≠ (-4)) => ?_) (fun (q_8 : (c_5 (y + 4) (fr + vc_5)) = (-4)) => ?_)
          · have evb : vc_5 = bn_ n (fd_ n k) (ki_ n l) := by omega
            have eix : ix_ n vc_5 = ix_ n (bn_ n (fd_ n k) (ki_ n l)) := by rw [← evb]
            have tX_ := (tb_A_a (n := n) (x := vc_5) hn1 hn4 hv1c_5 (by omega)).2.1
            refine ae_iinc rfl rfl (am_ri (by omega) (by omega)) ?_
            show am_E _ (195, [vR y, vI n, vI fr, vI v3, vI mn, vI k, vI bb, vI (l + 1), vI vc_4, vI vc_5], [], aq_h m s F c_5) _
            refine am_E.go (t2 := (79, [vR y, vI n, vI fr, vI v3, vI mn, vI k, vI bb, vI (l + 1), vI vc_4, vI vc_5], [], aq_h m s F c_5)) rfl rfl ?_
            exact qz_fw_l ⟨hm, hFo, hG5, hG6, hG7, hG8, hG9, hG10, hG11, hG12, hG13, hG14, hG15, hG16, hG17, hG18, hG19, hG20, hG21, hG22, hG23⟩ ⟨hT1, hTt⟩ hG2 hG3 hG4 hn1 hn4 hfr d v3 mn k bb (l + 1) (vI vc_4) (vI vc_5) c_5 (aq_smt (aq_smt hs (aq_smi sc_4 (fun a h => by omega))) (aq_smi sc_5 (fun a h => by omega))) (by omega) (by omega) (by omega) (by omega) (by omega) (by omega) (by omega) hbb (by rw [if_neg (by omega)] at tB3; rw [hki.2.2.2, tB3, hzz]) (mo_kt (mo_ks hob sc_4 (by omega)) hkc_5) (fx_s (fx_s hfx sc_4 (by omega) (by omega) (by omega) (by omega)) sc_5 (by omega) (by omega) (by omega) (by omega)) (by omega) K0
          · have evb : vc_5 = bn_ n (fd_ n k) (ki_ n l) := by omega
            have eix : ix_ n vc_5 = ix_ n (bn_ n (fd_ n k) (ki_ n l)) := by rw [← evb]
            have tX_ := (tb_A_a (n := n) (x := vc_5) hn1 hn4 hv1c_5 (by omega)).2.1
            rw [if_pos ⟨by omega, by omega, by omega⟩] at tB3
            obtain ⟨u1, u2, u3, u4, u5, u6, u7⟩ := tB3
            refine am_E.go (t2 := (139, [vR y, vI n, vI fr, vI v3, vI mn, vI k, vI bb, vI l, vI vc_4, vI vc_5], [vR y], aq_h m s F c_5)) rfl rfl ?_
            refine aq_gf (v := vR (y + 4)) rfl (by omega) hFo (by decide) rfl ?_
            show am_E _ (142, [vR y, vI n, vI fr, vI v3, vI mn, vI k, vI bb, vI l, vI vc_4, vI vc_5], [vR (y + 4)], aq_h m s F c_5) _
            refine am_E.go (t2 := (143, [vR y, vI n, vI fr, vI v3, vI mn, vI k, vI bb, vI l, vI vc_4, vI vc_5], [vI fr, vR (y + 4)], aq_h m s F c_5)) rfl rfl ?_
            refine am_E.go (t2 := (145, [vR y, vI n, vI fr, vI v3, vI mn, vI k, vI bb, vI l, vI vc_4, vI vc_5], [vI vc_5, vI fr, vR (y + 4)], aq_h m s F c_5)) rfl rfl ?_
            refine ae_add rfl (am_ri (by omega) (by omega)) ?_
            show am_E _ (146, [vR y, vI n, vI fr, vI v3, vI mn, vI k, vI bb, vI l, vI vc_4, vI vc_5], [vI (fr + vc_5), vR (y + 4)], aq_h m s F c_5) _
            refine am_E.go (t2 := (147, [vR y, vI n, vI fr, vI v3, vI mn, vI k, vI bb, vI l, vI vc_4, vI vc_5], [vR y, vI (fr + vc_5), vR (y + 4)], aq_h m s F c_5)) rfl rfl ?_
            refine aq_gf (v := vR (y + 4)) rfl (by omega) hFo (by decide) rfl ?_
            show am_E _ (150, [vR y, vI n, vI fr, vI v3, vI mn, vI k, vI bb, vI l, vI vc_4, vI vc_5], [vR (y + 4), vI (fr + vc_5), vR (y + 4)], aq_h m s F c_5) _
            refine am_E.go (t2 := (151, [vR y, vI n, vI fr, vI v3, vI mn, vI k, vI bb, vI l, vI vc_4, vI vc_5], [vI fr, vR (y + 4), vI (fr + vc_5), vR (y + 4)], aq_h m s F c_5)) rfl rfl ?_
            refine am_E.go (t2 := (153, [vR y, vI n, vI fr, vI v3, vI mn, vI k, vI bb, vI l, vI vc_4, vI vc_5], [vI bb, vI fr, vR (y + 4), vI (fr + vc_5), vR (y + 4)], aq_h m s F c_5)) rfl rfl ?_
            refine ae_add rfl (am_ri (by omega) (by omega)) ?_
            show am_E _ (154, [vR y, vI n, vI fr, vI v3, vI mn, vI k, vI bb, vI l, vI vc_4, vI vc_5], [vI (fr + bb), vR (y + 4), vI (fr + vc_5), vR (y + 4)], aq_h m s F c_5) _
            refine aq_al (ok := fun k => k == 0) (v := vI (c_5 (y + 4) (fr + bb))) rfl rfl (by omega) hG4 rfl (by omega) (by omega) rfl ?_
            show am_E _ (155, [vR y, vI n, vI fr, vI v3, vI mn, vI k, vI bb, vI l, vI vc_4, vI vc_5], [vI (c_5 (y + 4) (fr + bb)), vI (fr + vc_5), vR (y + 4)], aq_h m s F c_5) _
            refine am_E.go (t2 := (156, [vR y, vI n, vI fr, vI v3, vI mn, vI k, vI bb, vI l, vI vc_4, vI vc_5], [vI 1, vI (c_5 (y + 4) (fr + bb)), vI (fr + vc_5), vR (y + 4)], aq_h m s F c_5)) rfl rfl ?_
            refine ae_add rfl (am_ri (by omega) (by omega)) ?_
            show am_E _ (157, [vR y, vI n, vI fr, vI v3, vI mn, vI k, vI bb, vI l, vI vc_4, vI vc_5], [vI ((c_5 (y + 4) (fr + bb)) + 1), vI (fr + vc_5), vR (y + 4)], aq_h m s F c_5) _
            refine aq_as (kd := 0) rfl rfl (by omega) hG4 (by omega) (by omega) rfl rfl ?_
            show am_E _ (158, [vR y, vI n, vI fr, vI v3, vI mn, vI k, vI bb, vI l, vI vc_4, vI vc_5], [], aq_h m s F (aq_u c_5 (y + 4) (fr + vc_5) ((c_5 (y + 4) (fr + bb)) + 1))) _
            generalize hdc_9 : aq_u c_5 (y + 4) (fr + vc_5) ((c_5 (y + 4) (fr + bb)) + 1) = c_9
            have sc_9 := aq_smu (aq_smt (aq_smt hs (aq_smi sc_4 (fun a h => by omega))) (aq_smi sc_5 (fun a h => by omega))) hdc_9 (by omega)
            have hobc_9 := mo_ku (mo_kt (mo_ks hob sc_4 (by omega)) hkc_5) hdc_9 (Or.inl (by omega))
            refine am_E.go (t2 := (159, [vR y, vI n, vI fr, vI v3, vI mn, vI k, vI bb, vI l, vI vc_4, vI vc_5], [vR y], aq_h m s F c_9)) rfl rfl ?_
            refine aq_gf (v := vR (y + 2)) rfl (by omega) hFo (by decide) rfl ?_
            show am_E _ (162, [vR y, vI n, vI fr, vI v3, vI mn, vI k, vI bb, vI l, vI vc_4, vI vc_5], [vR (y + 2)], aq_h m s F c_9) _
            refine am_E.go (t2 := (163, [vR y, vI n, vI fr, vI v3, vI mn, vI k, vI bb, vI l, vI vc_4, vI vc_5], [vI fr, vR (y + 2)], aq_h m s F c_9)) rfl rfl ?_
            refine am_E.go (t2 := (165, [vR y, vI n, vI fr, vI v3, vI mn, vI k, vI bb, vI l, vI vc_4, vI vc_5], [vI vc_5, vI fr, vR (y + 2)], aq_h m s F c_9)) rfl rfl ?_
            refine ae_add rfl (am_ri (by omega) (by omega)) ?_
            show am_E _ (166, [vR y, vI n, vI fr, vI v3, vI mn, vI k, vI bb, vI l, vI vc_4, vI vc_5], [vI (fr + vc_5), vR (y + 2)], aq_h m s F c_9) _
            refine am_E.go (t2 := (168, [vR y, vI n, vI fr, vI v3, vI mn, vI k, vI bb, vI l, vI vc_4, vI vc_5], [vI l, vI (fr + vc_5), vR (y + 2)], aq_h m s F c_9)) rfl rfl ?_
            refine aq_as (kd := 0) rfl rfl (by omega) hG2 (by omega) (by omega) rfl rfl ?_
            show am_E _ (169, [vR y, vI n, vI fr, vI v3, vI mn, vI k, vI bb, vI l, vI vc_4, vI vc_5], [], aq_h m s F (aq_u c_9 (y + 2) (fr + vc_5) l)) _
            generalize hdc_10 : aq_u c_9 (y + 2) (fr + vc_5) l = c_10
            have sc_10 := aq_smu sc_9 hdc_10 (by omega)
            have hobc_10 := mo_ku hobc_9 hdc_10 (Or.inl (by omega))
            refine am_E.go (t2 := (170, [vR y, vI n, vI fr, vI v3, vI mn, vI k, vI bb, vI l, vI vc_4, vI vc_5], [vR y], aq_h m s F c_10)) rfl rfl ?_
            refine aq_gf (v := vR (y + 3)) rfl (by omega) hFo (by decide) rfl ?_
            show am_E _ (173, [vR y, vI n, vI fr, vI v3, vI mn, vI k, vI bb, vI l, vI vc_4, vI vc_5], [vR (y + 3)], aq_h m s F c_10) _
            refine am_E.go (t2 := (174, [vR y, vI n, vI fr, vI v3, vI mn, vI k, vI bb, vI l, vI vc_4, vI vc_5], [vI fr, vR (y + 3)], aq_h m s F c_10)) rfl rfl ?_
            refine am_E.go (t2 := (176, [vR y, vI n, vI fr, vI v3, vI mn, vI k, vI bb, vI l, vI vc_4, vI vc_5], [vI vc_5, vI fr, vR (y + 3)], aq_h m s F c_10)) rfl rfl ?_
            refine ae_add rfl (am_ri (by omega) (by omega)) ?_
            show am_E _ (177, [vR y, vI n, vI fr, vI v3, vI mn, vI k, vI bb, vI l, vI vc_4, vI vc_5], [vI (fr + vc_5), vR (y + 3)], aq_h m s F c_10) _
            refine am_E.go (t2 := (179, [vR y, vI n, vI fr, vI v3, vI mn, vI k, vI bb, vI l, vI vc_4, vI vc_5], [vI bb, vI (fr + vc_5), vR (y + 3)], aq_h m s F c_10)) rfl rfl ?_
            refine aq_as (kd := 0) rfl rfl (by omega) hG3 (by omega) (by omega) rfl rfl ?_
            show am_E _ (180, [vR y, vI n, vI fr, vI v3, vI mn, vI k, vI bb, vI l, vI vc_4, vI vc_5], [], aq_h m s F (aq_u c_10 (y + 3) (fr + vc_5) bb)) _
            generalize hdc_11 : aq_u c_10 (y + 3) (fr + vc_5) bb = c_11
            have sc_11 := aq_smu sc_10 hdc_11 (by omega)
            have hobc_11 := mo_ku hobc_10 hdc_11 (Or.inl (by omega))
            refine am_E.go (t2 := (181, [vR y, vI n, vI fr, vI v3, vI mn, vI k, vI bb, vI l, vI vc_4, vI vc_5], [vR y], aq_h m s F c_11)) rfl rfl ?_
            refine aq_gf (v := vR (y + 14)) rfl (by omega) hFo (by decide) rfl ?_
            show am_E _ (184, [vR y, vI n, vI fr, vI v3, vI mn, vI k, vI bb, vI l, vI vc_4, vI vc_5], [vR (y + 14)], aq_h m s F c_11) _
            refine am_E.go (t2 := (186, [vR y, vI n, vI fr, vI v3, vI mn, vI k, vI bb, vI l, vI vc_4, vI vc_5], [vI mn, vR (y + 14)], aq_h m s F c_11)) rfl rfl ?_
            refine am_E.go (t2 := (188, [vR y, vI n, vI fr, vI v3, vI mn, vI k, vI bb, vI l, vI vc_4, vI vc_5], [vI vc_5, vI mn, vR (y + 14)], aq_h m s F c_11)) rfl rfl ?_
            refine aq_as (kd := 0) rfl rfl (by omega) hG14 (by omega) (by omega) rfl rfl ?_
            show am_E _ (189, [vR y, vI n, vI fr, vI v3, vI mn, vI k, vI bb, vI l, vI vc_4, vI vc_5], [], aq_h m s F (aq_u c_11 (y + 14) mn vc_5)) _
            generalize hdc_12 : aq_u c_11 (y + 14) mn vc_5 = c_12
            have sc_12 := aq_smu sc_11 hdc_12 (by omega)
            have hobc_12 := mo_ku hobc_11 hdc_12 (Or.inl (by omega))
            have fxc_12 : fx_ y n fr (mn + 1) c0 c_12 := fx_u hn1 hn4 (fx_s (fx_s hfx sc_4 (by omega) (by omega) (by omega) (by omega)) sc_5 (by omega) (by omega) (by omega) (by omega)) hzz evb hbb h4 (by omega) hki.1 hki.2.1 (by omega) (by omega) (by omega) (by omega) (by omega) hki.2.2.1.symm hdc_9 hdc_10 hdc_11 hdc_12
            refine ae_iinc rfl rfl (am_ri (by omega) (by omega)) ?_
            show am_E _ (192, [vR y, vI n, vI fr, vI v3, vI (mn + 1), vI k, vI bb, vI l, vI vc_4, vI vc_5], [], aq_h m s F c_12) _
            refine ae_iinc rfl rfl (am_ri (by omega) (by omega)) ?_
            show am_E _ (195, [vR y, vI n, vI fr, vI v3, vI (mn + 1), vI k, vI bb, vI (l + 1), vI vc_4, vI vc_5], [], aq_h m s F c_12) _
            refine am_E.go (t2 := (79, [vR y, vI n, vI fr, vI v3, vI (mn + 1), vI k, vI bb, vI (l + 1), vI vc_4, vI vc_5], [], aq_h m s F c_12)) rfl rfl ?_
            exact qz_fw_l ⟨hm, hFo, hG5, hG6, hG7, hG8, hG9, hG10, hG11, hG12, hG13, hG14, hG15, hG16, hG17, hG18, hG19, hG20, hG21, hG22, hG23⟩ ⟨hT1, hTt⟩ hG2 hG3 hG4 hn1 hn4 hfr d v3 (mn + 1) k bb (l + 1) (vI vc_4) (vI vc_5) c_12 sc_12 (by omega) (by omega) (by omega) (by omega) (by omega) (by omega) (by omega) hbb (by rw [hki.2.2.2, u7, hzz]) hobc_12 fxc_12 (by omega) K0

theorem qz_fw_k {m s : Nat} {F : aq_F} {c0 : aq_C} {y : Nat} (hO : mo_0 m F y) {tbl : Int → Int} (hT : mo_T F y tbl) (hG2 : F (y + 2) = (0, 124, fun _ => .inl 0)) (hG3 : F (y + 3) = (0, 124, fun _ => .inl 0)) (hG4 : F (y + 4) = (0, 124, fun _ => .inl 0)) {n fr : Int} (hn1 : 1 ≤ n) (hn4 : n ≤ 4) (hfr : fr = mo_f n) : ∀ (d : Nat) (v3 : Int) (mn : Int) (k : Int) (v6 : am_V) (v7 : am_V) (v8 : am_V) (v9 : am_V) (c : aq_C) (hs : aq_sm (fun a => a = y ∨ a = y + 2 ∨ a = y + 3 ∨ a = y + 4 ∨ a = y + 12 ∨ a = y + 13 ∨ a = y + 14) c0 c) (h0 : 0 ≤ k) (h1 : k ≤ mn) (h2 : mn ≤ bx_K n) (hzz : mn = sz_ n k 0) (hob : mo_k y c0 c) (hfx : fx_ y n fr mn c0 c) (hd : bx_K n - k < (d : Int)), am_E ac_X5_findWords (60, [vR y, vI n, vI fr, vI v3, vI mn, vI k, v6, v7, v8, v9], [], aq_h m s F c) (aq_Z m s F (fun a => a = y ∨ a = y + 2 ∨ a = y + 3 ∨ a = y + 4 ∨ a = y + 12 ∨ a = y + 13 ∨ a = y + 14) c0 (fun r d => r = none ∧ mo_k y c0 d ∧ fx_ y n (mo_f n) (bx_K n) c0 d))
  | 0, v3, mn, k, v6, v7, v8, v9, c, hs, h0, h1, h2, hzz, hob, hfx, hd => by exfalso; omega
  | d + 1, v3, mn, k, v6, v7, v8, v9, c, hs, h0, h1, h2, hzz, hob, hfx, hd => by
    obtain ⟨hm, hFo, hG5, hG6, hG7, hG8, hG9, hG10, hG11, hG12, hG13, hG14, hG15, hG16, hG17, hG18, hG19, hG20, hG21, hG22, hG23⟩ := hO
    obtain ⟨hT1, hTt⟩ := hT
    have hfs := mo_fs n
    refine am_E.go (t2 := (62, [vR y, vI n, vI fr, vI v3, vI mn, vI k, v6, v7, v8, v9], [vI k], aq_h m s F c)) rfl rfl ?_
    refine am_E.go (t2 := (64, [vR y, vI n, vI fr, vI v3, vI mn, vI k, v6, v7, v8, v9], [vI mn, vI k], aq_h m s F c)) rfl rfl ?_
    refine ae_icmp rfl (fun (q_1 : mn ≤ k) => ?_) (fun (q_1 : k < mn) => ?_)
    · refine am_E.ret rfl rfl ?_
      have tE := (tb_E_a (n := n) (x := k) hn1 hn4 h0 (by omega)).1
      have em : mn = bx_K n := by omega
      have hf9 := hfx
      rw [em, hfr] at hf9
      exact ⟨_, rfl, hs, rfl, hob, hf9⟩
    · refine am_E.go (t2 := (68, [vR y, vI n, vI fr, vI v3, vI mn, vI k, v6, v7, v8, v9], [vR y], aq_h m s F c)) rfl rfl ?_
      refine aq_gf (v := vR (y + 14)) rfl (by omega) hFo (by decide) rfl ?_
      show am_E _ (71, [vR y, vI n, vI fr, vI v3, vI mn, vI k, v6, v7, v8, v9], [vR (y + 14)], aq_h m s F c) _
      refine am_E.go (t2 := (73, [vR y, vI n, vI fr, vI v3, vI mn, vI k, v6, v7, v8, v9], [vI k, vR (y + 14)], aq_h m s F c)) rfl rfl ?_
      refine aq_al (ok := fun k => k == 0) (v := vI (c (y + 14) k)) rfl rfl (by omega) hG14 rfl (by omega) (by omega) rfl ?_
      show am_E _ (74, [vR y, vI n, vI fr, vI v3, vI mn, vI k, v6, v7, v8, v9], [vI (c (y + 14) k)], aq_h m s F c) _
      have f_2 := (hfx).1 k (by omega) (by omega)
      have tA_ := (tb_A_a (n := n) (x := k) hn1 hn4 h0 (by omega)).2.2.1
      refine am_E.go (t2 := (76, [vR y, vI n, vI fr, vI v3, vI mn, vI k, vI (c (y + 14) k), v7, v8, v9], [], aq_h m s F c)) rfl rfl ?_
      refine am_E.go (t2 := (77, [vR y, vI n, vI fr, vI v3, vI mn, vI k, vI (c (y + 14) k), v7, v8, v9], [vI 1], aq_h m s F c)) rfl rfl ?_
      refine am_E.go (t2 := (79, [vR y, vI n, vI fr, vI v3, vI mn, vI k, vI (c (y + 14) k), vI 1, v8, v9], [], aq_h m s F c)) rfl rfl ?_
      refine qz_fw_l ⟨hm, hFo, hG5, hG6, hG7, hG8, hG9, hG10, hG11, hG12, hG13, hG14, hG15, hG16, hG17, hG18, hG19, hG20, hG21, hG22, hG23⟩ ⟨hT1, hTt⟩ hG2 hG3 hG4 hn1 hn4 hfr 15 v3 mn k (c (y + 14) k) 1 (v8) (v9) c hs (by omega) (by omega) (by omega) (by omega) (by omega) (by omega) (by omega) (hfx.1 k (by omega) (by omega)) (by rw [hzz, (ki_e hn1 hn4).2]) hob hfx (by omega) ?_
      · intro mn2_79 l2_79 v82_79 v92_79 c_3 sc_3 f1_79 f2_79 hzz2_79 hob2_79 hfx2_79
        refine ae_iinc rfl rfl (am_ri (by omega) (by omega)) ?_
        show am_E _ (201, [vR y, vI n, vI fr, vI v3, vI mn2_79, vI (k + 1), vI (c (y + 14) k), vI l2_79, v82_79, v92_79], [], aq_h m s F c_3) _
        refine am_E.go (t2 := (60, [vR y, vI n, vI fr, vI v3, vI mn2_79, vI (k + 1), vI (c (y + 14) k), vI l2_79, v82_79, v92_79], [], aq_h m s F c_3)) rfl rfl ?_
        exact qz_fw_k ⟨hm, hFo, hG5, hG6, hG7, hG8, hG9, hG10, hG11, hG12, hG13, hG14, hG15, hG16, hG17, hG18, hG19, hG20, hG21, hG22, hG23⟩ ⟨hT1, hTt⟩ hG2 hG3 hG4 hn1 hn4 hfr d v3 mn2_79 (k + 1) (vI (c (y + 14) k)) (vI l2_79) (v82_79) (v92_79) c_3 sc_3 (by omega) (by omega) (by omega) (by rw [hzz2_79]; exact ((tb_E_a (n := n) (x := k) hn1 hn4 h0 (by omega)).2 (by omega)).2) hob2_79 hfx2_79 (by omega)

theorem qz_fw_z {m s : Nat} {F : aq_F} {c0 : aq_C} {y : Nat} (hO : mo_0 m F y) {tbl : Int → Int} (hT : mo_T F y tbl) (hG2 : F (y + 2) = (0, 124, fun _ => .inl 0)) (hG3 : F (y + 3) = (0, 124, fun _ => .inl 0)) (hG4 : F (y + 4) = (0, 124, fun _ => .inl 0)) {n fr : Int} (hn1 : 1 ≤ n) (hn4 : n ≤ 4) (hfr : fr = mo_f n) (hA0 : ∀ b, 0 ≤ b → b < bx_K n → 0 ≤ c0 (y + 3) (fr + b) ∧ c0 (y + 3) (fr + b) < bx_K n) : ∀ (d : Nat) (b : Int) (v4 : am_V) (v5 : am_V) (v6 : am_V) (v7 : am_V) (v8 : am_V) (v9 : am_V) (c : aq_C) (hs : aq_sm (fun a => a = y ∨ a = y + 2 ∨ a = y + 3 ∨ a = y + 4 ∨ a = y + 12 ∨ a = y + 13 ∨ a = y + 14) c0 c) (h0 : 0 ≤ b) (h1 : b ≤ bx_K n) (hz : ∀ i, 0 ≤ i → i < b → c (y + 4) (fr + i) = -4) (h3 : ∀ j, c (y + 3) j = c0 (y + 3) j ∧ c (y + 2) j = c0 (y + 2) j) (h4 : ∀ j, (j < fr ∨ fr + bx_K n ≤ j) → c (y + 4) j = c0 (y + 4) j) (hob : mo_k y c0 c) (hd : bx_K n - b < (d : Int)), am_E ac_X5_findWords (7, [vR y, vI n, vI fr, vI b, v4, v5, v6, v7, v8, v9], [], aq_h m s F c) (aq_Z m s F (fun a => a = y ∨ a = y + 2 ∨ a = y + 3 ∨ a = y + 4 ∨ a = y + 12 ∨ a = y + 13 ∨ a = y + 14) c0 (fun r d => r = none ∧ mo_k y c0 d ∧ fx_ y n (mo_f n) (bx_K n) c0 d))
  | 0, b, v4, v5, v6, v7, v8, v9, c, hs, h0, h1, hz, h3, h4, hob, hd => by exfalso; omega
  | d + 1, b, v4, v5, v6, v7, v8, v9, c, hs, h0, h1, hz, h3, h4, hob, hd => by
    obtain ⟨hm, hFo, hG5, hG6, hG7, hG8, hG9, hG10, hG11, hG12, hG13, hG14, hG15, hG16, hG17, hG18, hG19, hG20, hG21, hG22, hG23⟩ := hO
    obtain ⟨hT1, hTt⟩ := hT
    have hfs := mo_fs n
    refine am_E.go (t2 := (8, [vR y, vI n, vI fr, vI b, v4, v5, v6, v7, v8, v9], [vI b], aq_h m s F c)) rfl rfl ?_
    refine am_E.go (t2 := (9, [vR y, vI n, vI fr, vI b, v4, v5, v6, v7, v8, v9], [vI n, vI b], aq_h m s F c)) rfl rfl ?_
    refine am_E.call rfl rfl rfl (Nat.le_of_ble_eq_true rfl) (qm_boxes) ?_
    rintro r5 h5 ⟨rfl, v_1, rfl, hv_1⟩
    show am_E _ (12, [vR y, vI n, vI fr, vI b, v4, v5, v6, v7, v8, v9], [vI v_1, vI b], aq_h m s F c) _
    refine ae_icmp rfl (fun (q_2 : v_1 ≤ b) => ?_) (fun (q_2 : b < v_1) => ?_)
    · refine am_E.go (t2 := (32, [vR y, vI n, vI fr, vI b, v4, v5, v6, v7, v8, v9], [vR y], aq_h m s F c)) rfl rfl ?_
      refine am_E.go (t2 := (33, [vR y, vI n, vI fr, vI b, v4, v5, v6, v7, v8, v9], [vI n, vR y], aq_h m s F c)) rfl rfl ?_
      refine am_E.go (t2 := (34, [vR y, vI n, vI fr, vI b, v4, v5, v6, v7, v8, v9], [vI 0, vI n, vR y], aq_h m s F c)) rfl rfl ?_
      refine aq_callv (y := 3) (as2 := [vI n, vI 0]) (rest := []) rfl rfl (by decide) (Nat.le_of_ble_eq_true rfl) rfl rfl (Nat.le_of_ble_eq_true rfl) (by omega) hFo rfl (Nat.le_of_ble_eq_true rfl) (qm_plainBox (S := fun a => a = y + 12) ⟨hm, hFo, hG5, hG6, hG7, hG8, hG9, hG10, hG11, hG12, hG13, hG14, hG15, hG16, hG17, hG18, hG19, hG20, hG21, hG22, hG23⟩ rfl ⟨hT1, hTt⟩ (by omega) (by omega) (by omega)) ?_
      rintro r5 h5 ⟨c_3, rfl, sc_3, vc_3, rfl, hv1c_3, hv2c_3, hv3c_3⟩
      show am_E _ (37, [vR y, vI n, vI fr, vI b, v4, v5, v6, v7, v8, v9], [vI vc_3], aq_h m s F c_3) _
      refine am_E.go (t2 := (38, [vR y, vI n, vI fr, vI vc_3, v4, v5, v6, v7, v8, v9], [], aq_h m s F c_3)) rfl rfl ?_
      refine am_E.go (t2 := (39, [vR y, vI n, vI fr, vI vc_3, v4, v5, v6, v7, v8, v9], [vR y], aq_h m s F c_3)) rfl rfl ?_
      refine aq_gf (v := vR (y + 4)) rfl (by omega) hFo (by decide) rfl ?_
      show am_E _ (42, [vR y, vI n, vI fr, vI vc_3, v4, v5, v6, v7, v8, v9], [vR (y + 4)], aq_h m s F c_3) _
      refine am_E.go (t2 := (43, [vR y, vI n, vI fr, vI vc_3, v4, v5, v6, v7, v8, v9], [vI fr, vR (y + 4)], aq_h m s F c_3)) rfl rfl ?_
      refine am_E.go (t2 := (44, [vR y, vI n, vI fr, vI vc_3, v4, v5, v6, v7, v8, v9], [vI vc_3, vI fr, vR (y + 4)], aq_h m s F c_3)) rfl rfl ?_
      refine ae_add rfl (am_ri (by omega) (by omega)) ?_
      show am_E _ (45, [vR y, vI n, vI fr, vI vc_3, v4, v5, v6, v7, v8, v9], [vI (fr + vc_3), vR (y + 4)], aq_h m s F c_3) _
      refine am_E.go (t2 := (46, [vR y, vI n, vI fr, vI vc_3, v4, v5, v6, v7, v8, v9], [vI 0, vI (fr + vc_3), vR (y + 4)], aq_h m s F c_3)) rfl rfl ?_
      refine aq_as (kd := 0) rfl rfl (by omega) hG4 (by omega) (by omega) rfl rfl ?_
      show am_E _ (47, [vR y, vI n, vI fr, vI vc_3, v4, v5, v6, v7, v8, v9], [], aq_h m s F (aq_u c_3 (y + 4) (fr + vc_3) 0)) _
      generalize hdc_4 : aq_u c_3 (y + 4) (fr + vc_3) 0 = c_4
      have sc_4 := aq_smu (aq_smt hs (aq_smi sc_3 (fun a h => by omega))) hdc_4 (by omega)
      have hobc_4 := mo_ku (mo_ks hob sc_3 (by omega)) hdc_4 (Or.inl (by omega))
      refine am_E.go (t2 := (48, [vR y, vI n, vI fr, vI vc_3, v4, v5, v6, v7, v8, v9], [vR y], aq_h m s F c_4)) rfl rfl ?_
      refine aq_gf (v := vR (y + 14)) rfl (by omega) hFo (by decide) rfl ?_
      show am_E _ (51, [vR y, vI n, vI fr, vI vc_3, v4, v5, v6, v7, v8, v9], [vR (y + 14)], aq_h m s F c_4) _
      refine am_E.go (t2 := (52, [vR y, vI n, vI fr, vI vc_3, v4, v5, v6, v7, v8, v9], [vI 0, vR (y + 14)], aq_h m s F c_4)) rfl rfl ?_
      refine am_E.go (t2 := (53, [vR y, vI n, vI fr, vI vc_3, v4, v5, v6, v7, v8, v9], [vI vc_3, vI 0, vR (y + 14)], aq_h m s F c_4)) rfl rfl ?_
      refine aq_as (kd := 0) rfl rfl (by omega) hG14 (by omega) (by omega) rfl rfl ?_
      show am_E _ (54, [vR y, vI n, vI fr, vI vc_3, v4, v5, v6, v7, v8, v9], [], aq_h m s F (aq_u c_4 (y + 14) 0 vc_3)) _
      generalize hdc_5 : aq_u c_4 (y + 14) 0 vc_3 = c_5
      have sc_5 := aq_smu sc_4 hdc_5 (by omega)
      have hobc_5 := mo_ku hobc_4 hdc_5 (Or.inl (by omega))
      refine am_E.go (t2 := (55, [vR y, vI n, vI fr, vI vc_3, v4, v5, v6, v7, v8, v9], [vI 1], aq_h m s F c_5)) rfl rfl ?_
      refine am_E.go (t2 := (57, [vR y, vI n, vI fr, vI vc_3, vI 1, v5, v6, v7, v8, v9], [], aq_h m s F c_5)) rfl rfl ?_
      refine am_E.go (t2 := (58, [vR y, vI n, vI fr, vI vc_3, vI 1, v5, v6, v7, v8, v9], [vI 0], aq_h m s F c_5)) rfl rfl ?_
      refine am_E.go (t2 := (60, [vR y, vI n, vI fr, vI vc_3, vI 1, vI 0, v6, v7, v8, v9], [], aq_h m s F c_5)) rfl rfl ?_
      have t0 := tb_0 n.toNat (by omega) (by omega)
      rw [Int.toNat_of_nonneg (show 0 ≤ n by omega)] at t0
      have ep_ := nu_v (f := bx_ol n.toNat 0) hn1 hn4 hv1c_3 hv2c_3 (fun i k0 k1 => by rw [hv3c_3 i k0 k1]; exact pl_e hn1 hn4 (by omega) k0 k1)
      have fx1 : fx_ y n fr 1 c0 c_5 := fx_1 hn1 hn4 (v := vc_3) (by rw [t0.1]; exact ep_.symm) t0.2.1 (fun i k0 k1 => by rw [sc_3 _ (by omega)]; exact hz i k0 (by omega)) (fun j => by rw [sc_3 _ (by omega)]; exact (h3 j).1) (fun j => by rw [sc_3 _ (by omega)]; exact (h3 j).2) (fun j q => by rw [sc_3 _ (by omega)]; exact h4 j q) hA0 hdc_4 hdc_5
      exact qz_fw_k ⟨hm, hFo, hG5, hG6, hG7, hG8, hG9, hG10, hG11, hG12, hG13, hG14, hG15, hG16, hG17, hG18, hG19, hG20, hG21, hG22, hG23⟩ ⟨hT1, hTt⟩ hG2 hG3 hG4 hn1 hn4 hfr 106 vc_3 1 0 (v6) (v7) (v8) (v9) c_5 sc_5 (by omega) (by omega) (by omega) t0.2.2.symm hobc_5 fx1 (by omega)
    · refine am_E.go (t2 := (16, [vR y, vI n, vI fr, vI b, v4, v5, v6, v7, v8, v9], [vR y], aq_h m s F c)) rfl rfl ?_
      refine aq_gf (v := vR (y + 4)) rfl (by omega) hFo (by decide) rfl ?_
      show am_E _ (19, [vR y, vI n, vI fr, vI b, v4, v5, v6, v7, v8, v9], [vR (y + 4)], aq_h m s F c) _
      refine am_E.go (t2 := (20, [vR y, vI n, vI fr, vI b, v4, v5, v6, v7, v8, v9], [vI fr, vR (y + 4)], aq_h m s F c)) rfl rfl ?_
      refine am_E.go (t2 := (21, [vR y, vI n, vI fr, vI b, v4, v5, v6, v7, v8, v9], [vI b, vI fr, vR (y + 4)], aq_h m s F c)) rfl rfl ?_
      refine ae_add rfl (am_ri (by omega) (by omega)) ?_
      show am_E _ (22, [vR y, vI n, vI fr, vI b, v4, v5, v6, v7, v8, v9], [vI (fr + b), vR (y + 4)], aq_h m s F c) _
      refine am_E.go (t2 := (24, [vR y, vI n, vI fr, vI b, v4, v5, v6, v7, v8, v9], [vI (-4), vI (fr + b), vR (y + 4)], aq_h m s F c)) rfl rfl ?_
      refine aq_as (kd := 0) rfl rfl (by omega) hG4 (by omega) (by omega) rfl rfl ?_
      show am_E _ (25, [vR y, vI n, vI fr, vI b, v4, v5, v6, v7, v8, v9], [], aq_h m s F (aq_u c (y + 4) (fr + b) (-4))) _
      generalize hdc_6 : aq_u c (y + 4) (fr + b) (-4) = c_6
      have sc_6 := aq_smu hs hdc_6 (by omega)
      have hobc_6 := mo_ku hob hdc_6 (Or.inl (by omega))
      refine ae_iinc rfl rfl (am_ri (by omega) (by omega)) ?_
      show am_E _ (28, [vR y, vI n, vI fr, vI (b + 1), v4, v5, v6, v7, v8, v9], [], aq_h m s F c_6) _
      refine am_E.go (t2 := (7, [vR y, vI n, vI fr, vI (b + 1), v4, v5, v6, v7, v8, v9], [], aq_h m s F c_6)) rfl rfl ?_
      exact qz_fw_z ⟨hm, hFo, hG5, hG6, hG7, hG8, hG9, hG10, hG11, hG12, hG13, hG14, hG15, hG16, hG17, hG18, hG19, hG20, hG21, hG22, hG23⟩ ⟨hT1, hTt⟩ hG2 hG3 hG4 hn1 hn4 hfr hA0 d (b + 1) (v4) (v5) (v6) (v7) (v8) (v9) c_6 sc_6 (by omega) (by omega) (fun i h5 h6 => by rw [← hdc_6]; by_cases e : i = b; (rw [e, aq_us]); rw [aq_un (Or.inr (by omega))]; exact hz i h5 (by omega)) (fun j => by rw [← hdc_6, aq_un (Or.inl (by omega)), aq_un (Or.inl (by omega))]; exact h3 j) (fun j h5 => by rw [← hdc_6, aq_un (Or.inr (by omega))]; exact h4 j h5) hobc_6 (by omega)

theorem qz_findWords {m s : Nat} {F : aq_F} {c : aq_C} {y : Nat} (hO : mo_0 m F y) {tbl : Int → Int} (hT : mo_T F y tbl) (hG2 : F (y + 2) = (0, 124, fun _ => .inl 0)) (hG3 : F (y + 3) = (0, 124, fun _ => .inl 0)) (hG4 : F (y + 4) = (0, 124, fun _ => .inl 0)) {n : Int} (hn1 : 1 ≤ n) (hn4 : n ≤ 4) (hA0 : ∀ b, 0 ≤ b → b < bx_K n → 0 ≤ c (y + 3) (mo_f n + b) ∧ c (y + 3) (mo_f n + b) < bx_K n) : am_E ac_X5_findWords (0, [vR y, vI n, vU, vU, vU, vU, vU, vU, vU, vU], [], aq_h m s F c) (aq_Z m s F (fun a => a = y ∨ a = y + 2 ∨ a = y + 3 ∨ a = y + 4 ∨ a = y + 12 ∨ a = y + 13 ∨ a = y + 14) c (fun r d => r = none ∧ mo_k y c d ∧ fx_ y n (mo_f n) (bx_K n) c d)) := by
  obtain ⟨hm, hFo, hG5, hG6, hG7, hG8, hG9, hG10, hG11, hG12, hG13, hG14, hG15, hG16, hG17, hG18, hG19, hG20, hG21, hG22, hG23⟩ := hO
  obtain ⟨hT1, hTt⟩ := hT
  have hfs := mo_fs n
  refine am_E.go (t2 := (1, [vR y, vI n, vU, vU, vU, vU, vU, vU, vU, vU], [vI n], aq_h m s F c)) rfl rfl ?_
  refine am_E.call rfl rfl rfl (Nat.le_of_ble_eq_true rfl) (qm_first) ?_
  rintro r5 h5 ⟨rfl, fr, rfl, hfr⟩
  show am_E _ (4, [vR y, vI n, vU, vU, vU, vU, vU, vU, vU, vU], [vI fr], aq_h m s F c) _
  refine am_E.go (t2 := (5, [vR y, vI n, vI fr, vU, vU, vU, vU, vU, vU, vU], [], aq_h m s F c)) rfl rfl ?_
  refine am_E.go (t2 := (6, [vR y, vI n, vI fr, vU, vU, vU, vU, vU, vU, vU], [vI 0], aq_h m s F c)) rfl rfl ?_
  refine am_E.go (t2 := (7, [vR y, vI n, vI fr, vI 0, vU, vU, vU, vU, vU, vU], [], aq_h m s F c)) rfl rfl ?_
  exact qz_fw_z ⟨hm, hFo, hG5, hG6, hG7, hG8, hG9, hG10, hG11, hG12, hG13, hG14, hG15, hG16, hG17, hG18, hG19, hG20, hG21, hG22, hG23⟩ ⟨hT1, hTt⟩ hG2 hG3 hG4 hn1 hn4 hfr (by rw [hfr]; exact hA0) 107 0 (vU) (vU) (vU) (vU) (vU) (vU) c (aq_sm0 (c := c) (S := (fun a => a = y ∨ a = y + 2 ∨ a = y + 3 ∨ a = y + 4 ∨ a = y + 12 ∨ a = y + 13 ∨ a = y + 14))) (by omega) (by omega) (fun i h5 h6 => absurd h6 (by omega)) (fun _ => ⟨rfl, rfl⟩) (fun _ _ => rfl) (mo_k0 (y := y) (c := c)) (by omega)

theorem qm_ini_w {s : Nat} {F F0 : aq_F} {c0 : aq_C} {y : Nat} (hO : mo_0 (y + 24) F y) (hF0 : ∀ a, a < y → F a = F0 a) {tbl : Int → Int} (hT : mo_T F y tbl) (hG2 : F (y + 2) = (0, 124, fun _ => .inl 0)) (hG3 : F (y + 3) = (0, 124, fun _ => .inl 0)) (hG4 : F (y + 4) = (0, 124, fun _ => .inl 0)) : ∀ (d : Nat) (n : Int) (v2 : am_V) (c : aq_C) (hs : aq_sm (fun a => y ≤ a) c0 c) (h0 : 1 ≤ n) (h1 : n ≤ 5) (hb : mo_b y c) (hw : ∀ n2 b : Int, 1 ≤ n2 → n2 < n → 0 ≤ b → b < bx_K n2 → (c (y + 4) (mo_f n2 + b) = ln_ n2 b ∧ (0 < ix_ n2 b → c (y + 3) (mo_f n2 + b) = pa_ n2 b ∧ c (y + 2) (mo_f n2 + b) = ll_ n2 b)) ∧ 0 ≤ c (y + 3) (mo_f n2 + b) ∧ c (y + 3) (mo_f n2 + b) < bx_K n2) (hz : n ≤ 4 → ∀ j, mo_f n ≤ j → c (y + 3) j = 0) (hd : 5 - n < (d : Int)), am_E ac_X5_init (255, [vR y, vI n, v2], [], aq_h (y + 24) s F c) (mo_Z y s F0 c0)
  | 0, n, v2, c, hs, h0, h1, hb, hw, hz, hd => by exfalso; omega
  | d + 1, n, v2, c, hs, h0, h1, hb, hw, hz, hd => by
    obtain ⟨hm, hFo, hG5, hG6, hG7, hG8, hG9, hG10, hG11, hG12, hG13, hG14, hG15, hG16, hG17, hG18, hG19, hG20, hG21, hG22, hG23⟩ := hO
    obtain ⟨hT1, hTt⟩ := hT
    refine am_E.go (t2 := (256, [vR y, vI n, v2], [vI n], aq_h (y + 24) s F c)) rfl rfl ?_
    refine am_E.go (t2 := (257, [vR y, vI n, v2], [vI 5, vI n], aq_h (y + 24) s F c)) rfl rfl ?_
    refine ae_icmp rfl (fun (q_1 : 5 ≤ n) => ?_) (fun (q_1 : n < 5) => ?_)
    · refine am_E.ret rfl rfl ?_
      have e5 : n = 5 := by omega
      refine ⟨am_up (am_up (am_up F (y + 2) (0, 124, fun j => .inr (vI (c (y + 2) (j : Int))))) (y + 3) (0, 124, fun j => .inr (vI (c (y + 3) (j : Int))))) (y + 4) (0, 124, fun j => .inr (vI (c (y + 4) (j : Int)))), c, rfl, ?_, ⟨?_, ⟨tbl, ?_, hTt⟩, c (y + 2), c (y + 3), c (y + 4), ?_, ?_, ?_, ?_⟩, ⟨mo_bI hb, hb⟩, fun a ha => ⟨?_, fun i => hs a (by omega) i⟩⟩
      · rw [aq_frz hG2, aq_frz (a := y + 3) (n := 124) (by rw [am_up_n (by omega)]; exact hG3), aq_frz (a := y + 4) (n := 124) (by rw [am_up_n (by omega), am_up_n (by omega)]; exact hG4)]
      · exact mo_0f (mo_0f (mo_0f ⟨hm, hFo, hG5, hG6, hG7, hG8, hG9, hG10, hG11, hG12, hG13, hG14, hG15, hG16, hG17, hG18, hG19, hG20, hG21, hG22, hG23⟩ (by omega) (by omega)) (by omega) (by omega)) (by omega) (by omega)
      · rw [am_up_n (by omega), am_up_n (by omega), am_up_n (by omega)]; exact hT1
      · rw [am_up_n (by omega), am_up_n (by omega), am_up_s]
      · rw [am_up_n (by omega), am_up_s]
      · rw [am_up_s]
      · intro n2 b k0 k1 k2 k3
        have k4 := hw n2 b k0 (by omega) k2 k3
        have k5 := (tb_A_a (n := n2) (x := b) k0 k1 k2 (by omega)).1
        exact ⟨k4.2.1, k4.2.2, by omega, by omega, k4.1⟩
      · rw [am_up_n (by omega), am_up_n (by omega), am_up_n (by omega)]; exact hF0 a ha
    · refine am_E.go (t2 := (261, [vR y, vI n, v2], [vR y], aq_h (y + 24) s F c)) rfl rfl ?_
      refine am_E.go (t2 := (262, [vR y, vI n, v2], [vI n, vR y], aq_h (y + 24) s F c)) rfl rfl ?_
      refine aq_callv (y := 2) (as2 := [vI n]) (rest := []) rfl rfl (by decide) (Nat.le_of_ble_eq_true rfl) rfl rfl (Nat.le_of_ble_eq_true rfl) (by omega) hFo rfl (Nat.le_of_ble_eq_true rfl) (qz_findWords ⟨hm, hFo, hG5, hG6, hG7, hG8, hG9, hG10, hG11, hG12, hG13, hG14, hG15, hG16, hG17, hG18, hG19, hG20, hG21, hG22, hG23⟩ ⟨hT1, hTt⟩ hG2 hG3 hG4 h0 (by omega) (fun b h5 h6 => by rw [hz (by omega) _ (by omega)]; omega)) ?_
      rintro r5 h5 ⟨c_w, rfl, s_w, rfl, k_w, w_⟩
      show am_E _ (265, [vR y, vI n, v2], [], aq_h (y + 24) s F c_w) _
      refine ae_iinc rfl rfl (am_ri (by omega) (by omega)) ?_
      show am_E _ (268, [vR y, vI (n + 1), v2], [], aq_h (y + 24) s F c_w) _
      refine am_E.go (t2 := (255, [vR y, vI (n + 1), v2], [], aq_h (y + 24) s F c_w)) rfl rfl ?_
      exact qm_ini_w ⟨hm, hFo, hG5, hG6, hG7, hG8, hG9, hG10, hG11, hG12, hG13, hG14, hG15, hG16, hG17, hG18, hG19, hG20, hG21, hG22, hG23⟩ hF0 ⟨hT1, hTt⟩ hG2 hG3 hG4 d (n + 1) (v2) c_w (aq_smt hs (aq_smi s_w (fun a h => by omega))) (by omega) (by omega) (mo_bs hb s_w k_w (by omega) (by omega)) (fun n2 b k0 k1 k2 k3 => by by_cases e : n2 = n; (subst e; exact ⟨(w_.2.1 b k2 k3).1 (tb_A_a (n := n2) (x := b) k0 (by omega) k2 (by omega)).2.1.2.1, w_.2.2.1 b k2 k3⟩); have k5 := mo_fm k0 (show n2 < n by omega) (by omega); have k6 := w_.2.2.2 (mo_f n2 + b) (by omega); rw [k6.1, k6.2.1, k6.2.2]; exact hw n2 b k0 (by omega) k2 k3) (fun k9 j k0 => by have k5 := mo_fm h0 (show n < n + 1 by omega) k9; rw [(w_.2.2.2 j (by omega)).2.1]; exact hz (by omega) j (by have := mo_fs n; omega)) (by omega)

theorem qm_ini_b {s : Nat} {F F0 : aq_F} {c0 : aq_C} {y : Nat} (hO : mo_0 (y + 24) F y) (hF0 : ∀ a, a < y → F a = F0 a) (hG1 : F (y + 1) = (0, 992, fun _ => .inl 0)) (hG2 : F (y + 2) = (0, 124, fun _ => .inl 0)) (hG3 : F (y + 3) = (0, 124, fun _ => .inl 0)) (hG4 : F (y + 4) = (0, 124, fun _ => .inl 0)) : ∀ (d : Nat) (n : Int) (b : Int) (c : aq_C) (hs : aq_sm (fun a => y ≤ a) c0 c) (h0 : 1 ≤ n) (h1 : n ≤ 4) (h2 : 0 ≤ b) (h4 : b ≤ bx_K n) (hb : mo_b y c) (h3 : ∀ j, c (y + 3) j = 0) (hdd : ∀ n2 b2 p : Int, 1 ≤ n2 → n2 ≤ 4 → 0 ≤ b2 → b2 < bx_K n2 → 0 ≤ p → p < 2 * n2 → (n2 < n ∨ (n2 = n ∧ b2 < b)) → c (y + 1) (8 * (mo_f n2 + b2) + p) = prt n2 b2 p) (hd : bx_K n - b < (d : Int)) (K0 : ∀ (b2 : Int) (c2 : aq_C) (hs2 : aq_sm (fun a => y ≤ a) c0 c2) (hb2 : mo_b y c2) (h32 : ∀ j, c2 (y + 3) j = 0) (hd2 : ∀ n2 b5 p : Int, 1 ≤ n2 → n2 ≤ 4 → 0 ≤ b5 → b5 < bx_K n2 → 0 ≤ p → p < 2 * n2 → (n2 < n ∨ n2 = n) → c2 (y + 1) (8 * (mo_f n2 + b5) + p) = prt n2 b5 p), am_E ac_X5_init (247, [vR y, vI n, vI b2], [], aq_h (y + 24) s F c2) (mo_Z y s F0 c0)), am_E ac_X5_init (227, [vR y, vI n, vI b], [], aq_h (y + 24) s F c) (mo_Z y s F0 c0)
  | 0, n, b, c, hs, h0, h1, h2, h4, hb, h3, hdd, hd, K0 => by exfalso; omega
  | d + 1, n, b, c, hs, h0, h1, h2, h4, hb, h3, hdd, hd, K0 => by
    obtain ⟨hm, hFo, hG5, hG6, hG7, hG8, hG9, hG10, hG11, hG12, hG13, hG14, hG15, hG16, hG17, hG18, hG19, hG20, hG21, hG22, hG23⟩ := hO
    have hfs := mo_fs n
    refine am_E.go (t2 := (228, [vR y, vI n, vI b], [vI b], aq_h (y + 24) s F c)) rfl rfl ?_
    refine am_E.go (t2 := (229, [vR y, vI n, vI b], [vI n, vI b], aq_h (y + 24) s F c)) rfl rfl ?_
    refine am_E.call rfl rfl rfl (Nat.le_of_ble_eq_true rfl) (qm_boxes) ?_
    rintro r5 h5 ⟨rfl, v_bx, rfl, hv_bx⟩
    show am_E _ (232, [vR y, vI n, vI b], [vI v_bx, vI b], aq_h (y + 24) s F c) _
    refine ae_icmp rfl (fun (q_1 : v_bx ≤ b) => ?_) (fun (q_1 : b < v_bx) => ?_)
    · exact K0 b c hs hb h3 (fun n2 b5 p k0 k1 k2 k3 k4 k5 k6 => hdd n2 b5 p k0 k1 k2 k3 k4 k5 (by rcases k6 with k6 | k6; exact Or.inl k6; exact Or.inr ⟨k6, by rw [k6] at k3; omega⟩))
    · refine am_E.go (t2 := (236, [vR y, vI n, vI b], [vR y], aq_h (y + 24) s F c)) rfl rfl ?_
      refine am_E.go (t2 := (237, [vR y, vI n, vI b], [vI n, vR y], aq_h (y + 24) s F c)) rfl rfl ?_
      refine am_E.go (t2 := (238, [vR y, vI n, vI b], [vI b, vI n, vR y], aq_h (y + 24) s F c)) rfl rfl ?_
      refine aq_callv (y := 3) (as2 := [vI n, vI b]) (rest := []) rfl rfl (by decide) (Nat.le_of_ble_eq_true rfl) rfl rfl (Nat.le_of_ble_eq_true rfl) (by omega) hFo rfl (Nat.le_of_ble_eq_true rfl) (qm_decode ⟨hm, hFo, hG5, hG6, hG7, hG8, hG9, hG10, hG11, hG12, hG13, hG14, hG15, hG16, hG17, hG18, hG19, hG20, hG21, hG22, hG23⟩ hG1 h0 h1 h2 (by omega)) ?_
      rintro r5 h5 ⟨c_d, rfl, s_d, rfl, w1, w2⟩
      show am_E _ (241, [vR y, vI n, vI b], [], aq_h (y + 24) s F c_d) _
      refine ae_iinc rfl rfl (am_ri (by omega) (by omega)) ?_
      show am_E _ (244, [vR y, vI n, vI (b + 1)], [], aq_h (y + 24) s F c_d) _
      refine am_E.go (t2 := (227, [vR y, vI n, vI (b + 1)], [], aq_h (y + 24) s F c_d)) rfl rfl ?_
      exact qm_ini_b ⟨hm, hFo, hG5, hG6, hG7, hG8, hG9, hG10, hG11, hG12, hG13, hG14, hG15, hG16, hG17, hG18, hG19, hG20, hG21, hG22, hG23⟩ hF0 hG1 hG2 hG3 hG4 d n (b + 1) c_d (aq_smt hs (aq_smi s_d (fun a h => by omega))) (by omega) (by omega) (by omega) (by omega) (mo_bs hb s_d (mo_ks mo_k0 s_d (by omega)) (by omega) (by omega)) (fun j => by rw [s_d _ (by omega)]; exact h3 j) (fun n2 b2 p k0 k1 k2 k3 k4 k5 k6 => by
      by_cases e : n2 = n ∧ b2 = b
      · rw [e.1, e.2]
        rw [e.1] at k5
        exact w1 p k4 k5
      · have q1 : n2 < n → mo_f n2 + bx_K n2 ≤ mo_f n := fun q => mo_fm k0 q h1
        have q2 : n2 = n → mo_f n2 = mo_f n := fun q => by rw [q]
        rw [w2 _ (by omega)]
        exact hdd n2 b2 p k0 k1 k2 k3 k4 k5 (by omega)) (by omega) K0

theorem qm_ini_n {s : Nat} {F F0 : aq_F} {c0 : aq_C} {y : Nat} (hO : mo_0 (y + 24) F y) (hF0 : ∀ a, a < y → F a = F0 a) (hG1 : F (y + 1) = (0, 992, fun _ => .inl 0)) (hG2 : F (y + 2) = (0, 124, fun _ => .inl 0)) (hG3 : F (y + 3) = (0, 124, fun _ => .inl 0)) (hG4 : F (y + 4) = (0, 124, fun _ => .inl 0)) : ∀ (d : Nat) (n : Int) (v2 : am_V) (c : aq_C) (hs : aq_sm (fun a => y ≤ a) c0 c) (h0 : 1 ≤ n) (h1 : n ≤ 5) (hb : mo_b y c) (h3 : ∀ j, c (y + 3) j = 0) (hdd : ∀ n2 b2 p : Int, 1 ≤ n2 → n2 ≤ 4 → 0 ≤ b2 → b2 < bx_K n2 → 0 ≤ p → p < 2 * n2 → n2 < n → c (y + 1) (8 * (mo_f n2 + b2) + p) = prt n2 b2 p) (hd : 5 - n < (d : Int)), am_E ac_X5_init (220, [vR y, vI n, v2], [], aq_h (y + 24) s F c) (mo_Z y s F0 c0)
  | 0, n, v2, c, hs, h0, h1, hb, h3, hdd, hd => by exfalso; omega
  | d + 1, n, v2, c, hs, h0, h1, hb, h3, hdd, hd => by
    obtain ⟨hm, hFo, hG5, hG6, hG7, hG8, hG9, hG10, hG11, hG12, hG13, hG14, hG15, hG16, hG17, hG18, hG19, hG20, hG21, hG22, hG23⟩ := hO
    have hfs := mo_fs n
    refine am_E.go (t2 := (221, [vR y, vI n, v2], [vI n], aq_h (y + 24) s F c)) rfl rfl ?_
    refine am_E.go (t2 := (222, [vR y, vI n, v2], [vI 5, vI n], aq_h (y + 24) s F c)) rfl rfl ?_
    refine ae_icmp rfl (fun (q_1 : 5 ≤ n) => ?_) (fun (q_1 : n < 5) => ?_)
    · refine am_E.go (t2 := (254, [vR y, vI n, v2], [vI 1], aq_h (y + 24) s F c)) rfl rfl ?_
      refine am_E.go (t2 := (255, [vR y, vI 1, v2], [], aq_h (y + 24) s F c)) rfl rfl ?_
      have en : n = 5 := by omega
      rw [aq_frz hG1]
      exact qm_ini_w (mo_0f ⟨hm, hFo, hG5, hG6, hG7, hG8, hG9, hG10, hG11, hG12, hG13, hG14, hG15, hG16, hG17, hG18, hG19, hG20, hG21, hG22, hG23⟩ (by omega) (by omega)) (fun a ha => by rw [am_up_n (by omega)]; exact hF0 a ha) (tbl := c (y + 1)) ⟨am_up_s, fun n2 b2 p k0 k1 k2 k3 k4 k5 => hdd n2 b2 p k0 k1 k2 k3 k4 k5 (by omega)⟩ (by rw [am_up_n (by omega)]; exact hG2) (by rw [am_up_n (by omega)]; exact hG3) (by rw [am_up_n (by omega)]; exact hG4) 6 1 _ c hs (by omega) (by omega) hb (fun n2 b k0 k1 => absurd k1 (by omega)) (fun _ j _ => h3 j) (by omega)
    · refine am_E.go (t2 := (226, [vR y, vI n, v2], [vI 0], aq_h (y + 24) s F c)) rfl rfl ?_
      refine am_E.go (t2 := (227, [vR y, vI n, vI 0], [], aq_h (y + 24) s F c)) rfl rfl ?_
      refine qm_ini_b ⟨hm, hFo, hG5, hG6, hG7, hG8, hG9, hG10, hG11, hG12, hG13, hG14, hG15, hG16, hG17, hG18, hG19, hG20, hG21, hG22, hG23⟩ hF0 hG1 hG2 hG3 hG4 107 n 0 c hs (by omega) (by omega) (by omega) (by have := mo_fs n; omega) hb h3 (fun n2 b2 p k0 k1 k2 k3 k4 k5 k6 => hdd n2 b2 p k0 k1 k2 k3 k4 k5 (by omega)) (by omega) ?_
      · intro b2_227 c_2 sc_2 hb2_227 h32_227 hd2_227
        refine ae_iinc rfl rfl (am_ri (by omega) (by omega)) ?_
        show am_E _ (250, [vR y, vI (n + 1), vI b2_227], [], aq_h (y + 24) s F c_2) _
        refine am_E.go (t2 := (220, [vR y, vI (n + 1), vI b2_227], [], aq_h (y + 24) s F c_2)) rfl rfl ?_
        exact qm_ini_n ⟨hm, hFo, hG5, hG6, hG7, hG8, hG9, hG10, hG11, hG12, hG13, hG14, hG15, hG16, hG17, hG18, hG19, hG20, hG21, hG22, hG23⟩ hF0 hG1 hG2 hG3 hG4 d (n + 1) (vI b2_227) c_2 sc_2 (by omega) (by omega) hb2_227 h32_227 (fun n2 b2 p k0 k1 k2 k3 k4 k5 k6 => hd2_227 n2 b2 p k0 k1 k2 k3 k4 k5 (by omega)) (by omega)

theorem qm_ini_s {s : Nat} {F F0 : aq_F} {c0 : aq_C} {y : Nat} (hO : mo_0 (y + 24) F y) (hF0 : ∀ a, a < y → F a = F0 a) (hG1 : F (y + 1) = (0, 992, fun _ => .inl 0)) (hG2 : F (y + 2) = (0, 124, fun _ => .inl 0)) (hG3 : F (y + 3) = (0, 124, fun _ => .inl 0)) (hG4 : F (y + 4) = (0, 124, fun _ => .inl 0)) : ∀ (d : Nat) (k : Int) (v2 : am_V) (c : aq_C) (hs : aq_sm (fun a => y ≤ a) c0 c) (h0 : 0 ≤ k) (h1 : k ≤ 8) (h9 : c y 9 = 2 ∧ c y 10 = 0) (h5 : ∀ s, 0 ≤ s → s < k → c (y + 5) s = 2) (h6 : ∀ s, c (y + 6) s = 0) (h3 : ∀ j, c (y + 3) j = 0) (hd : 8 - k < (d : Int)), am_E ac_X5_init (199, [vR y, vI k, v2], [], aq_h (y + 24) s F c) (mo_Z y s F0 c0)
  | 0, k, v2, c, hs, h0, h1, h9, h5, h6, h3, hd => by exfalso; omega
  | d + 1, k, v2, c, hs, h0, h1, h9, h5, h6, h3, hd => by
    obtain ⟨hm, hFo, hG5, hG6, hG7, hG8, hG9, hG10, hG11, hG12, hG13, hG14, hG15, hG16, hG17, hG18, hG19, hG20, hG21, hG22, hG23⟩ := hO
    refine am_E.go (t2 := (200, [vR y, vI k, v2], [vI k], aq_h (y + 24) s F c)) rfl rfl ?_
    refine am_E.go (t2 := (202, [vR y, vI k, v2], [vI 8, vI k], aq_h (y + 24) s F c)) rfl rfl ?_
    refine ae_icmp rfl (fun (q_1 : 8 ≤ k) => ?_) (fun (q_1 : k < 8) => ?_)
    · refine am_E.go (t2 := (219, [vR y, vI k, v2], [vI 1], aq_h (y + 24) s F c)) rfl rfl ?_
      refine am_E.go (t2 := (220, [vR y, vI 1, v2], [], aq_h (y + 24) s F c)) rfl rfl ?_
      exact qm_ini_n ⟨hm, hFo, hG5, hG6, hG7, hG8, hG9, hG10, hG11, hG12, hG13, hG14, hG15, hG16, hG17, hG18, hG19, hG20, hG21, hG22, hG23⟩ hF0 hG1 hG2 hG3 hG4 6 1 (v2) c hs (by omega) (by omega) ⟨h9.1, h9.2, fun s5 k0 k1 => h5 s5 k0 (by omega), h6⟩ h3 (fun n2 b2 p k0 k1 k2 k3 k4 k5 k6 => absurd k6 (by omega)) (by omega)
    · refine am_E.go (t2 := (206, [vR y, vI k, v2], [vR y], aq_h (y + 24) s F c)) rfl rfl ?_
      refine aq_gf (v := vR (y + 5)) rfl (by omega) hFo (by decide) rfl ?_
      show am_E _ (209, [vR y, vI k, v2], [vR (y + 5)], aq_h (y + 24) s F c) _
      refine am_E.go (t2 := (210, [vR y, vI k, v2], [vI k, vR (y + 5)], aq_h (y + 24) s F c)) rfl rfl ?_
      refine am_E.go (t2 := (211, [vR y, vI k, v2], [vI 2, vI k, vR (y + 5)], aq_h (y + 24) s F c)) rfl rfl ?_
      refine aq_as (kd := 0) rfl rfl (by omega) hG5 (by omega) (by omega) rfl rfl ?_
      show am_E _ (212, [vR y, vI k, v2], [], aq_h (y + 24) s F (aq_u c (y + 5) k 2)) _
      generalize hdc_2 : aq_u c (y + 5) k 2 = c_2
      have sc_2 := aq_smu hs hdc_2 (by omega)
      refine ae_iinc rfl rfl (am_ri (by omega) (by omega)) ?_
      show am_E _ (215, [vR y, vI (k + 1), v2], [], aq_h (y + 24) s F c_2) _
      refine am_E.go (t2 := (199, [vR y, vI (k + 1), v2], [], aq_h (y + 24) s F c_2)) rfl rfl ?_
      exact qm_ini_s ⟨hm, hFo, hG5, hG6, hG7, hG8, hG9, hG10, hG11, hG12, hG13, hG14, hG15, hG16, hG17, hG18, hG19, hG20, hG21, hG22, hG23⟩ hF0 hG1 hG2 hG3 hG4 d (k + 1) (v2) c_2 sc_2 (by omega) (by omega) (by rw [← hdc_2, aq_un (Or.inl (by omega)), aq_un (Or.inl (by omega))]; exact h9) (aq_fl (g := fun _ => 2) h5 hdc_2 rfl) (fun s5 => by rw [← hdc_2, aq_un (Or.inl (by omega))]; exact h6 s5) (fun j => by rw [← hdc_2, aq_un (Or.inl (by omega))]; exact h3 j) (by omega)

/-- a new object of the reference: no array is there yet -/
def mo_t0 : Nat → aq_T := fun k => match k with
  | 0 => .inr vN
  | 1 => .inr vN
  | 2 => .inr vN
  | 3 => .inr vN
  | 4 => .inr vN
  | 5 => .inr vN
  | 6 => .inr vN
  | 7 => .inr vN
  | 8 => .inr vN
  | 11 => .inr vN
  | 12 => .inr vN
  | 13 => .inr vN
  | 14 => .inr vN
  | 16 => .inr vN
  | 18 => .inr vN
  | 19 => .inr vN
  | 20 => .inr vN
  | 21 => .inr vN
  | 22 => .inr vN
  | 23 => .inr vN
  | 24 => .inr vN
  | 25 => .inr vN
  | 26 => .inr vN
  | _ => .inl 0

theorem qm_init {s : Nat} {F : aq_F} {c : aq_C} {y : Nat} (hy : F y = (15, 27, mo_t0)) (h10 : c y 10 = 0) : am_E ac_X5_init (0, [vR y, vU, vU], [], aq_h (y + 1) s F c) (mo_Z y (s + 3246) F c) := by
  refine am_E.go (t2 := (1, [vR y, vU, vU], [vR y], aq_h (y + 1) s F c)) rfl rfl ?_
  refine am_E.go (t2 := (4, [vR y, vU, vU], [], aq_h (y + 1) s F c)) rfl rfl ?_
  have f0_0 : ∀ a, a < y → F a = F a := fun _ _ => rfl
  have s_0 : aq_sm (fun a => y ≤ a) c c := aq_sm0
  have t_0 := h10
  refine am_E.go (t2 := (5, [vR y, vU, vU], [vR y], aq_h (y + 1) s F c)) rfl rfl ?_
  refine am_E.go (t2 := (8, [vR y, vU, vU], [vI 992, vR y], aq_h (y + 1) s F c)) rfl rfl ?_
  refine aq_step (o := y) (n := 992) rfl rfl hy (by omega) (by decide) rfl (by decide) rfl (by decide) (fun F_1 c_1 hy_1 a_1 o_1 z_1 u_1 => ?_)
  show am_E _ (13, [vR y, vU, vU], [], aq_h (y + 2) (s + 992) F_1 c_1) _
  have g1_1 : F_1 (y + 1) = (0, 992, fun _ => .inl 0) := a_1
  have f0_1 : ∀ a, a < y → F_1 a = F a := fun a ha => (o_1 a (by omega) (by omega)).trans (f0_0 a ha)
  have t_1 : c_1 y 10 = 0 := by rw [u_1 y (by omega)]; exact t_0
  have s_1 : aq_sm (fun a => y ≤ a) c c_1 := fun a ha i => (u_1 a (by omega) i).trans (s_0 a ha i)
  refine am_E.go (t2 := (14, [vR y, vU, vU], [vR y], aq_h (y + 2) (s + 992) F_1 c_1)) rfl rfl ?_
  refine am_E.go (t2 := (16, [vR y, vU, vU], [vI 124, vR y], aq_h (y + 2) (s + 992) F_1 c_1)) rfl rfl ?_
  refine aq_step (o := y) (n := 124) rfl rfl hy_1 (by omega) (by decide) rfl (by decide) rfl (by decide) (fun F_2 c_2 hy_2 a_2 o_2 z_2 u_2 => ?_)
  show am_E _ (21, [vR y, vU, vU], [], aq_h (y + 3) (s + 1116) F_2 c_2) _
  have g1_2 : F_2 (y + 1) = (0, 992, fun _ => .inl 0) := by rw [o_2 (y + 1) (by omega) (by omega)]; exact g1_1
  have g2_2 : F_2 (y + 2) = (0, 124, fun _ => .inl 0) := a_2
  have f0_2 : ∀ a, a < y → F_2 a = F a := fun a ha => (o_2 a (by omega) (by omega)).trans (f0_1 a ha)
  have t_2 : c_2 y 10 = 0 := by rw [u_2 y (by omega)]; exact t_1
  have s_2 : aq_sm (fun a => y ≤ a) c c_2 := fun a ha i => (u_2 a (by omega) i).trans (s_1 a ha i)
  refine am_E.go (t2 := (22, [vR y, vU, vU], [vR y], aq_h (y + 3) (s + 1116) F_2 c_2)) rfl rfl ?_
  refine am_E.go (t2 := (24, [vR y, vU, vU], [vI 124, vR y], aq_h (y + 3) (s + 1116) F_2 c_2)) rfl rfl ?_
  refine aq_step (o := y) (n := 124) rfl rfl hy_2 (by omega) (by decide) rfl (by decide) rfl (by decide) (fun F_3 c_3 hy_3 a_3 o_3 z_3 u_3 => ?_)
  show am_E _ (29, [vR y, vU, vU], [], aq_h (y + 4) (s + 1240) F_3 c_3) _
  have g1_3 : F_3 (y + 1) = (0, 992, fun _ => .inl 0) := by rw [o_3 (y + 1) (by omega) (by omega)]; exact g1_2
  have g2_3 : F_3 (y + 2) = (0, 124, fun _ => .inl 0) := by rw [o_3 (y + 2) (by omega) (by omega)]; exact g2_2
  have g3_3 : F_3 (y + 3) = (0, 124, fun _ => .inl 0) := a_3
  have f0_3 : ∀ a, a < y → F_3 a = F a := fun a ha => (o_3 a (by omega) (by omega)).trans (f0_2 a ha)
  have t_3 : c_3 y 10 = 0 := by rw [u_3 y (by omega)]; exact t_2
  have s_3 : aq_sm (fun a => y ≤ a) c c_3 := fun a ha i => (u_3 a (by omega) i).trans (s_2 a ha i)
  have z3_3 : ∀ j, c_3 (y + 3) j = 0 := z_3
  refine am_E.go (t2 := (30, [vR y, vU, vU], [vR y], aq_h (y + 4) (s + 1240) F_3 c_3)) rfl rfl ?_
  refine am_E.go (t2 := (32, [vR y, vU, vU], [vI 124, vR y], aq_h (y + 4) (s + 1240) F_3 c_3)) rfl rfl ?_
  refine aq_step (o := y) (n := 124) rfl rfl hy_3 (by omega) (by decide) rfl (by decide) rfl (by decide) (fun F_4 c_4 hy_4 a_4 o_4 z_4 u_4 => ?_)
  show am_E _ (37, [vR y, vU, vU], [], aq_h (y + 5) (s + 1364) F_4 c_4) _
  have g1_4 : F_4 (y + 1) = (0, 992, fun _ => .inl 0) := by rw [o_4 (y + 1) (by omega) (by omega)]; exact g1_3
  have g2_4 : F_4 (y + 2) = (0, 124, fun _ => .inl 0) := by rw [o_4 (y + 2) (by omega) (by omega)]; exact g2_3
  have g3_4 : F_4 (y + 3) = (0, 124, fun _ => .inl 0) := by rw [o_4 (y + 3) (by omega) (by omega)]; exact g3_3
  have g4_4 : F_4 (y + 4) = (0, 124, fun _ => .inl 0) := a_4
  have f0_4 : ∀ a, a < y → F_4 a = F a := fun a ha => (o_4 a (by omega) (by omega)).trans (f0_3 a ha)
  have t_4 : c_4 y 10 = 0 := by rw [u_4 y (by omega)]; exact t_3
  have s_4 : aq_sm (fun a => y ≤ a) c c_4 := fun a ha i => (u_4 a (by omega) i).trans (s_3 a ha i)
  have z3_4 : ∀ j, c_4 (y + 3) j = 0 := fun j => by rw [u_4 (y + 3) (by omega)]; exact z3_3 j
  refine am_E.go (t2 := (38, [vR y, vU, vU], [vR y], aq_h (y + 5) (s + 1364) F_4 c_4)) rfl rfl ?_
  refine am_E.go (t2 := (40, [vR y, vU, vU], [vI 8, vR y], aq_h (y + 5) (s + 1364) F_4 c_4)) rfl rfl ?_
  refine aq_step (o := y) (n := 8) rfl rfl hy_4 (by omega) (by decide) rfl (by decide) rfl (by decide) (fun F_5 c_5 hy_5 a_5 o_5 z_5 u_5 => ?_)
  show am_E _ (45, [vR y, vU, vU], [], aq_h (y + 6) (s + 1372) F_5 c_5) _
  have g1_5 : F_5 (y + 1) = (0, 992, fun _ => .inl 0) := by rw [o_5 (y + 1) (by omega) (by omega)]; exact g1_4
  have g2_5 : F_5 (y + 2) = (0, 124, fun _ => .inl 0) := by rw [o_5 (y + 2) (by omega) (by omega)]; exact g2_4
  have g3_5 : F_5 (y + 3) = (0, 124, fun _ => .inl 0) := by rw [o_5 (y + 3) (by omega) (by omega)]; exact g3_4
  have g4_5 : F_5 (y + 4) = (0, 124, fun _ => .inl 0) := by rw [o_5 (y + 4) (by omega) (by omega)]; exact g4_4
  have g5_5 : F_5 (y + 5) = (0, 8, fun _ => .inl 0) := a_5
  have f0_5 : ∀ a, a < y → F_5 a = F a := fun a ha => (o_5 a (by omega) (by omega)).trans (f0_4 a ha)
  have t_5 : c_5 y 10 = 0 := by rw [u_5 y (by omega)]; exact t_4
  have s_5 : aq_sm (fun a => y ≤ a) c c_5 := fun a ha i => (u_5 a (by omega) i).trans (s_4 a ha i)
  have z3_5 : ∀ j, c_5 (y + 3) j = 0 := fun j => by rw [u_5 (y + 3) (by omega)]; exact z3_4 j
  refine am_E.go (t2 := (46, [vR y, vU, vU], [vR y], aq_h (y + 6) (s + 1372) F_5 c_5)) rfl rfl ?_
  refine am_E.go (t2 := (48, [vR y, vU, vU], [vI 8, vR y], aq_h (y + 6) (s + 1372) F_5 c_5)) rfl rfl ?_
  refine aq_step (o := y) (n := 8) rfl rfl hy_5 (by omega) (by decide) rfl (by decide) rfl (by decide) (fun F_6 c_6 hy_6 a_6 o_6 z_6 u_6 => ?_)
  show am_E _ (53, [vR y, vU, vU], [], aq_h (y + 7) (s + 1380) F_6 c_6) _
  have g1_6 : F_6 (y + 1) = (0, 992, fun _ => .inl 0) := by rw [o_6 (y + 1) (by omega) (by omega)]; exact g1_5
  have g2_6 : F_6 (y + 2) = (0, 124, fun _ => .inl 0) := by rw [o_6 (y + 2) (by omega) (by omega)]; exact g2_5
  have g3_6 : F_6 (y + 3) = (0, 124, fun _ => .inl 0) := by rw [o_6 (y + 3) (by omega) (by omega)]; exact g3_5
  have g4_6 : F_6 (y + 4) = (0, 124, fun _ => .inl 0) := by rw [o_6 (y + 4) (by omega) (by omega)]; exact g4_5
  have g5_6 : F_6 (y + 5) = (0, 8, fun _ => .inl 0) := by rw [o_6 (y + 5) (by omega) (by omega)]; exact g5_5
  have g6_6 : F_6 (y + 6) = (0, 8, fun _ => .inl 0) := a_6
  have f0_6 : ∀ a, a < y → F_6 a = F a := fun a ha => (o_6 a (by omega) (by omega)).trans (f0_5 a ha)
  have t_6 : c_6 y 10 = 0 := by rw [u_6 y (by omega)]; exact t_5
  have s_6 : aq_sm (fun a => y ≤ a) c c_6 := fun a ha i => (u_6 a (by omega) i).trans (s_5 a ha i)
  have z3_6 : ∀ j, c_6 (y + 3) j = 0 := fun j => by rw [u_6 (y + 3) (by omega)]; exact z3_5 j
  have z6_6 : ∀ j, c_6 (y + 6) j = 0 := z_6
  refine am_E.go (t2 := (54, [vR y, vU, vU], [vR y], aq_h (y + 7) (s + 1380) F_6 c_6)) rfl rfl ?_
  refine am_E.go (t2 := (57, [vR y, vU, vU], [vI 320, vR y], aq_h (y + 7) (s + 1380) F_6 c_6)) rfl rfl ?_
  refine aq_step (o := y) (n := 320) rfl rfl hy_6 (by omega) (by decide) rfl (by decide) rfl (by decide) (fun F_7 c_7 hy_7 a_7 o_7 z_7 u_7 => ?_)
  show am_E _ (62, [vR y, vU, vU], [], aq_h (y + 8) (s + 1700) F_7 c_7) _
  have g1_7 : F_7 (y + 1) = (0, 992, fun _ => .inl 0) := by rw [o_7 (y + 1) (by omega) (by omega)]; exact g1_6
  have g2_7 : F_7 (y + 2) = (0, 124, fun _ => .inl 0) := by rw [o_7 (y + 2) (by omega) (by omega)]; exact g2_6
  have g3_7 : F_7 (y + 3) = (0, 124, fun _ => .inl 0) := by rw [o_7 (y + 3) (by omega) (by omega)]; exact g3_6
  have g4_7 : F_7 (y + 4) = (0, 124, fun _ => .inl 0) := by rw [o_7 (y + 4) (by omega) (by omega)]; exact g4_6
  have g5_7 : F_7 (y + 5) = (0, 8, fun _ => .inl 0) := by rw [o_7 (y + 5) (by omega) (by omega)]; exact g5_6
  have g6_7 : F_7 (y + 6) = (0, 8, fun _ => .inl 0) := by rw [o_7 (y + 6) (by omega) (by omega)]; exact g6_6
  have g7_7 : F_7 (y + 7) = (0, 320, fun _ => .inl 0) := a_7
  have f0_7 : ∀ a, a < y → F_7 a = F a := fun a ha => (o_7 a (by omega) (by omega)).trans (f0_6 a ha)
  have t_7 : c_7 y 10 = 0 := by rw [u_7 y (by omega)]; exact t_6
  have s_7 : aq_sm (fun a => y ≤ a) c c_7 := fun a ha i => (u_7 a (by omega) i).trans (s_6 a ha i)
  have z3_7 : ∀ j, c_7 (y + 3) j = 0 := fun j => by rw [u_7 (y + 3) (by omega)]; exact z3_6 j
  have z6_7 : ∀ j, c_7 (y + 6) j = 0 := fun j => by rw [u_7 (y + 6) (by omega)]; exact z6_6 j
  refine am_E.go (t2 := (63, [vR y, vU, vU], [vR y], aq_h (y + 8) (s + 1700) F_7 c_7)) rfl rfl ?_
  refine am_E.go (t2 := (66, [vR y, vU, vU], [vI 320, vR y], aq_h (y + 8) (s + 1700) F_7 c_7)) rfl rfl ?_
  refine aq_step (o := y) (n := 320) rfl rfl hy_7 (by omega) (by decide) rfl (by decide) rfl (by decide) (fun F_8 c_8 hy_8 a_8 o_8 z_8 u_8 => ?_)
  show am_E _ (71, [vR y, vU, vU], [], aq_h (y + 9) (s + 2020) F_8 c_8) _
  have g1_8 : F_8 (y + 1) = (0, 992, fun _ => .inl 0) := by rw [o_8 (y + 1) (by omega) (by omega)]; exact g1_7
  have g2_8 : F_8 (y + 2) = (0, 124, fun _ => .inl 0) := by rw [o_8 (y + 2) (by omega) (by omega)]; exact g2_7
  have g3_8 : F_8 (y + 3) = (0, 124, fun _ => .inl 0) := by rw [o_8 (y + 3) (by omega) (by omega)]; exact g3_7
  have g4_8 : F_8 (y + 4) = (0, 124, fun _ => .inl 0) := by rw [o_8 (y + 4) (by omega) (by omega)]; exact g4_7
  have g5_8 : F_8 (y + 5) = (0, 8, fun _ => .inl 0) := by rw [o_8 (y + 5) (by omega) (by omega)]; exact g5_7
  have g6_8 : F_8 (y + 6) = (0, 8, fun _ => .inl 0) := by rw [o_8 (y + 6) (by omega) (by omega)]; exact g6_7
  have g7_8 : F_8 (y + 7) = (0, 320, fun _ => .inl 0) := by rw [o_8 (y + 7) (by omega) (by omega)]; exact g7_7
  have g8_8 : F_8 (y + 8) = (0, 320, fun _ => .inl 0) := a_8
  have f0_8 : ∀ a, a < y → F_8 a = F a := fun a ha => (o_8 a (by omega) (by omega)).trans (f0_7 a ha)
  have t_8 : c_8 y 10 = 0 := by rw [u_8 y (by omega)]; exact t_7
  have s_8 : aq_sm (fun a => y ≤ a) c c_8 := fun a ha i => (u_8 a (by omega) i).trans (s_7 a ha i)
  have z3_8 : ∀ j, c_8 (y + 3) j = 0 := fun j => by rw [u_8 (y + 3) (by omega)]; exact z3_7 j
  have z6_8 : ∀ j, c_8 (y + 6) j = 0 := fun j => by rw [u_8 (y + 6) (by omega)]; exact z6_7 j
  refine am_E.go (t2 := (72, [vR y, vU, vU], [vR y], aq_h (y + 9) (s + 2020) F_8 c_8)) rfl rfl ?_
  refine am_E.go (t2 := (75, [vR y, vU, vU], [vI 320, vR y], aq_h (y + 9) (s + 2020) F_8 c_8)) rfl rfl ?_
  refine aq_step (o := y) (n := 320) rfl rfl hy_8 (by omega) (by decide) rfl (by decide) rfl (by decide) (fun F_9 c_9 hy_9 a_9 o_9 z_9 u_9 => ?_)
  show am_E _ (80, [vR y, vU, vU], [], aq_h (y + 10) (s + 2340) F_9 c_9) _
  have g1_9 : F_9 (y + 1) = (0, 992, fun _ => .inl 0) := by rw [o_9 (y + 1) (by omega) (by omega)]; exact g1_8
  have g2_9 : F_9 (y + 2) = (0, 124, fun _ => .inl 0) := by rw [o_9 (y + 2) (by omega) (by omega)]; exact g2_8
  have g3_9 : F_9 (y + 3) = (0, 124, fun _ => .inl 0) := by rw [o_9 (y + 3) (by omega) (by omega)]; exact g3_8
  have g4_9 : F_9 (y + 4) = (0, 124, fun _ => .inl 0) := by rw [o_9 (y + 4) (by omega) (by omega)]; exact g4_8
  have g5_9 : F_9 (y + 5) = (0, 8, fun _ => .inl 0) := by rw [o_9 (y + 5) (by omega) (by omega)]; exact g5_8
  have g6_9 : F_9 (y + 6) = (0, 8, fun _ => .inl 0) := by rw [o_9 (y + 6) (by omega) (by omega)]; exact g6_8
  have g7_9 : F_9 (y + 7) = (0, 320, fun _ => .inl 0) := by rw [o_9 (y + 7) (by omega) (by omega)]; exact g7_8
  have g8_9 : F_9 (y + 8) = (0, 320, fun _ => .inl 0) := by rw [o_9 (y + 8) (by omega) (by omega)]; exact g8_8
  have g9_9 : F_9 (y + 9) = (2, 320, fun _ => .inl 2) := a_9
  have f0_9 : ∀ a, a < y → F_9 a = F a := fun a ha => (o_9 a (by omega) (by omega)).trans (f0_8 a ha)
  have t_9 : c_9 y 10 = 0 := by rw [u_9 y (by omega)]; exact t_8
  have s_9 : aq_sm (fun a => y ≤ a) c c_9 := fun a ha i => (u_9 a (by omega) i).trans (s_8 a ha i)
  have z3_9 : ∀ j, c_9 (y + 3) j = 0 := fun j => by rw [u_9 (y + 3) (by omega)]; exact z3_8 j
  have z6_9 : ∀ j, c_9 (y + 6) j = 0 := fun j => by rw [u_9 (y + 6) (by omega)]; exact z6_8 j
  refine am_E.go (t2 := (81, [vR y, vU, vU], [vR y], aq_h (y + 10) (s + 2340) F_9 c_9)) rfl rfl ?_
  refine am_E.go (t2 := (82, [vR y, vU, vU], [vI 2, vR y], aq_h (y + 10) (s + 2340) F_9 c_9)) rfl rfl ?_
  refine aq_pf rfl (by omega) hy_9 (by decide) rfl rfl ?_
  show am_E _ (85, [vR y, vU, vU], [], aq_h (y + 10) (s + 2340) F_9 (aq_u c_9 y 9 2)) _
  generalize hd9 : aq_u c_9 y 9 2 = d_9
  have r_9 : d_9 y 9 = 2 := by rw [← hd9, aq_us]
  have t_9b : d_9 y 10 = 0 := by rw [← hd9, aq_un (Or.inr (by decide))]; exact t_9
  have s_9b : aq_sm (fun a => y ≤ a) c d_9 := aq_smu s_9 hd9 (Nat.le_refl y)
  have z3_9b : ∀ j, d_9 (y + 3) j = 0 := fun j => by rw [← hd9, aq_un (Or.inl (by omega))]; exact z3_9 j
  have z6_9b : ∀ j, d_9 (y + 6) j = 0 := fun j => by rw [← hd9, aq_un (Or.inl (by omega))]; exact z6_9 j
  have t_9 := t_9b
  have s_9 := s_9b
  have z3_9 := z3_9b
  have z6_9 := z6_9b
  refine am_E.go (t2 := (86, [vR y, vU, vU], [vR y], aq_h (y + 10) (s + 2340) F_9 d_9)) rfl rfl ?_
  refine am_E.go (t2 := (88, [vR y, vU, vU], [vI 8, vR y], aq_h (y + 10) (s + 2340) F_9 d_9)) rfl rfl ?_
  refine aq_step (o := y) (n := 8) rfl rfl hy_9 (by omega) (by decide) rfl (by decide) rfl (by decide) (fun F_10 c_10 hy_10 a_10 o_10 z_10 u_10 => ?_)
  show am_E _ (93, [vR y, vU, vU], [], aq_h (y + 11) (s + 2348) F_10 c_10) _
  have g1_10 : F_10 (y + 1) = (0, 992, fun _ => .inl 0) := by rw [o_10 (y + 1) (by omega) (by omega)]; exact g1_9
  have g2_10 : F_10 (y + 2) = (0, 124, fun _ => .inl 0) := by rw [o_10 (y + 2) (by omega) (by omega)]; exact g2_9
  have g3_10 : F_10 (y + 3) = (0, 124, fun _ => .inl 0) := by rw [o_10 (y + 3) (by omega) (by omega)]; exact g3_9
  have g4_10 : F_10 (y + 4) = (0, 124, fun _ => .inl 0) := by rw [o_10 (y + 4) (by omega) (by omega)]; exact g4_9
  have g5_10 : F_10 (y + 5) = (0, 8, fun _ => .inl 0) := by rw [o_10 (y + 5) (by omega) (by omega)]; exact g5_9
  have g6_10 : F_10 (y + 6) = (0, 8, fun _ => .inl 0) := by rw [o_10 (y + 6) (by omega) (by omega)]; exact g6_9
  have g7_10 : F_10 (y + 7) = (0, 320, fun _ => .inl 0) := by rw [o_10 (y + 7) (by omega) (by omega)]; exact g7_9
  have g8_10 : F_10 (y + 8) = (0, 320, fun _ => .inl 0) := by rw [o_10 (y + 8) (by omega) (by omega)]; exact g8_9
  have g9_10 : F_10 (y + 9) = (2, 320, fun _ => .inl 2) := by rw [o_10 (y + 9) (by omega) (by omega)]; exact g9_9
  have g10_10 : F_10 (y + 10) = (0, 8, fun _ => .inl 0) := a_10
  have f0_10 : ∀ a, a < y → F_10 a = F a := fun a ha => (o_10 a (by omega) (by omega)).trans (f0_9 a ha)
  have t_10 : c_10 y 10 = 0 := by rw [u_10 y (by omega)]; exact t_9
  have s_10 : aq_sm (fun a => y ≤ a) c c_10 := fun a ha i => (u_10 a (by omega) i).trans (s_9 a ha i)
  have r_10 : c_10 y 9 = 2 := by rw [u_10 y (by omega)]; exact r_9
  have z3_10 : ∀ j, c_10 (y + 3) j = 0 := fun j => by rw [u_10 (y + 3) (by omega)]; exact z3_9 j
  have z6_10 : ∀ j, c_10 (y + 6) j = 0 := fun j => by rw [u_10 (y + 6) (by omega)]; exact z6_9 j
  refine am_E.go (t2 := (94, [vR y, vU, vU], [vR y], aq_h (y + 11) (s + 2348) F_10 c_10)) rfl rfl ?_
  refine am_E.go (t2 := (96, [vR y, vU, vU], [vI 8, vR y], aq_h (y + 11) (s + 2348) F_10 c_10)) rfl rfl ?_
  refine aq_step (o := y) (n := 8) rfl rfl hy_10 (by omega) (by decide) rfl (by decide) rfl (by decide) (fun F_11 c_11 hy_11 a_11 o_11 z_11 u_11 => ?_)
  show am_E _ (101, [vR y, vU, vU], [], aq_h (y + 12) (s + 2356) F_11 c_11) _
  have g1_11 : F_11 (y + 1) = (0, 992, fun _ => .inl 0) := by rw [o_11 (y + 1) (by omega) (by omega)]; exact g1_10
  have g2_11 : F_11 (y + 2) = (0, 124, fun _ => .inl 0) := by rw [o_11 (y + 2) (by omega) (by omega)]; exact g2_10
  have g3_11 : F_11 (y + 3) = (0, 124, fun _ => .inl 0) := by rw [o_11 (y + 3) (by omega) (by omega)]; exact g3_10
  have g4_11 : F_11 (y + 4) = (0, 124, fun _ => .inl 0) := by rw [o_11 (y + 4) (by omega) (by omega)]; exact g4_10
  have g5_11 : F_11 (y + 5) = (0, 8, fun _ => .inl 0) := by rw [o_11 (y + 5) (by omega) (by omega)]; exact g5_10
  have g6_11 : F_11 (y + 6) = (0, 8, fun _ => .inl 0) := by rw [o_11 (y + 6) (by omega) (by omega)]; exact g6_10
  have g7_11 : F_11 (y + 7) = (0, 320, fun _ => .inl 0) := by rw [o_11 (y + 7) (by omega) (by omega)]; exact g7_10
  have g8_11 : F_11 (y + 8) = (0, 320, fun _ => .inl 0) := by rw [o_11 (y + 8) (by omega) (by omega)]; exact g8_10
  have g9_11 : F_11 (y + 9) = (2, 320, fun _ => .inl 2) := by rw [o_11 (y + 9) (by omega) (by omega)]; exact g9_10
  have g10_11 : F_11 (y + 10) = (0, 8, fun _ => .inl 0) := by rw [o_11 (y + 10) (by omega) (by omega)]; exact g10_10
  have g11_11 : F_11 (y + 11) = (1, 8, fun _ => .inl 0) := a_11
  have f0_11 : ∀ a, a < y → F_11 a = F a := fun a ha => (o_11 a (by omega) (by omega)).trans (f0_10 a ha)
  have t_11 : c_11 y 10 = 0 := by rw [u_11 y (by omega)]; exact t_10
  have s_11 : aq_sm (fun a => y ≤ a) c c_11 := fun a ha i => (u_11 a (by omega) i).trans (s_10 a ha i)
  have r_11 : c_11 y 9 = 2 := by rw [u_11 y (by omega)]; exact r_10
  have z3_11 : ∀ j, c_11 (y + 3) j = 0 := fun j => by rw [u_11 (y + 3) (by omega)]; exact z3_10 j
  have z6_11 : ∀ j, c_11 (y + 6) j = 0 := fun j => by rw [u_11 (y + 6) (by omega)]; exact z6_10 j
  refine am_E.go (t2 := (102, [vR y, vU, vU], [vR y], aq_h (y + 12) (s + 2356) F_11 c_11)) rfl rfl ?_
  refine am_E.go (t2 := (104, [vR y, vU, vU], [vI 8, vR y], aq_h (y + 12) (s + 2356) F_11 c_11)) rfl rfl ?_
  refine aq_step (o := y) (n := 8) rfl rfl hy_11 (by omega) (by decide) rfl (by decide) rfl (by decide) (fun F_12 c_12 hy_12 a_12 o_12 z_12 u_12 => ?_)
  show am_E _ (109, [vR y, vU, vU], [], aq_h (y + 13) (s + 2364) F_12 c_12) _
  have g1_12 : F_12 (y + 1) = (0, 992, fun _ => .inl 0) := by rw [o_12 (y + 1) (by omega) (by omega)]; exact g1_11
  have g2_12 : F_12 (y + 2) = (0, 124, fun _ => .inl 0) := by rw [o_12 (y + 2) (by omega) (by omega)]; exact g2_11
  have g3_12 : F_12 (y + 3) = (0, 124, fun _ => .inl 0) := by rw [o_12 (y + 3) (by omega) (by omega)]; exact g3_11
  have g4_12 : F_12 (y + 4) = (0, 124, fun _ => .inl 0) := by rw [o_12 (y + 4) (by omega) (by omega)]; exact g4_11
  have g5_12 : F_12 (y + 5) = (0, 8, fun _ => .inl 0) := by rw [o_12 (y + 5) (by omega) (by omega)]; exact g5_11
  have g6_12 : F_12 (y + 6) = (0, 8, fun _ => .inl 0) := by rw [o_12 (y + 6) (by omega) (by omega)]; exact g6_11
  have g7_12 : F_12 (y + 7) = (0, 320, fun _ => .inl 0) := by rw [o_12 (y + 7) (by omega) (by omega)]; exact g7_11
  have g8_12 : F_12 (y + 8) = (0, 320, fun _ => .inl 0) := by rw [o_12 (y + 8) (by omega) (by omega)]; exact g8_11
  have g9_12 : F_12 (y + 9) = (2, 320, fun _ => .inl 2) := by rw [o_12 (y + 9) (by omega) (by omega)]; exact g9_11
  have g10_12 : F_12 (y + 10) = (0, 8, fun _ => .inl 0) := by rw [o_12 (y + 10) (by omega) (by omega)]; exact g10_11
  have g11_12 : F_12 (y + 11) = (1, 8, fun _ => .inl 0) := by rw [o_12 (y + 11) (by omega) (by omega)]; exact g11_11
  have g12_12 : F_12 (y + 12) = (0, 8, fun _ => .inl 0) := a_12
  have f0_12 : ∀ a, a < y → F_12 a = F a := fun a ha => (o_12 a (by omega) (by omega)).trans (f0_11 a ha)
  have t_12 : c_12 y 10 = 0 := by rw [u_12 y (by omega)]; exact t_11
  have s_12 : aq_sm (fun a => y ≤ a) c c_12 := fun a ha i => (u_12 a (by omega) i).trans (s_11 a ha i)
  have r_12 : c_12 y 9 = 2 := by rw [u_12 y (by omega)]; exact r_11
  have z3_12 : ∀ j, c_12 (y + 3) j = 0 := fun j => by rw [u_12 (y + 3) (by omega)]; exact z3_11 j
  have z6_12 : ∀ j, c_12 (y + 6) j = 0 := fun j => by rw [u_12 (y + 6) (by omega)]; exact z6_11 j
  refine am_E.go (t2 := (110, [vR y, vU, vU], [vR y], aq_h (y + 13) (s + 2364) F_12 c_12)) rfl rfl ?_
  refine am_E.go (t2 := (111, [vR y, vU, vU], [vI 4, vR y], aq_h (y + 13) (s + 2364) F_12 c_12)) rfl rfl ?_
  refine aq_step (o := y) (n := 4) rfl rfl hy_12 (by omega) (by decide) rfl (by decide) rfl (by decide) (fun F_13 c_13 hy_13 a_13 o_13 z_13 u_13 => ?_)
  show am_E _ (116, [vR y, vU, vU], [], aq_h (y + 14) (s + 2368) F_13 c_13) _
  have g1_13 : F_13 (y + 1) = (0, 992, fun _ => .inl 0) := by rw [o_13 (y + 1) (by omega) (by omega)]; exact g1_12
  have g2_13 : F_13 (y + 2) = (0, 124, fun _ => .inl 0) := by rw [o_13 (y + 2) (by omega) (by omega)]; exact g2_12
  have g3_13 : F_13 (y + 3) = (0, 124, fun _ => .inl 0) := by rw [o_13 (y + 3) (by omega) (by omega)]; exact g3_12
  have g4_13 : F_13 (y + 4) = (0, 124, fun _ => .inl 0) := by rw [o_13 (y + 4) (by omega) (by omega)]; exact g4_12
  have g5_13 : F_13 (y + 5) = (0, 8, fun _ => .inl 0) := by rw [o_13 (y + 5) (by omega) (by omega)]; exact g5_12
  have g6_13 : F_13 (y + 6) = (0, 8, fun _ => .inl 0) := by rw [o_13 (y + 6) (by omega) (by omega)]; exact g6_12
  have g7_13 : F_13 (y + 7) = (0, 320, fun _ => .inl 0) := by rw [o_13 (y + 7) (by omega) (by omega)]; exact g7_12
  have g8_13 : F_13 (y + 8) = (0, 320, fun _ => .inl 0) := by rw [o_13 (y + 8) (by omega) (by omega)]; exact g8_12
  have g9_13 : F_13 (y + 9) = (2, 320, fun _ => .inl 2) := by rw [o_13 (y + 9) (by omega) (by omega)]; exact g9_12
  have g10_13 : F_13 (y + 10) = (0, 8, fun _ => .inl 0) := by rw [o_13 (y + 10) (by omega) (by omega)]; exact g10_12
  have g11_13 : F_13 (y + 11) = (1, 8, fun _ => .inl 0) := by rw [o_13 (y + 11) (by omega) (by omega)]; exact g11_12
  have g12_13 : F_13 (y + 12) = (0, 8, fun _ => .inl 0) := by rw [o_13 (y + 12) (by omega) (by omega)]; exact g12_12
  have g13_13 : F_13 (y + 13) = (1, 4, fun _ => .inl 0) := a_13
  have f0_13 : ∀ a, a < y → F_13 a = F a := fun a ha => (o_13 a (by omega) (by omega)).trans (f0_12 a ha)
  have t_13 : c_13 y 10 = 0 := by rw [u_13 y (by omega)]; exact t_12
  have s_13 : aq_sm (fun a => y ≤ a) c c_13 := fun a ha i => (u_13 a (by omega) i).trans (s_12 a ha i)
  have r_13 : c_13 y 9 = 2 := by rw [u_13 y (by omega)]; exact r_12
  have z3_13 : ∀ j, c_13 (y + 3) j = 0 := fun j => by rw [u_13 (y + 3) (by omega)]; exact z3_12 j
  have z6_13 : ∀ j, c_13 (y + 6) j = 0 := fun j => by rw [u_13 (y + 6) (by omega)]; exact z6_12 j
  refine am_E.go (t2 := (117, [vR y, vU, vU], [vR y], aq_h (y + 14) (s + 2368) F_13 c_13)) rfl rfl ?_
  refine am_E.go (t2 := (119, [vR y, vU, vU], [vI 105, vR y], aq_h (y + 14) (s + 2368) F_13 c_13)) rfl rfl ?_
  refine aq_step (o := y) (n := 105) rfl rfl hy_13 (by omega) (by decide) rfl (by decide) rfl (by decide) (fun F_14 c_14 hy_14 a_14 o_14 z_14 u_14 => ?_)
  show am_E _ (124, [vR y, vU, vU], [], aq_h (y + 15) (s + 2473) F_14 c_14) _
  have g1_14 : F_14 (y + 1) = (0, 992, fun _ => .inl 0) := by rw [o_14 (y + 1) (by omega) (by omega)]; exact g1_13
  have g2_14 : F_14 (y + 2) = (0, 124, fun _ => .inl 0) := by rw [o_14 (y + 2) (by omega) (by omega)]; exact g2_13
  have g3_14 : F_14 (y + 3) = (0, 124, fun _ => .inl 0) := by rw [o_14 (y + 3) (by omega) (by omega)]; exact g3_13
  have g4_14 : F_14 (y + 4) = (0, 124, fun _ => .inl 0) := by rw [o_14 (y + 4) (by omega) (by omega)]; exact g4_13
  have g5_14 : F_14 (y + 5) = (0, 8, fun _ => .inl 0) := by rw [o_14 (y + 5) (by omega) (by omega)]; exact g5_13
  have g6_14 : F_14 (y + 6) = (0, 8, fun _ => .inl 0) := by rw [o_14 (y + 6) (by omega) (by omega)]; exact g6_13
  have g7_14 : F_14 (y + 7) = (0, 320, fun _ => .inl 0) := by rw [o_14 (y + 7) (by omega) (by omega)]; exact g7_13
  have g8_14 : F_14 (y + 8) = (0, 320, fun _ => .inl 0) := by rw [o_14 (y + 8) (by omega) (by omega)]; exact g8_13
  have g9_14 : F_14 (y + 9) = (2, 320, fun _ => .inl 2) := by rw [o_14 (y + 9) (by omega) (by omega)]; exact g9_13
  have g10_14 : F_14 (y + 10) = (0, 8, fun _ => .inl 0) := by rw [o_14 (y + 10) (by omega) (by omega)]; exact g10_13
  have g11_14 : F_14 (y + 11) = (1, 8, fun _ => .inl 0) := by rw [o_14 (y + 11) (by omega) (by omega)]; exact g11_13
  have g12_14 : F_14 (y + 12) = (0, 8, fun _ => .inl 0) := by rw [o_14 (y + 12) (by omega) (by omega)]; exact g12_13
  have g13_14 : F_14 (y + 13) = (1, 4, fun _ => .inl 0) := by rw [o_14 (y + 13) (by omega) (by omega)]; exact g13_13
  have g14_14 : F_14 (y + 14) = (0, 105, fun _ => .inl 0) := a_14
  have f0_14 : ∀ a, a < y → F_14 a = F a := fun a ha => (o_14 a (by omega) (by omega)).trans (f0_13 a ha)
  have t_14 : c_14 y 10 = 0 := by rw [u_14 y (by omega)]; exact t_13
  have s_14 : aq_sm (fun a => y ≤ a) c c_14 := fun a ha i => (u_14 a (by omega) i).trans (s_13 a ha i)
  have r_14 : c_14 y 9 = 2 := by rw [u_14 y (by omega)]; exact r_13
  have z3_14 : ∀ j, c_14 (y + 3) j = 0 := fun j => by rw [u_14 (y + 3) (by omega)]; exact z3_13 j
  have z6_14 : ∀ j, c_14 (y + 6) j = 0 := fun j => by rw [u_14 (y + 6) (by omega)]; exact z6_13 j
  refine am_E.go (t2 := (125, [vR y, vU, vU], [vR y], aq_h (y + 15) (s + 2473) F_14 c_14)) rfl rfl ?_
  refine am_E.go (t2 := (127, [vR y, vU, vU], [vI 42, vR y], aq_h (y + 15) (s + 2473) F_14 c_14)) rfl rfl ?_
  refine aq_step (o := y) (n := 42) rfl rfl hy_14 (by omega) (by decide) rfl (by decide) rfl (by decide) (fun F_15 c_15 hy_15 a_15 o_15 z_15 u_15 => ?_)
  show am_E _ (132, [vR y, vU, vU], [], aq_h (y + 16) (s + 2515) F_15 c_15) _
  have g1_15 : F_15 (y + 1) = (0, 992, fun _ => .inl 0) := by rw [o_15 (y + 1) (by omega) (by omega)]; exact g1_14
  have g2_15 : F_15 (y + 2) = (0, 124, fun _ => .inl 0) := by rw [o_15 (y + 2) (by omega) (by omega)]; exact g2_14
  have g3_15 : F_15 (y + 3) = (0, 124, fun _ => .inl 0) := by rw [o_15 (y + 3) (by omega) (by omega)]; exact g3_14
  have g4_15 : F_15 (y + 4) = (0, 124, fun _ => .inl 0) := by rw [o_15 (y + 4) (by omega) (by omega)]; exact g4_14
  have g5_15 : F_15 (y + 5) = (0, 8, fun _ => .inl 0) := by rw [o_15 (y + 5) (by omega) (by omega)]; exact g5_14
  have g6_15 : F_15 (y + 6) = (0, 8, fun _ => .inl 0) := by rw [o_15 (y + 6) (by omega) (by omega)]; exact g6_14
  have g7_15 : F_15 (y + 7) = (0, 320, fun _ => .inl 0) := by rw [o_15 (y + 7) (by omega) (by omega)]; exact g7_14
  have g8_15 : F_15 (y + 8) = (0, 320, fun _ => .inl 0) := by rw [o_15 (y + 8) (by omega) (by omega)]; exact g8_14
  have g9_15 : F_15 (y + 9) = (2, 320, fun _ => .inl 2) := by rw [o_15 (y + 9) (by omega) (by omega)]; exact g9_14
  have g10_15 : F_15 (y + 10) = (0, 8, fun _ => .inl 0) := by rw [o_15 (y + 10) (by omega) (by omega)]; exact g10_14
  have g11_15 : F_15 (y + 11) = (1, 8, fun _ => .inl 0) := by rw [o_15 (y + 11) (by omega) (by omega)]; exact g11_14
  have g12_15 : F_15 (y + 12) = (0, 8, fun _ => .inl 0) := by rw [o_15 (y + 12) (by omega) (by omega)]; exact g12_14
  have g13_15 : F_15 (y + 13) = (1, 4, fun _ => .inl 0) := by rw [o_15 (y + 13) (by omega) (by omega)]; exact g13_14
  have g14_15 : F_15 (y + 14) = (0, 105, fun _ => .inl 0) := by rw [o_15 (y + 14) (by omega) (by omega)]; exact g14_14
  have g15_15 : F_15 (y + 15) = (0, 42, fun _ => .inl 0) := a_15
  have f0_15 : ∀ a, a < y → F_15 a = F a := fun a ha => (o_15 a (by omega) (by omega)).trans (f0_14 a ha)
  have t_15 : c_15 y 10 = 0 := by rw [u_15 y (by omega)]; exact t_14
  have s_15 : aq_sm (fun a => y ≤ a) c c_15 := fun a ha i => (u_15 a (by omega) i).trans (s_14 a ha i)
  have r_15 : c_15 y 9 = 2 := by rw [u_15 y (by omega)]; exact r_14
  have z3_15 : ∀ j, c_15 (y + 3) j = 0 := fun j => by rw [u_15 (y + 3) (by omega)]; exact z3_14 j
  have z6_15 : ∀ j, c_15 (y + 6) j = 0 := fun j => by rw [u_15 (y + 6) (by omega)]; exact z6_14 j
  refine am_E.go (t2 := (133, [vR y, vU, vU], [vR y], aq_h (y + 16) (s + 2515) F_15 c_15)) rfl rfl ?_
  refine am_E.go (t2 := (135, [vR y, vU, vU], [vI 42, vR y], aq_h (y + 16) (s + 2515) F_15 c_15)) rfl rfl ?_
  refine aq_step (o := y) (n := 42) rfl rfl hy_15 (by omega) (by decide) rfl (by decide) rfl (by decide) (fun F_16 c_16 hy_16 a_16 o_16 z_16 u_16 => ?_)
  show am_E _ (140, [vR y, vU, vU], [], aq_h (y + 17) (s + 2557) F_16 c_16) _
  have g1_16 : F_16 (y + 1) = (0, 992, fun _ => .inl 0) := by rw [o_16 (y + 1) (by omega) (by omega)]; exact g1_15
  have g2_16 : F_16 (y + 2) = (0, 124, fun _ => .inl 0) := by rw [o_16 (y + 2) (by omega) (by omega)]; exact g2_15
  have g3_16 : F_16 (y + 3) = (0, 124, fun _ => .inl 0) := by rw [o_16 (y + 3) (by omega) (by omega)]; exact g3_15
  have g4_16 : F_16 (y + 4) = (0, 124, fun _ => .inl 0) := by rw [o_16 (y + 4) (by omega) (by omega)]; exact g4_15
  have g5_16 : F_16 (y + 5) = (0, 8, fun _ => .inl 0) := by rw [o_16 (y + 5) (by omega) (by omega)]; exact g5_15
  have g6_16 : F_16 (y + 6) = (0, 8, fun _ => .inl 0) := by rw [o_16 (y + 6) (by omega) (by omega)]; exact g6_15
  have g7_16 : F_16 (y + 7) = (0, 320, fun _ => .inl 0) := by rw [o_16 (y + 7) (by omega) (by omega)]; exact g7_15
  have g8_16 : F_16 (y + 8) = (0, 320, fun _ => .inl 0) := by rw [o_16 (y + 8) (by omega) (by omega)]; exact g8_15
  have g9_16 : F_16 (y + 9) = (2, 320, fun _ => .inl 2) := by rw [o_16 (y + 9) (by omega) (by omega)]; exact g9_15
  have g10_16 : F_16 (y + 10) = (0, 8, fun _ => .inl 0) := by rw [o_16 (y + 10) (by omega) (by omega)]; exact g10_15
  have g11_16 : F_16 (y + 11) = (1, 8, fun _ => .inl 0) := by rw [o_16 (y + 11) (by omega) (by omega)]; exact g11_15
  have g12_16 : F_16 (y + 12) = (0, 8, fun _ => .inl 0) := by rw [o_16 (y + 12) (by omega) (by omega)]; exact g12_15
  have g13_16 : F_16 (y + 13) = (1, 4, fun _ => .inl 0) := by rw [o_16 (y + 13) (by omega) (by omega)]; exact g13_15
  have g14_16 : F_16 (y + 14) = (0, 105, fun _ => .inl 0) := by rw [o_16 (y + 14) (by omega) (by omega)]; exact g14_15
  have g15_16 : F_16 (y + 15) = (0, 42, fun _ => .inl 0) := by rw [o_16 (y + 15) (by omega) (by omega)]; exact g15_15
  have g16_16 : F_16 (y + 16) = (0, 42, fun _ => .inl 0) := a_16
  have f0_16 : ∀ a, a < y → F_16 a = F a := fun a ha => (o_16 a (by omega) (by omega)).trans (f0_15 a ha)
  have t_16 : c_16 y 10 = 0 := by rw [u_16 y (by omega)]; exact t_15
  have s_16 : aq_sm (fun a => y ≤ a) c c_16 := fun a ha i => (u_16 a (by omega) i).trans (s_15 a ha i)
  have r_16 : c_16 y 9 = 2 := by rw [u_16 y (by omega)]; exact r_15
  have z3_16 : ∀ j, c_16 (y + 3) j = 0 := fun j => by rw [u_16 (y + 3) (by omega)]; exact z3_15 j
  have z6_16 : ∀ j, c_16 (y + 6) j = 0 := fun j => by rw [u_16 (y + 6) (by omega)]; exact z6_15 j
  refine am_E.go (t2 := (141, [vR y, vU, vU], [vR y], aq_h (y + 17) (s + 2557) F_16 c_16)) rfl rfl ?_
  refine am_E.go (t2 := (143, [vR y, vU, vU], [vI 42, vR y], aq_h (y + 17) (s + 2557) F_16 c_16)) rfl rfl ?_
  refine aq_step (o := y) (n := 42) rfl rfl hy_16 (by omega) (by decide) rfl (by decide) rfl (by decide) (fun F_17 c_17 hy_17 a_17 o_17 z_17 u_17 => ?_)
  show am_E _ (148, [vR y, vU, vU], [], aq_h (y + 18) (s + 2599) F_17 c_17) _
  have g1_17 : F_17 (y + 1) = (0, 992, fun _ => .inl 0) := by rw [o_17 (y + 1) (by omega) (by omega)]; exact g1_16
  have g2_17 : F_17 (y + 2) = (0, 124, fun _ => .inl 0) := by rw [o_17 (y + 2) (by omega) (by omega)]; exact g2_16
  have g3_17 : F_17 (y + 3) = (0, 124, fun _ => .inl 0) := by rw [o_17 (y + 3) (by omega) (by omega)]; exact g3_16
  have g4_17 : F_17 (y + 4) = (0, 124, fun _ => .inl 0) := by rw [o_17 (y + 4) (by omega) (by omega)]; exact g4_16
  have g5_17 : F_17 (y + 5) = (0, 8, fun _ => .inl 0) := by rw [o_17 (y + 5) (by omega) (by omega)]; exact g5_16
  have g6_17 : F_17 (y + 6) = (0, 8, fun _ => .inl 0) := by rw [o_17 (y + 6) (by omega) (by omega)]; exact g6_16
  have g7_17 : F_17 (y + 7) = (0, 320, fun _ => .inl 0) := by rw [o_17 (y + 7) (by omega) (by omega)]; exact g7_16
  have g8_17 : F_17 (y + 8) = (0, 320, fun _ => .inl 0) := by rw [o_17 (y + 8) (by omega) (by omega)]; exact g8_16
  have g9_17 : F_17 (y + 9) = (2, 320, fun _ => .inl 2) := by rw [o_17 (y + 9) (by omega) (by omega)]; exact g9_16
  have g10_17 : F_17 (y + 10) = (0, 8, fun _ => .inl 0) := by rw [o_17 (y + 10) (by omega) (by omega)]; exact g10_16
  have g11_17 : F_17 (y + 11) = (1, 8, fun _ => .inl 0) := by rw [o_17 (y + 11) (by omega) (by omega)]; exact g11_16
  have g12_17 : F_17 (y + 12) = (0, 8, fun _ => .inl 0) := by rw [o_17 (y + 12) (by omega) (by omega)]; exact g12_16
  have g13_17 : F_17 (y + 13) = (1, 4, fun _ => .inl 0) := by rw [o_17 (y + 13) (by omega) (by omega)]; exact g13_16
  have g14_17 : F_17 (y + 14) = (0, 105, fun _ => .inl 0) := by rw [o_17 (y + 14) (by omega) (by omega)]; exact g14_16
  have g15_17 : F_17 (y + 15) = (0, 42, fun _ => .inl 0) := by rw [o_17 (y + 15) (by omega) (by omega)]; exact g15_16
  have g16_17 : F_17 (y + 16) = (0, 42, fun _ => .inl 0) := by rw [o_17 (y + 16) (by omega) (by omega)]; exact g16_16
  have g17_17 : F_17 (y + 17) = (2, 42, fun _ => .inl 2) := a_17
  have f0_17 : ∀ a, a < y → F_17 a = F a := fun a ha => (o_17 a (by omega) (by omega)).trans (f0_16 a ha)
  have t_17 : c_17 y 10 = 0 := by rw [u_17 y (by omega)]; exact t_16
  have s_17 : aq_sm (fun a => y ≤ a) c c_17 := fun a ha i => (u_17 a (by omega) i).trans (s_16 a ha i)
  have r_17 : c_17 y 9 = 2 := by rw [u_17 y (by omega)]; exact r_16
  have z3_17 : ∀ j, c_17 (y + 3) j = 0 := fun j => by rw [u_17 (y + 3) (by omega)]; exact z3_16 j
  have z6_17 : ∀ j, c_17 (y + 6) j = 0 := fun j => by rw [u_17 (y + 6) (by omega)]; exact z6_16 j
  refine am_E.go (t2 := (149, [vR y, vU, vU], [vR y], aq_h (y + 18) (s + 2599) F_17 c_17)) rfl rfl ?_
  refine am_E.go (t2 := (150, [vR y, vU, vU], [vI 4, vR y], aq_h (y + 18) (s + 2599) F_17 c_17)) rfl rfl ?_
  refine aq_step (o := y) (n := 4) rfl rfl hy_17 (by omega) (by decide) rfl (by decide) rfl (by decide) (fun F_18 c_18 hy_18 a_18 o_18 z_18 u_18 => ?_)
  show am_E _ (155, [vR y, vU, vU], [], aq_h (y + 19) (s + 2603) F_18 c_18) _
  have g1_18 : F_18 (y + 1) = (0, 992, fun _ => .inl 0) := by rw [o_18 (y + 1) (by omega) (by omega)]; exact g1_17
  have g2_18 : F_18 (y + 2) = (0, 124, fun _ => .inl 0) := by rw [o_18 (y + 2) (by omega) (by omega)]; exact g2_17
  have g3_18 : F_18 (y + 3) = (0, 124, fun _ => .inl 0) := by rw [o_18 (y + 3) (by omega) (by omega)]; exact g3_17
  have g4_18 : F_18 (y + 4) = (0, 124, fun _ => .inl 0) := by rw [o_18 (y + 4) (by omega) (by omega)]; exact g4_17
  have g5_18 : F_18 (y + 5) = (0, 8, fun _ => .inl 0) := by rw [o_18 (y + 5) (by omega) (by omega)]; exact g5_17
  have g6_18 : F_18 (y + 6) = (0, 8, fun _ => .inl 0) := by rw [o_18 (y + 6) (by omega) (by omega)]; exact g6_17
  have g7_18 : F_18 (y + 7) = (0, 320, fun _ => .inl 0) := by rw [o_18 (y + 7) (by omega) (by omega)]; exact g7_17
  have g8_18 : F_18 (y + 8) = (0, 320, fun _ => .inl 0) := by rw [o_18 (y + 8) (by omega) (by omega)]; exact g8_17
  have g9_18 : F_18 (y + 9) = (2, 320, fun _ => .inl 2) := by rw [o_18 (y + 9) (by omega) (by omega)]; exact g9_17
  have g10_18 : F_18 (y + 10) = (0, 8, fun _ => .inl 0) := by rw [o_18 (y + 10) (by omega) (by omega)]; exact g10_17
  have g11_18 : F_18 (y + 11) = (1, 8, fun _ => .inl 0) := by rw [o_18 (y + 11) (by omega) (by omega)]; exact g11_17
  have g12_18 : F_18 (y + 12) = (0, 8, fun _ => .inl 0) := by rw [o_18 (y + 12) (by omega) (by omega)]; exact g12_17
  have g13_18 : F_18 (y + 13) = (1, 4, fun _ => .inl 0) := by rw [o_18 (y + 13) (by omega) (by omega)]; exact g13_17
  have g14_18 : F_18 (y + 14) = (0, 105, fun _ => .inl 0) := by rw [o_18 (y + 14) (by omega) (by omega)]; exact g14_17
  have g15_18 : F_18 (y + 15) = (0, 42, fun _ => .inl 0) := by rw [o_18 (y + 15) (by omega) (by omega)]; exact g15_17
  have g16_18 : F_18 (y + 16) = (0, 42, fun _ => .inl 0) := by rw [o_18 (y + 16) (by omega) (by omega)]; exact g16_17
  have g17_18 : F_18 (y + 17) = (2, 42, fun _ => .inl 2) := by rw [o_18 (y + 17) (by omega) (by omega)]; exact g17_17
  have g18_18 : F_18 (y + 18) = (0, 4, fun _ => .inl 0) := a_18
  have f0_18 : ∀ a, a < y → F_18 a = F a := fun a ha => (o_18 a (by omega) (by omega)).trans (f0_17 a ha)
  have t_18 : c_18 y 10 = 0 := by rw [u_18 y (by omega)]; exact t_17
  have s_18 : aq_sm (fun a => y ≤ a) c c_18 := fun a ha i => (u_18 a (by omega) i).trans (s_17 a ha i)
  have r_18 : c_18 y 9 = 2 := by rw [u_18 y (by omega)]; exact r_17
  have z3_18 : ∀ j, c_18 (y + 3) j = 0 := fun j => by rw [u_18 (y + 3) (by omega)]; exact z3_17 j
  have z6_18 : ∀ j, c_18 (y + 6) j = 0 := fun j => by rw [u_18 (y + 6) (by omega)]; exact z6_17 j
  refine am_E.go (t2 := (156, [vR y, vU, vU], [vR y], aq_h (y + 19) (s + 2603) F_18 c_18)) rfl rfl ?_
  refine am_E.go (t2 := (157, [vR y, vU, vU], [vI 4, vR y], aq_h (y + 19) (s + 2603) F_18 c_18)) rfl rfl ?_
  refine aq_step (o := y) (n := 4) rfl rfl hy_18 (by omega) (by decide) rfl (by decide) rfl (by decide) (fun F_19 c_19 hy_19 a_19 o_19 z_19 u_19 => ?_)
  show am_E _ (162, [vR y, vU, vU], [], aq_h (y + 20) (s + 2607) F_19 c_19) _
  have g1_19 : F_19 (y + 1) = (0, 992, fun _ => .inl 0) := by rw [o_19 (y + 1) (by omega) (by omega)]; exact g1_18
  have g2_19 : F_19 (y + 2) = (0, 124, fun _ => .inl 0) := by rw [o_19 (y + 2) (by omega) (by omega)]; exact g2_18
  have g3_19 : F_19 (y + 3) = (0, 124, fun _ => .inl 0) := by rw [o_19 (y + 3) (by omega) (by omega)]; exact g3_18
  have g4_19 : F_19 (y + 4) = (0, 124, fun _ => .inl 0) := by rw [o_19 (y + 4) (by omega) (by omega)]; exact g4_18
  have g5_19 : F_19 (y + 5) = (0, 8, fun _ => .inl 0) := by rw [o_19 (y + 5) (by omega) (by omega)]; exact g5_18
  have g6_19 : F_19 (y + 6) = (0, 8, fun _ => .inl 0) := by rw [o_19 (y + 6) (by omega) (by omega)]; exact g6_18
  have g7_19 : F_19 (y + 7) = (0, 320, fun _ => .inl 0) := by rw [o_19 (y + 7) (by omega) (by omega)]; exact g7_18
  have g8_19 : F_19 (y + 8) = (0, 320, fun _ => .inl 0) := by rw [o_19 (y + 8) (by omega) (by omega)]; exact g8_18
  have g9_19 : F_19 (y + 9) = (2, 320, fun _ => .inl 2) := by rw [o_19 (y + 9) (by omega) (by omega)]; exact g9_18
  have g10_19 : F_19 (y + 10) = (0, 8, fun _ => .inl 0) := by rw [o_19 (y + 10) (by omega) (by omega)]; exact g10_18
  have g11_19 : F_19 (y + 11) = (1, 8, fun _ => .inl 0) := by rw [o_19 (y + 11) (by omega) (by omega)]; exact g11_18
  have g12_19 : F_19 (y + 12) = (0, 8, fun _ => .inl 0) := by rw [o_19 (y + 12) (by omega) (by omega)]; exact g12_18
  have g13_19 : F_19 (y + 13) = (1, 4, fun _ => .inl 0) := by rw [o_19 (y + 13) (by omega) (by omega)]; exact g13_18
  have g14_19 : F_19 (y + 14) = (0, 105, fun _ => .inl 0) := by rw [o_19 (y + 14) (by omega) (by omega)]; exact g14_18
  have g15_19 : F_19 (y + 15) = (0, 42, fun _ => .inl 0) := by rw [o_19 (y + 15) (by omega) (by omega)]; exact g15_18
  have g16_19 : F_19 (y + 16) = (0, 42, fun _ => .inl 0) := by rw [o_19 (y + 16) (by omega) (by omega)]; exact g16_18
  have g17_19 : F_19 (y + 17) = (2, 42, fun _ => .inl 2) := by rw [o_19 (y + 17) (by omega) (by omega)]; exact g17_18
  have g18_19 : F_19 (y + 18) = (0, 4, fun _ => .inl 0) := by rw [o_19 (y + 18) (by omega) (by omega)]; exact g18_18
  have g19_19 : F_19 (y + 19) = (0, 4, fun _ => .inl 0) := a_19
  have f0_19 : ∀ a, a < y → F_19 a = F a := fun a ha => (o_19 a (by omega) (by omega)).trans (f0_18 a ha)
  have t_19 : c_19 y 10 = 0 := by rw [u_19 y (by omega)]; exact t_18
  have s_19 : aq_sm (fun a => y ≤ a) c c_19 := fun a ha i => (u_19 a (by omega) i).trans (s_18 a ha i)
  have r_19 : c_19 y 9 = 2 := by rw [u_19 y (by omega)]; exact r_18
  have z3_19 : ∀ j, c_19 (y + 3) j = 0 := fun j => by rw [u_19 (y + 3) (by omega)]; exact z3_18 j
  have z6_19 : ∀ j, c_19 (y + 6) j = 0 := fun j => by rw [u_19 (y + 6) (by omega)]; exact z6_18 j
  refine am_E.go (t2 := (163, [vR y, vU, vU], [vR y], aq_h (y + 20) (s + 2607) F_19 c_19)) rfl rfl ?_
  refine am_E.go (t2 := (165, [vR y, vU, vU], [vI 36, vR y], aq_h (y + 20) (s + 2607) F_19 c_19)) rfl rfl ?_
  refine aq_step (o := y) (n := 36) rfl rfl hy_19 (by omega) (by decide) rfl (by decide) rfl (by decide) (fun F_20 c_20 hy_20 a_20 o_20 z_20 u_20 => ?_)
  show am_E _ (170, [vR y, vU, vU], [], aq_h (y + 21) (s + 2643) F_20 c_20) _
  have g1_20 : F_20 (y + 1) = (0, 992, fun _ => .inl 0) := by rw [o_20 (y + 1) (by omega) (by omega)]; exact g1_19
  have g2_20 : F_20 (y + 2) = (0, 124, fun _ => .inl 0) := by rw [o_20 (y + 2) (by omega) (by omega)]; exact g2_19
  have g3_20 : F_20 (y + 3) = (0, 124, fun _ => .inl 0) := by rw [o_20 (y + 3) (by omega) (by omega)]; exact g3_19
  have g4_20 : F_20 (y + 4) = (0, 124, fun _ => .inl 0) := by rw [o_20 (y + 4) (by omega) (by omega)]; exact g4_19
  have g5_20 : F_20 (y + 5) = (0, 8, fun _ => .inl 0) := by rw [o_20 (y + 5) (by omega) (by omega)]; exact g5_19
  have g6_20 : F_20 (y + 6) = (0, 8, fun _ => .inl 0) := by rw [o_20 (y + 6) (by omega) (by omega)]; exact g6_19
  have g7_20 : F_20 (y + 7) = (0, 320, fun _ => .inl 0) := by rw [o_20 (y + 7) (by omega) (by omega)]; exact g7_19
  have g8_20 : F_20 (y + 8) = (0, 320, fun _ => .inl 0) := by rw [o_20 (y + 8) (by omega) (by omega)]; exact g8_19
  have g9_20 : F_20 (y + 9) = (2, 320, fun _ => .inl 2) := by rw [o_20 (y + 9) (by omega) (by omega)]; exact g9_19
  have g10_20 : F_20 (y + 10) = (0, 8, fun _ => .inl 0) := by rw [o_20 (y + 10) (by omega) (by omega)]; exact g10_19
  have g11_20 : F_20 (y + 11) = (1, 8, fun _ => .inl 0) := by rw [o_20 (y + 11) (by omega) (by omega)]; exact g11_19
  have g12_20 : F_20 (y + 12) = (0, 8, fun _ => .inl 0) := by rw [o_20 (y + 12) (by omega) (by omega)]; exact g12_19
  have g13_20 : F_20 (y + 13) = (1, 4, fun _ => .inl 0) := by rw [o_20 (y + 13) (by omega) (by omega)]; exact g13_19
  have g14_20 : F_20 (y + 14) = (0, 105, fun _ => .inl 0) := by rw [o_20 (y + 14) (by omega) (by omega)]; exact g14_19
  have g15_20 : F_20 (y + 15) = (0, 42, fun _ => .inl 0) := by rw [o_20 (y + 15) (by omega) (by omega)]; exact g15_19
  have g16_20 : F_20 (y + 16) = (0, 42, fun _ => .inl 0) := by rw [o_20 (y + 16) (by omega) (by omega)]; exact g16_19
  have g17_20 : F_20 (y + 17) = (2, 42, fun _ => .inl 2) := by rw [o_20 (y + 17) (by omega) (by omega)]; exact g17_19
  have g18_20 : F_20 (y + 18) = (0, 4, fun _ => .inl 0) := by rw [o_20 (y + 18) (by omega) (by omega)]; exact g18_19
  have g19_20 : F_20 (y + 19) = (0, 4, fun _ => .inl 0) := by rw [o_20 (y + 19) (by omega) (by omega)]; exact g19_19
  have g20_20 : F_20 (y + 20) = (0, 36, fun _ => .inl 0) := a_20
  have f0_20 : ∀ a, a < y → F_20 a = F a := fun a ha => (o_20 a (by omega) (by omega)).trans (f0_19 a ha)
  have t_20 : c_20 y 10 = 0 := by rw [u_20 y (by omega)]; exact t_19
  have s_20 : aq_sm (fun a => y ≤ a) c c_20 := fun a ha i => (u_20 a (by omega) i).trans (s_19 a ha i)
  have r_20 : c_20 y 9 = 2 := by rw [u_20 y (by omega)]; exact r_19
  have z3_20 : ∀ j, c_20 (y + 3) j = 0 := fun j => by rw [u_20 (y + 3) (by omega)]; exact z3_19 j
  have z6_20 : ∀ j, c_20 (y + 6) j = 0 := fun j => by rw [u_20 (y + 6) (by omega)]; exact z6_19 j
  refine am_E.go (t2 := (171, [vR y, vU, vU], [vR y], aq_h (y + 21) (s + 2643) F_20 c_20)) rfl rfl ?_
  refine am_E.go (t2 := (174, [vR y, vU, vU], [vI 201, vR y], aq_h (y + 21) (s + 2643) F_20 c_20)) rfl rfl ?_
  refine aq_step (o := y) (n := 201) rfl rfl hy_20 (by omega) (by decide) rfl (by decide) rfl (by decide) (fun F_21 c_21 hy_21 a_21 o_21 z_21 u_21 => ?_)
  show am_E _ (179, [vR y, vU, vU], [], aq_h (y + 22) (s + 2844) F_21 c_21) _
  have g1_21 : F_21 (y + 1) = (0, 992, fun _ => .inl 0) := by rw [o_21 (y + 1) (by omega) (by omega)]; exact g1_20
  have g2_21 : F_21 (y + 2) = (0, 124, fun _ => .inl 0) := by rw [o_21 (y + 2) (by omega) (by omega)]; exact g2_20
  have g3_21 : F_21 (y + 3) = (0, 124, fun _ => .inl 0) := by rw [o_21 (y + 3) (by omega) (by omega)]; exact g3_20
  have g4_21 : F_21 (y + 4) = (0, 124, fun _ => .inl 0) := by rw [o_21 (y + 4) (by omega) (by omega)]; exact g4_20
  have g5_21 : F_21 (y + 5) = (0, 8, fun _ => .inl 0) := by rw [o_21 (y + 5) (by omega) (by omega)]; exact g5_20
  have g6_21 : F_21 (y + 6) = (0, 8, fun _ => .inl 0) := by rw [o_21 (y + 6) (by omega) (by omega)]; exact g6_20
  have g7_21 : F_21 (y + 7) = (0, 320, fun _ => .inl 0) := by rw [o_21 (y + 7) (by omega) (by omega)]; exact g7_20
  have g8_21 : F_21 (y + 8) = (0, 320, fun _ => .inl 0) := by rw [o_21 (y + 8) (by omega) (by omega)]; exact g8_20
  have g9_21 : F_21 (y + 9) = (2, 320, fun _ => .inl 2) := by rw [o_21 (y + 9) (by omega) (by omega)]; exact g9_20
  have g10_21 : F_21 (y + 10) = (0, 8, fun _ => .inl 0) := by rw [o_21 (y + 10) (by omega) (by omega)]; exact g10_20
  have g11_21 : F_21 (y + 11) = (1, 8, fun _ => .inl 0) := by rw [o_21 (y + 11) (by omega) (by omega)]; exact g11_20
  have g12_21 : F_21 (y + 12) = (0, 8, fun _ => .inl 0) := by rw [o_21 (y + 12) (by omega) (by omega)]; exact g12_20
  have g13_21 : F_21 (y + 13) = (1, 4, fun _ => .inl 0) := by rw [o_21 (y + 13) (by omega) (by omega)]; exact g13_20
  have g14_21 : F_21 (y + 14) = (0, 105, fun _ => .inl 0) := by rw [o_21 (y + 14) (by omega) (by omega)]; exact g14_20
  have g15_21 : F_21 (y + 15) = (0, 42, fun _ => .inl 0) := by rw [o_21 (y + 15) (by omega) (by omega)]; exact g15_20
  have g16_21 : F_21 (y + 16) = (0, 42, fun _ => .inl 0) := by rw [o_21 (y + 16) (by omega) (by omega)]; exact g16_20
  have g17_21 : F_21 (y + 17) = (2, 42, fun _ => .inl 2) := by rw [o_21 (y + 17) (by omega) (by omega)]; exact g17_20
  have g18_21 : F_21 (y + 18) = (0, 4, fun _ => .inl 0) := by rw [o_21 (y + 18) (by omega) (by omega)]; exact g18_20
  have g19_21 : F_21 (y + 19) = (0, 4, fun _ => .inl 0) := by rw [o_21 (y + 19) (by omega) (by omega)]; exact g19_20
  have g20_21 : F_21 (y + 20) = (0, 36, fun _ => .inl 0) := by rw [o_21 (y + 20) (by omega) (by omega)]; exact g20_20
  have g21_21 : F_21 (y + 21) = (0, 201, fun _ => .inl 0) := a_21
  have f0_21 : ∀ a, a < y → F_21 a = F a := fun a ha => (o_21 a (by omega) (by omega)).trans (f0_20 a ha)
  have t_21 : c_21 y 10 = 0 := by rw [u_21 y (by omega)]; exact t_20
  have s_21 : aq_sm (fun a => y ≤ a) c c_21 := fun a ha i => (u_21 a (by omega) i).trans (s_20 a ha i)
  have r_21 : c_21 y 9 = 2 := by rw [u_21 y (by omega)]; exact r_20
  have z3_21 : ∀ j, c_21 (y + 3) j = 0 := fun j => by rw [u_21 (y + 3) (by omega)]; exact z3_20 j
  have z6_21 : ∀ j, c_21 (y + 6) j = 0 := fun j => by rw [u_21 (y + 6) (by omega)]; exact z6_20 j
  refine am_E.go (t2 := (180, [vR y, vU, vU], [vR y], aq_h (y + 22) (s + 2844) F_21 c_21)) rfl rfl ?_
  refine am_E.go (t2 := (183, [vR y, vU, vU], [vI 201, vR y], aq_h (y + 22) (s + 2844) F_21 c_21)) rfl rfl ?_
  refine aq_step (o := y) (n := 201) rfl rfl hy_21 (by omega) (by decide) rfl (by decide) rfl (by decide) (fun F_22 c_22 hy_22 a_22 o_22 z_22 u_22 => ?_)
  show am_E _ (188, [vR y, vU, vU], [], aq_h (y + 23) (s + 3045) F_22 c_22) _
  have g1_22 : F_22 (y + 1) = (0, 992, fun _ => .inl 0) := by rw [o_22 (y + 1) (by omega) (by omega)]; exact g1_21
  have g2_22 : F_22 (y + 2) = (0, 124, fun _ => .inl 0) := by rw [o_22 (y + 2) (by omega) (by omega)]; exact g2_21
  have g3_22 : F_22 (y + 3) = (0, 124, fun _ => .inl 0) := by rw [o_22 (y + 3) (by omega) (by omega)]; exact g3_21
  have g4_22 : F_22 (y + 4) = (0, 124, fun _ => .inl 0) := by rw [o_22 (y + 4) (by omega) (by omega)]; exact g4_21
  have g5_22 : F_22 (y + 5) = (0, 8, fun _ => .inl 0) := by rw [o_22 (y + 5) (by omega) (by omega)]; exact g5_21
  have g6_22 : F_22 (y + 6) = (0, 8, fun _ => .inl 0) := by rw [o_22 (y + 6) (by omega) (by omega)]; exact g6_21
  have g7_22 : F_22 (y + 7) = (0, 320, fun _ => .inl 0) := by rw [o_22 (y + 7) (by omega) (by omega)]; exact g7_21
  have g8_22 : F_22 (y + 8) = (0, 320, fun _ => .inl 0) := by rw [o_22 (y + 8) (by omega) (by omega)]; exact g8_21
  have g9_22 : F_22 (y + 9) = (2, 320, fun _ => .inl 2) := by rw [o_22 (y + 9) (by omega) (by omega)]; exact g9_21
  have g10_22 : F_22 (y + 10) = (0, 8, fun _ => .inl 0) := by rw [o_22 (y + 10) (by omega) (by omega)]; exact g10_21
  have g11_22 : F_22 (y + 11) = (1, 8, fun _ => .inl 0) := by rw [o_22 (y + 11) (by omega) (by omega)]; exact g11_21
  have g12_22 : F_22 (y + 12) = (0, 8, fun _ => .inl 0) := by rw [o_22 (y + 12) (by omega) (by omega)]; exact g12_21
  have g13_22 : F_22 (y + 13) = (1, 4, fun _ => .inl 0) := by rw [o_22 (y + 13) (by omega) (by omega)]; exact g13_21
  have g14_22 : F_22 (y + 14) = (0, 105, fun _ => .inl 0) := by rw [o_22 (y + 14) (by omega) (by omega)]; exact g14_21
  have g15_22 : F_22 (y + 15) = (0, 42, fun _ => .inl 0) := by rw [o_22 (y + 15) (by omega) (by omega)]; exact g15_21
  have g16_22 : F_22 (y + 16) = (0, 42, fun _ => .inl 0) := by rw [o_22 (y + 16) (by omega) (by omega)]; exact g16_21
  have g17_22 : F_22 (y + 17) = (2, 42, fun _ => .inl 2) := by rw [o_22 (y + 17) (by omega) (by omega)]; exact g17_21
  have g18_22 : F_22 (y + 18) = (0, 4, fun _ => .inl 0) := by rw [o_22 (y + 18) (by omega) (by omega)]; exact g18_21
  have g19_22 : F_22 (y + 19) = (0, 4, fun _ => .inl 0) := by rw [o_22 (y + 19) (by omega) (by omega)]; exact g19_21
  have g20_22 : F_22 (y + 20) = (0, 36, fun _ => .inl 0) := by rw [o_22 (y + 20) (by omega) (by omega)]; exact g20_21
  have g21_22 : F_22 (y + 21) = (0, 201, fun _ => .inl 0) := by rw [o_22 (y + 21) (by omega) (by omega)]; exact g21_21
  have g22_22 : F_22 (y + 22) = (0, 201, fun _ => .inl 0) := a_22
  have f0_22 : ∀ a, a < y → F_22 a = F a := fun a ha => (o_22 a (by omega) (by omega)).trans (f0_21 a ha)
  have t_22 : c_22 y 10 = 0 := by rw [u_22 y (by omega)]; exact t_21
  have s_22 : aq_sm (fun a => y ≤ a) c c_22 := fun a ha i => (u_22 a (by omega) i).trans (s_21 a ha i)
  have r_22 : c_22 y 9 = 2 := by rw [u_22 y (by omega)]; exact r_21
  have z3_22 : ∀ j, c_22 (y + 3) j = 0 := fun j => by rw [u_22 (y + 3) (by omega)]; exact z3_21 j
  have z6_22 : ∀ j, c_22 (y + 6) j = 0 := fun j => by rw [u_22 (y + 6) (by omega)]; exact z6_21 j
  refine am_E.go (t2 := (189, [vR y, vU, vU], [vR y], aq_h (y + 23) (s + 3045) F_22 c_22)) rfl rfl ?_
  refine am_E.go (t2 := (192, [vR y, vU, vU], [vI 201, vR y], aq_h (y + 23) (s + 3045) F_22 c_22)) rfl rfl ?_
  refine aq_step (o := y) (n := 201) rfl rfl hy_22 (by omega) (by decide) rfl (by decide) rfl (by decide) (fun F_23 c_23 hy_23 a_23 o_23 z_23 u_23 => ?_)
  show am_E _ (197, [vR y, vU, vU], [], aq_h (y + 24) (s + 3246) F_23 c_23) _
  have g1_23 : F_23 (y + 1) = (0, 992, fun _ => .inl 0) := by rw [o_23 (y + 1) (by omega) (by omega)]; exact g1_22
  have g2_23 : F_23 (y + 2) = (0, 124, fun _ => .inl 0) := by rw [o_23 (y + 2) (by omega) (by omega)]; exact g2_22
  have g3_23 : F_23 (y + 3) = (0, 124, fun _ => .inl 0) := by rw [o_23 (y + 3) (by omega) (by omega)]; exact g3_22
  have g4_23 : F_23 (y + 4) = (0, 124, fun _ => .inl 0) := by rw [o_23 (y + 4) (by omega) (by omega)]; exact g4_22
  have g5_23 : F_23 (y + 5) = (0, 8, fun _ => .inl 0) := by rw [o_23 (y + 5) (by omega) (by omega)]; exact g5_22
  have g6_23 : F_23 (y + 6) = (0, 8, fun _ => .inl 0) := by rw [o_23 (y + 6) (by omega) (by omega)]; exact g6_22
  have g7_23 : F_23 (y + 7) = (0, 320, fun _ => .inl 0) := by rw [o_23 (y + 7) (by omega) (by omega)]; exact g7_22
  have g8_23 : F_23 (y + 8) = (0, 320, fun _ => .inl 0) := by rw [o_23 (y + 8) (by omega) (by omega)]; exact g8_22
  have g9_23 : F_23 (y + 9) = (2, 320, fun _ => .inl 2) := by rw [o_23 (y + 9) (by omega) (by omega)]; exact g9_22
  have g10_23 : F_23 (y + 10) = (0, 8, fun _ => .inl 0) := by rw [o_23 (y + 10) (by omega) (by omega)]; exact g10_22
  have g11_23 : F_23 (y + 11) = (1, 8, fun _ => .inl 0) := by rw [o_23 (y + 11) (by omega) (by omega)]; exact g11_22
  have g12_23 : F_23 (y + 12) = (0, 8, fun _ => .inl 0) := by rw [o_23 (y + 12) (by omega) (by omega)]; exact g12_22
  have g13_23 : F_23 (y + 13) = (1, 4, fun _ => .inl 0) := by rw [o_23 (y + 13) (by omega) (by omega)]; exact g13_22
  have g14_23 : F_23 (y + 14) = (0, 105, fun _ => .inl 0) := by rw [o_23 (y + 14) (by omega) (by omega)]; exact g14_22
  have g15_23 : F_23 (y + 15) = (0, 42, fun _ => .inl 0) := by rw [o_23 (y + 15) (by omega) (by omega)]; exact g15_22
  have g16_23 : F_23 (y + 16) = (0, 42, fun _ => .inl 0) := by rw [o_23 (y + 16) (by omega) (by omega)]; exact g16_22
  have g17_23 : F_23 (y + 17) = (2, 42, fun _ => .inl 2) := by rw [o_23 (y + 17) (by omega) (by omega)]; exact g17_22
  have g18_23 : F_23 (y + 18) = (0, 4, fun _ => .inl 0) := by rw [o_23 (y + 18) (by omega) (by omega)]; exact g18_22
  have g19_23 : F_23 (y + 19) = (0, 4, fun _ => .inl 0) := by rw [o_23 (y + 19) (by omega) (by omega)]; exact g19_22
  have g20_23 : F_23 (y + 20) = (0, 36, fun _ => .inl 0) := by rw [o_23 (y + 20) (by omega) (by omega)]; exact g20_22
  have g21_23 : F_23 (y + 21) = (0, 201, fun _ => .inl 0) := by rw [o_23 (y + 21) (by omega) (by omega)]; exact g21_22
  have g22_23 : F_23 (y + 22) = (0, 201, fun _ => .inl 0) := by rw [o_23 (y + 22) (by omega) (by omega)]; exact g22_22
  have g23_23 : F_23 (y + 23) = (0, 201, fun _ => .inl 0) := a_23
  have f0_23 : ∀ a, a < y → F_23 a = F a := fun a ha => (o_23 a (by omega) (by omega)).trans (f0_22 a ha)
  have t_23 : c_23 y 10 = 0 := by rw [u_23 y (by omega)]; exact t_22
  have s_23 : aq_sm (fun a => y ≤ a) c c_23 := fun a ha i => (u_23 a (by omega) i).trans (s_22 a ha i)
  have r_23 : c_23 y 9 = 2 := by rw [u_23 y (by omega)]; exact r_22
  have z3_23 : ∀ j, c_23 (y + 3) j = 0 := fun j => by rw [u_23 (y + 3) (by omega)]; exact z3_22 j
  have z6_23 : ∀ j, c_23 (y + 6) j = 0 := fun j => by rw [u_23 (y + 6) (by omega)]; exact z6_22 j
  have et : am_up (am_up (am_up (am_up (am_up (am_up (am_up (am_up (am_up (am_up (am_up (am_up (am_up (am_up (am_up (am_up (am_up (am_up (am_up (am_up (am_up (am_up (am_up (mo_t0) 0 (.inr (vR (y + 1)))) 1 (.inr (vR (y + 2)))) 2 (.inr (vR (y + 3)))) 3 (.inr (vR (y + 4)))) 4 (.inr (vR (y + 5)))) 5 (.inr (vR (y + 6)))) 6 (.inr (vR (y + 7)))) 7 (.inr (vR (y + 8)))) 8 (.inr (vR (y + 9)))) 11 (.inr (vR (y + 10)))) 12 (.inr (vR (y + 11)))) 13 (.inr (vR (y + 12)))) 14 (.inr (vR (y + 13)))) 16 (.inr (vR (y + 14)))) 18 (.inr (vR (y + 15)))) 19 (.inr (vR (y + 16)))) 20 (.inr (vR (y + 17)))) 21 (.inr (vR (y + 18)))) 22 (.inr (vR (y + 19)))) 23 (.inr (vR (y + 20)))) 24 (.inr (vR (y + 21)))) 25 (.inr (vR (y + 22)))) 26 (.inr (vR (y + 23))) = mo_t y := by
    funext k
    have hk : k = 0 ∨ k = 1 ∨ k = 2 ∨ k = 3 ∨ k = 4 ∨ k = 5 ∨ k = 6 ∨ k = 7 ∨ k = 8 ∨ k = 9 ∨ k = 10 ∨ k = 11 ∨ k = 12 ∨ k = 13 ∨ k = 14 ∨ k = 15 ∨ k = 16 ∨ k = 17 ∨ k = 18 ∨ k = 19 ∨ k = 20 ∨ k = 21 ∨ k = 22 ∨ k = 23 ∨ k = 24 ∨ k = 25 ∨ k = 26 ∨ 27 ≤ k := by omega
    rcases hk with hk | hk | hk | hk | hk | hk | hk | hk | hk | hk | hk | hk | hk | hk | hk | hk | hk | hk | hk | hk | hk | hk | hk | hk | hk | hk | hk | hk
    · subst hk; rfl
    · subst hk; rfl
    · subst hk; rfl
    · subst hk; rfl
    · subst hk; rfl
    · subst hk; rfl
    · subst hk; rfl
    · subst hk; rfl
    · subst hk; rfl
    · subst hk; rfl
    · subst hk; rfl
    · subst hk; rfl
    · subst hk; rfl
    · subst hk; rfl
    · subst hk; rfl
    · subst hk; rfl
    · subst hk; rfl
    · subst hk; rfl
    · subst hk; rfl
    · subst hk; rfl
    · subst hk; rfl
    · subst hk; rfl
    · subst hk; rfl
    · subst hk; rfl
    · subst hk; rfl
    · subst hk; rfl
    · subst hk; rfl
    · obtain ⟨j, rfl⟩ : ∃ j, k = j + 27 := ⟨k - 27, by omega⟩
      repeat rw [am_up_n (by omega)]
      rfl
  have hyy : F_23 y = (15, 27, mo_t y) := by rw [← et]; exact hy_23
  refine am_E.go (t2 := (198, [vR y, vU, vU], [vI 0], aq_h (y + 24) (s + 3246) F_23 c_23)) rfl rfl ?_
  refine am_E.go (t2 := (199, [vR y, vI 0, vU], [], aq_h (y + 24) (s + 3246) F_23 c_23)) rfl rfl ?_
  exact qm_ini_s ⟨Nat.le_refl _, hyy, g5_23, g6_23, g7_23, g8_23, g9_23, g10_23, g11_23, g12_23, g13_23, g14_23, g15_23, g16_23, g17_23, g18_23, g19_23, g20_23, g21_23, g22_23, g23_23⟩ f0_23 g1_23 g2_23 g3_23 g4_23 10 0 _ c_23 s_23 (by omega) (by omega) ⟨r_23, t_23⟩ (fun s5 k0 k1 => absurd k1 (by omega)) z6_23 z3_23 (by omega)
