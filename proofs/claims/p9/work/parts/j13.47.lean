theorem qn_X4_row {m s : Nat} {F : aq_F} {c : aq_C} (hC : sb_C m F) (hI : cl_I c) {nn : Int} : am_E ac_X4_row (0, [vR 0, vI nn], [], aq_h m s F c) (aq_Z m s F (fun a => a < 527) c (fun r d => cl_I d ∧ ((2 ≤ nn ∧ nn ≤ 4 ∧ r = some (vI 0) ∧ d 8 0 = nn ∧ d 8 1 = 0) ∨ (¬ (2 ≤ nn ∧ nn ≤ 4) ∧ r = some (vI (-1)) ∧ d = c)))) := by
  obtain ⟨hCm, hC0, hC1, hC2, hC3, ⟨hma4, hFa4, hFn4, hFp4, hFf4⟩, ⟨hmx, hFx, hFl, hFw⟩, hCs, hCb, hCh⟩ := id hC
  obtain ⟨hx0, hx1, hx2, hx3, hx4⟩ := hI.2.1
  refine am_E.go (t2 := (1, [vR 0, vI nn], [vI nn], aq_h m s F c)) rfl rfl ?_
  refine am_E.go (t2 := (2, [vR 0, vI nn], [vI 2, vI nn], aq_h m s F c)) rfl rfl ?_
  refine ae_icmp rfl (fun (q_1 : nn < 2) => ?_) (fun (q_1 : 2 ≤ nn) => ?_)
  · refine am_E.go (t2 := (11, [vR 0, vI nn], [vI (-1)], aq_h m s F c)) rfl rfl ?_
    refine am_E.ret rfl rfl ?_
    exact ⟨_, rfl, (aq_sm0 (S := fun a => a < 527)), hI, Or.inr ⟨by omega, rfl, rfl⟩⟩
  · refine am_E.go (t2 := (6, [vR 0, vI nn], [vI nn], aq_h m s F c)) rfl rfl ?_
    refine am_E.go (t2 := (7, [vR 0, vI nn], [vI 4, vI nn], aq_h m s F c)) rfl rfl ?_
    refine ae_icmp rfl (fun (q_2 : nn ≤ 4) => ?_) (fun (q_2 : 4 < nn) => ?_)
    · refine am_E.go (t2 := (13, [vR 0, vI nn], [vR 0], aq_h m s F c)) rfl rfl ?_
      refine aq_gf (v := vR 8) rfl (by omega) hC0 (by decide) rfl ?_
      show am_E _ (16, [vR 0, vI nn], [vR 8], aq_h m s F c) _
      refine am_E.go (t2 := (17, [vR 0, vI nn], [vI nn, vR 8], aq_h m s F c)) rfl rfl ?_
      refine aq_callv (y := 2) (as2 := [vI nn]) (rest := []) rfl rfl (by decide) (Nat.le_of_ble_eq_true rfl) rfl rfl (Nat.le_of_ble_eq_true rfl) (by omega) hFx rfl (Nat.le_of_ble_eq_true rfl) (qn_X1_begin (x := 8) ⟨hmx, hFx, hFl, hFw⟩) ?_
      rintro r5 h5 ⟨c_b, rfl, s_b, rfl, hb0, hb1⟩
      show am_E _ (20, [vR 0, vI nn], [], aq_h m s F c_b) _
      refine am_E.go (t2 := (21, [vR 0, vI nn], [vI 0], aq_h m s F c_b)) rfl rfl ?_
      refine am_E.ret rfl rfl ?_
      exact ⟨_, rfl, (aq_smt (aq_sm0 (S := fun a => a < 527)) (aq_smi s_b (fun b h => by omega))), cl_x hI s_b ⟨by omega, by omega, by omega, by omega, fun i h1 h2 => absurd h2 (by omega)⟩, Or.inl ⟨by omega, by omega, rfl, hb0, hb1⟩⟩
    · refine am_E.go (t2 := (11, [vR 0, vI nn], [vI (-1)], aq_h m s F c)) rfl rfl ?_
      refine am_E.ret rfl rfl ?_
      exact ⟨_, rfl, (aq_sm0 (S := fun a => a < 527)), hI, Or.inr ⟨by omega, rfl, rfl⟩⟩

theorem cr_app {x : Nat} {c d : aq_C} {l v : Int} (hl : cr_l x c) (h0 : l ≠ 0 ∧ -(c x 0) < l ∧ l < c x 0) (h : (v = 0 ∧ 8 ≤ c x 1 ∧ d = c) ∨ (v = 1 ∧ c x 1 < 8 ∧ d x 0 = c x 0 ∧ d x 1 = c x 1 + 1 ∧ d (x + 1) (c x 1) = l ∧ ∀ i, i ≠ c x 1 → d (x + 1) i = c (x + 1) i)) : cr_l x d := by
  obtain ⟨k0, k1, k2, k3, k4⟩ := hl
  rcases h with ⟨_, _, h⟩ | ⟨_, h1, h2, h3, h4, h5⟩
  · rw [h]
    exact ⟨k0, k1, k2, k3, k4⟩
  · refine ⟨by omega, by omega, by omega, by omega, fun i h6 h7 => ?_⟩
    by_cases e : i = c x 1
    · rw [e, h4, h2]
      exact h0
    · rw [h5 i e, h2]
      exact k4 i h6 (by omega)
theorem cr_drp {x : Nat} {c d : aq_C} {v : Int} (hl : cr_l x c) (h : (v = 0 ∧ c x 1 ≤ 0 ∧ d = c) ∨ (v = 1 ∧ 0 < c x 1 ∧ d x 0 = c x 0 ∧ d x 1 = c x 1 - 1 ∧ ∀ i, d (x + 1) i = c (x + 1) i)) : cr_l x d := by
  obtain ⟨k0, k1, k2, k3, k4⟩ := hl
  rcases h with ⟨_, _, h⟩ | ⟨_, h1, h2, h3, h5⟩
  · rw [h]
    exact ⟨k0, k1, k2, k3, k4⟩
  · refine ⟨by omega, by omega, by omega, by omega, fun i h6 h7 => ?_⟩
    rw [h5 i, h2]
    exact k4 i h6 (by omega)

theorem qn_X4_cross {m s : Nat} {F : aq_F} {c : aq_C} (hC : sb_C m F) (hI : cl_I c) {l : Int} : am_E ac_X4_cross (0, [vR 0, vI l], [], aq_h m s F c) (aq_Z m s F (fun a => a < 527) c (fun r d => cl_I d ∧ ((¬ (l ≠ 0 ∧ -(c 8 0) < l ∧ l < c 8 0) ∧ r = some (vI (-1)) ∧ d = c) ∨ ((l ≠ 0 ∧ -(c 8 0) < l ∧ l < c 8 0) ∧ 8 ≤ c 8 1 ∧ r = some (vI (-3)) ∧ d = c) ∨ ((l ≠ 0 ∧ -(c 8 0) < l ∧ l < c 8 0) ∧ c 8 1 < 8 ∧ r = some (vI (c 8 1 + 1)) ∧ d 8 0 = c 8 0 ∧ d 8 1 = c 8 1 + 1)))) := by
  obtain ⟨hCm, hC0, hC1, hC2, hC3, ⟨hma4, hFa4, hFn4, hFp4, hFf4⟩, ⟨hmx, hFx, hFl, hFw⟩, hCs, hCb, hCh⟩ := id hC
  obtain ⟨hx0, hx1, hx2, hx3, hx4⟩ := hI.2.1
  refine am_E.go (t2 := (1, [vR 0, vI l], [vR 0], aq_h m s F c)) rfl rfl ?_
  refine aq_gf (v := vR 8) rfl (by omega) hC0 (by decide) rfl ?_
  show am_E _ (4, [vR 0, vI l], [vR 8], aq_h m s F c) _
  refine am_E.go (t2 := (5, [vR 0, vI l], [vI l, vR 8], aq_h m s F c)) rfl rfl ?_
  refine aq_callv (y := 2) (as2 := [vI l]) (rest := []) rfl rfl (by decide) (Nat.le_of_ble_eq_true rfl) rfl rfl (Nat.le_of_ble_eq_true rfl) (by omega) hFx rfl (Nat.le_of_ble_eq_true rfl) (qn_X1_allows (x := 8) ⟨hmx, hFx, hFl, hFw⟩ (by omega) (by omega)) ?_
  rintro r5 h5 ⟨rfl, v_1, rfl, hv_1⟩
  show am_E _ (8, [vR 0, vI l], [vI v_1], aq_h m s F c) _
  refine ae_if0 rfl (fun (q_2 : v_1 ≠ 0) => ?_) (fun (q_2 : v_1 = 0) => ?_)
  · refine am_E.go (t2 := (14, [vR 0, vI l], [vR 0], aq_h m s F c)) rfl rfl ?_
    refine aq_gf (v := vR 8) rfl (by omega) hC0 (by decide) rfl ?_
    show am_E _ (17, [vR 0, vI l], [vR 8], aq_h m s F c) _
    refine am_E.go (t2 := (18, [vR 0, vI l], [vI l, vR 8], aq_h m s F c)) rfl rfl ?_
    refine aq_callv (y := 2) (as2 := [vI l]) (rest := []) rfl rfl (by decide) (Nat.le_of_ble_eq_true rfl) rfl rfl (Nat.le_of_ble_eq_true rfl) (by omega) hFx rfl (Nat.le_of_ble_eq_true rfl) (qn_X1_append (x := 8) ⟨hmx, hFx, hFl, hFw⟩ (by omega)) ?_
    rintro r5 h5 ⟨c_b, rfl, s_b, v_b, rfl, hq_b⟩
    show am_E _ (21, [vR 0, vI l], [vI v_b], aq_h m s F c_b) _
    refine ae_if0 rfl (fun (q_3 : v_b = 0) => ?_) (fun (q_3 : v_b ≠ 0) => ?_)
    · refine am_E.go (t2 := (36, [vR 0, vI l], [vI (-3)], aq_h m s F c_b)) rfl rfl ?_
      refine am_E.ret rfl rfl ?_
      have hl5 : (l ≠ 0 ∧ -(c 8 0) < l ∧ l < c 8 0) := by omega
      have hlb := cr_app hI.2.1 hl5 hq_b
      refine ⟨_, rfl, (aq_smt (aq_sm0 (S := fun a => a < 527)) (aq_smi s_b (fun b h => by omega))), cl_x hI s_b hlb, ?_⟩
      rcases hq_b with ⟨h1, h2, h3⟩ | ⟨h1, h2, h3, h4, h5, h6⟩
      · exact Or.inr (Or.inl ⟨hl5, h2, rfl, h3⟩)
      · exfalso; omega
    · refine am_E.go (t2 := (25, [vR 0, vI l], [vR 0], aq_h m s F c_b)) rfl rfl ?_
      refine aq_gf (v := vR 8) rfl (by omega) hC0 (by decide) rfl ?_
      show am_E _ (28, [vR 0, vI l], [vR 8], aq_h m s F c_b) _
      refine aq_gf (v := vI (c_b 8 1)) rfl (by omega) hFx (by decide) rfl ?_
      show am_E _ (31, [vR 0, vI l], [vI (c_b 8 1)], aq_h m s F c_b) _
      refine am_E.go (t2 := (36, [vR 0, vI l], [vI (c_b 8 1)], aq_h m s F c_b)) rfl rfl ?_
      refine am_E.ret rfl rfl ?_
      have hl5 : (l ≠ 0 ∧ -(c 8 0) < l ∧ l < c 8 0) := by omega
      have hlb := cr_app hI.2.1 hl5 hq_b
      refine ⟨_, rfl, (aq_smt (aq_sm0 (S := fun a => a < 527)) (aq_smi s_b (fun b h => by omega))), cl_x hI s_b hlb, ?_⟩
      rcases hq_b with ⟨h1, h2, h3⟩ | ⟨h1, h2, h3, h4, h5, h6⟩
      · exfalso; omega
      · exact Or.inr (Or.inr ⟨hl5, h2, by rw [h4], h3, h4⟩)
  · refine am_E.go (t2 := (12, [vR 0, vI l], [vI (-1)], aq_h m s F c)) rfl rfl ?_
    refine am_E.ret rfl rfl ?_
    exact ⟨_, rfl, (aq_sm0 (S := fun a => a < 527)), hI, Or.inl ⟨by omega, rfl, rfl⟩⟩

theorem qn_X4_back {m s : Nat} {F : aq_F} {c : aq_C} (hC : sb_C m F) (hI : cl_I c) : am_E ac_X4_back (0, [vR 0], [], aq_h m s F c) (aq_Z m s F (fun a => a < 527) c (fun r d => cl_I d ∧ ((c 8 1 ≤ 0 ∧ r = some (vI (-2)) ∧ d = c) ∨ (0 < c 8 1 ∧ r = some (vI (c 8 1 - 1)) ∧ d 8 0 = c 8 0 ∧ d 8 1 = c 8 1 - 1)))) := by
  obtain ⟨hCm, hC0, hC1, hC2, hC3, ⟨hma4, hFa4, hFn4, hFp4, hFf4⟩, ⟨hmx, hFx, hFl, hFw⟩, hCs, hCb, hCh⟩ := id hC
  obtain ⟨hx0, hx1, hx2, hx3, hx4⟩ := hI.2.1
  refine am_E.go (t2 := (1, [vR 0], [vR 0], aq_h m s F c)) rfl rfl ?_
  refine aq_gf (v := vR 8) rfl (by omega) hC0 (by decide) rfl ?_
  show am_E _ (4, [vR 0], [vR 8], aq_h m s F c) _
  refine aq_callv (y := 1) (as2 := []) (rest := []) rfl rfl (by decide) (Nat.le_of_ble_eq_true rfl) rfl rfl (Nat.le_of_ble_eq_true rfl) (by omega) hFx rfl (Nat.le_of_ble_eq_true rfl) (qn_X1_dropLast (x := 8) ⟨hmx, hFx, hFl, hFw⟩ (by omega) (by omega)) ?_
  rintro r5 h5 ⟨c_b, rfl, s_b, v_b, rfl, hq_b⟩
  show am_E _ (7, [vR 0], [vI v_b], aq_h m s F c_b) _
  refine ae_if0 rfl (fun (q_1 : v_b = 0) => ?_) (fun (q_1 : v_b ≠ 0) => ?_)
  · refine am_E.go (t2 := (22, [vR 0], [vI (-2)], aq_h m s F c_b)) rfl rfl ?_
    refine am_E.ret rfl rfl ?_
    have hlb := cr_drp hI.2.1 hq_b
    refine ⟨_, rfl, (aq_smt (aq_sm0 (S := fun a => a < 527)) (aq_smi s_b (fun b h => by omega))), cl_x hI s_b hlb, ?_⟩
    rcases hq_b with ⟨h1, h2, h3⟩ | ⟨h1, h2, h3, h4, h5⟩
    · exact Or.inl ⟨h2, rfl, h3⟩
    · exfalso; omega
  · refine am_E.go (t2 := (11, [vR 0], [vR 0], aq_h m s F c_b)) rfl rfl ?_
    refine aq_gf (v := vR 8) rfl (by omega) hC0 (by decide) rfl ?_
    show am_E _ (14, [vR 0], [vR 8], aq_h m s F c_b) _
    refine aq_gf (v := vI (c_b 8 1)) rfl (by omega) hFx (by decide) rfl ?_
    show am_E _ (17, [vR 0], [vI (c_b 8 1)], aq_h m s F c_b) _
    refine am_E.go (t2 := (22, [vR 0], [vI (c_b 8 1)], aq_h m s F c_b)) rfl rfl ?_
    refine am_E.ret rfl rfl ?_
    have hlb := cr_drp hI.2.1 hq_b
    refine ⟨_, rfl, (aq_smt (aq_sm0 (S := fun a => a < 527)) (aq_smi s_b (fun b h => by omega))), cl_x hI s_b hlb, ?_⟩
    rcases hq_b with ⟨h1, h2, h3⟩ | ⟨h1, h2, h3, h4, h5⟩
    · exfalso; omega
    · exact Or.inr ⟨h2, by rw [h4], h3, h4⟩

theorem cl_p {c d : aq_C} {j : Nat} (hI : cl_I c) (hj : j < 4) (hs : aq_sm (fun a => (a = 10 ∨ a = sb_o j + 6 + 3 * sb_K j ∨ a = sb_o j + 7 + 3 * sb_K j) ∨ a = 8) c d) (hr : aq_rg (sb_o j + 6 + 3 * sb_K j) (2 * ((j + 1 : Nat) : Int)) 0 (2 * ((j + 1 : Nat) : Int)) d) (h0 : d 8 0 = c 8 0) (h1 : d 8 1 = c 8 1) (h2 : ∀ i, d (8 + 1) i = c (8 + 1) i) : cl_I d := by
  have hb := sb_bnd j hj
  refine ⟨fun i hi => ?_, ?_, fun i hi => sb_uc (hs _ (by omega)) (hs _ (by omega)) (hs _ (by omega)) (hI.2.2 i hi)⟩
  · by_cases e : i = j
    · subst e
      exact hr
    · have h5 := sb_dis i hi j hj e
      have h6 := sb_bnd i hi
      exact aq_rgs (hI.1 i hi) hs (by omega)
  · have h7 := hI.2.1
    unfold cr_l at *
    rw [h0, h1]
    simp only [h2]
    exact h7
/-! Pairings of 2 n points, and one drawn above another. -/
def fi (n : Int) (f : Int → Int) : Prop := ∀ p, 0 ≤ p → p < 2 * n → 0 ≤ f p ∧ f p < 2 * n ∧ f p ≠ p ∧ f (f p) = p
/-- where the strand from p ends: f above, g beneath; true: f is next -/
def ldr (n : Int) (f g : Int → Int) : Nat → Bool → Int → Int
  | 0, _, p => p
  | d + 1, true, p => if n ≤ f p then ldr n f g d false (f p - n) else f p
  | d + 1, false, p => if g p < n then ldr n f g d true (n + g p) else g p
/-- it ends in so many steps -/
def exd (n : Int) (f g : Int → Int) : Nat → Bool → Int → Prop
  | 0, _, _ => False
  | d + 1, true, p => n ≤ f p → exd n f g d false (f p - n)
  | d + 1, false, p => g p < n → exd n f g d true (n + g p)
/-- the places between, on the way, are met -/
def mkd (n : Int) (f g w : Int → Int) : Nat → Bool → Int → Prop
  | 0, _, _ => True
  | d + 1, true, p => n ≤ f p → w (f p - n) = 1 ∧ mkd n f g w d false (f p - n)
  | d + 1, false, p => g p < n → w (g p) = 1 ∧ mkd n f g w d true (n + g p)
section FI
variable {n : Int} {f g : Int → Int}
theorem ld_exu (hn : n ≤ 4) (hf : fi n f) (hg : fi n g) {p : Int} (h0 : 0 ≤ p) (h1 : p < n) : exd n f g 5 true p := by
  intro k1
  intro k2
  intro k3
  intro k4
  intro k5
  have a1 := hf p h0 (by omega)
  generalize ea : f p = a at *
  have b1 := hg (a - n) (by omega) (by omega)
  generalize eb : g (a - n) = b at *
  have c1 := hf (n + b) (by omega) (by omega)
  generalize ec : f (n + b) = c at *
  have d1 := hg (c - n) (by omega) (by omega)
  generalize ed : g (c - n) = d at *
  have e1 := hf (n + d) (by omega) (by omega)
  generalize ee : f (n + d) = e at *
  obtain ⟨_, _, a3, a4⟩ := a1
  obtain ⟨_, _, b3, b4⟩ := b1
  obtain ⟨_, _, c3, c4⟩ := c1
  obtain ⟨_, _, d3, d4⟩ := d1
  obtain ⟨_, _, e3, e4⟩ := e1
  have x1 : c ≠ a := fun h => by rw [h, a4] at c4; omega
  have x2 : d ≠ b := fun h => by rw [h, b4] at d4; omega
  have x3 : d ≠ a - n := fun h => by rw [h, eb] at d4; omega
  have x4 : e ≠ c := fun h => by rw [h, c4] at e4; omega
  have x5 : e ≠ n + b := fun h => by rw [h, ec] at e4; omega
  have x6 : e ≠ a := fun h => by rw [h, a4] at e4; omega
  omega
theorem ld_exl (hn : n ≤ 4) (hf : fi n f) (hg : fi n g) {p : Int} (h0 : n ≤ p) (h1 : p < 2 * n) : exd n f g 5 false p := by
  intro k1
  intro k2
  intro k3
  intro k4
  intro k5
  have a1 := hg p (by omega) (by omega)
  generalize ea : g p = a at *
  have b1 := hf (n + a) (by omega) (by omega)
  generalize eb : f (n + a) = b at *
  have c1 := hg (b - n) (by omega) (by omega)
  generalize ec : g (b - n) = c at *
  have d1 := hf (n + c) (by omega) (by omega)
  generalize ed : f (n + c) = d at *
  have e1 := hg (d - n) (by omega) (by omega)
  generalize ee : g (d - n) = e at *
  obtain ⟨_, _, a3, a4⟩ := a1
  obtain ⟨_, _, b3, b4⟩ := b1
  obtain ⟨_, _, c3, c4⟩ := c1
  obtain ⟨_, _, d3, d4⟩ := d1
  obtain ⟨_, _, e3, e4⟩ := e1
  have x1 : c ≠ a := fun h => by rw [h, a4] at c4; omega
  have x2 : d ≠ b := fun h => by rw [h, b4] at d4; omega
  have x3 : d ≠ n + a := fun h => by rw [h, eb] at d4; omega
  have x4 : e ≠ c := fun h => by rw [h, c4] at e4; omega
  have x5 : e ≠ b - n := fun h => by rw [h, ec] at e4; omega
  have x6 : e ≠ a := fun h => by rw [h, a4] at e4; omega
  omega
/-- the pairing of the two, one above the other -/
def fst_ (n : Int) (f g : Int → Int) (p : Int) : Int := ldr n f g 5 (decide (p < n)) p
theorem fi_u (hn : n ≤ 4) (hf : fi n f) (hg : fi n g) {p : Int} (h0 : 0 ≤ p) (h1 : p < n) : 0 ≤ fst_ n f g p ∧ fst_ n f g p < 2 * n ∧ fst_ n f g p ≠ p ∧ fst_ n f g (fst_ n f g p) = p := by
  have hx := ld_exu hn hf hg h0 h1
  have e0 : fst_ n f g p = ldr n f g 5 true p := by
    unfold fst_
    rw [decide_eq_true h1]
  rw [e0]
  have a1 := hf p h0 (by omega)
  simp only [ldr, exd] at hx ⊢
  by_cases k1 : n ≤ f p
  · simp only [if_pos k1]
    have hx1 := hx k1
    generalize ea : f p = a at *
    have b1 := hg (a - n) (by omega) (by omega)
    by_cases k2 : g (a - n) < n
    · simp only [if_pos k2]
      have hx2 := hx1 k2
      generalize eb : g (a - n) = b at *
      have c1 := hf (n + b) (by omega) (by omega)
      by_cases k3 : n ≤ f (n + b)
      · simp only [if_pos k3]
        have hx3 := hx2 k3
        generalize ec : f (n + b) = c at *
        have d1 := hg (c - n) (by omega) (by omega)
        by_cases k4 : g (c - n) < n
        · simp only [if_pos k4]
          have hx4 := hx3 k4
          generalize ed : g (c - n) = d at *
          have e1 := hf (n + d) (by omega) (by omega)
          by_cases k5 : n ≤ f (n + d)
          · exact absurd k5 hx4
          · simp only [if_neg k5]
            generalize ee : f (n + d) = e at *
            obtain ⟨_, _, a3, a4⟩ := a1
            obtain ⟨_, _, b3, b4⟩ := b1
            obtain ⟨_, _, c3, c4⟩ := c1
            obtain ⟨_, _, d3, d4⟩ := d1
            obtain ⟨_, _, e3, e4⟩ := e1
            have x3 : d ≠ a - n := fun h => by
              have x1 : c ≠ a := fun h => by rw [h, a4] at c4; omega
              rw [h, eb] at d4
              omega
            refine ⟨by omega, by omega, fun h => ?_, ?_⟩
            · rw [h, ea] at e4
              omega
            · unfold fst_
              rw [decide_eq_true (show e < n by omega)]
              simp only [ldr, e4, if_pos (show n ≤ n + d by omega), show n + d - n = d by omega, d4, if_pos (show c - n < n by omega), show n + (c - n) = c by omega, c4, if_pos (show n ≤ n + b by omega), show n + b - n = b by omega, b4, if_pos (show a - n < n by omega), show n + (a - n) = a by omega, a4, if_neg (show ¬ n ≤ p by omega)]
        · simp only [if_neg k4]
          generalize ed : g (c - n) = d at *
          obtain ⟨_, _, a3, a4⟩ := a1
          obtain ⟨_, _, b3, b4⟩ := b1
          obtain ⟨_, _, c3, c4⟩ := c1
          obtain ⟨_, _, d3, d4⟩ := d1
          refine ⟨by omega, by omega, by omega, ?_⟩
          unfold fst_
          rw [decide_eq_false (show ¬ d < n by omega)]
          simp only [ldr, d4, if_pos (show c - n < n by omega), show n + (c - n) = c by omega, c4, if_pos (show n ≤ n + b by omega), show n + b - n = b by omega, b4, if_pos (show a - n < n by omega), show n + (a - n) = a by omega, a4, if_neg (show ¬ n ≤ p by omega)]
      · simp only [if_neg k3]
        generalize ec : f (n + b) = c at *
        obtain ⟨_, _, a3, a4⟩ := a1
        obtain ⟨_, _, b3, b4⟩ := b1
        obtain ⟨_, _, c3, c4⟩ := c1
        refine ⟨by omega, by omega, fun h => ?_, ?_⟩
        · rw [h, ea] at c4
          omega
        · unfold fst_
          rw [decide_eq_true (show c < n by omega)]
          simp only [ldr, c4, if_pos (show n ≤ n + b by omega), show n + b - n = b by omega, b4, if_pos (show a - n < n by omega), show n + (a - n) = a by omega, a4, if_neg (show ¬ n ≤ p by omega)]
    · simp only [if_neg k2]
      generalize eb : g (a - n) = b at *
      obtain ⟨_, _, a3, a4⟩ := a1
      obtain ⟨_, _, b3, b4⟩ := b1
      refine ⟨by omega, by omega, by omega, ?_⟩
      unfold fst_
      rw [decide_eq_false (show ¬ b < n by omega)]
      simp only [ldr, b4, if_pos (show a - n < n by omega), show n + (a - n) = a by omega, a4, if_neg (show ¬ n ≤ p by omega)]
  · simp only [if_neg k1]
    obtain ⟨a2, _, a3, a4⟩ := a1
    refine ⟨by omega, by omega, a3, ?_⟩
    unfold fst_
    rw [decide_eq_true (show f p < n by omega)]
    simp only [ldr, a4, if_neg (show ¬ n ≤ p by omega)]
end FI
/-! Pairings: from beneath; together they are a pairing. -/
section FI
variable {n : Int} {f g : Int → Int}
theorem fi_l (hn : n ≤ 4) (hf : fi n f) (hg : fi n g) {p : Int} (h0 : n ≤ p) (h1 : p < 2 * n) : 0 ≤ fst_ n f g p ∧ fst_ n f g p < 2 * n ∧ fst_ n f g p ≠ p ∧ fst_ n f g (fst_ n f g p) = p := by
  have hx := ld_exl hn hf hg h0 h1
  have e0 : fst_ n f g p = ldr n f g 5 false p := by
    unfold fst_
    rw [decide_eq_false (show ¬ p < n by omega)]
  rw [e0]
  have a1 := hg p (by omega) (by omega)
  simp only [ldr, exd] at hx ⊢
  by_cases k1 : g p < n
  · simp only [if_pos k1]
    have hx1 := hx k1
    generalize ea : g p = a at *
    have b1 := hf (n + a) (by omega) (by omega)
    by_cases k2 : n ≤ f (n + a)
    · simp only [if_pos k2]
      have hx2 := hx1 k2
      generalize eb : f (n + a) = b at *
      have c1 := hg (b - n) (by omega) (by omega)
      by_cases k3 : g (b - n) < n
      · simp only [if_pos k3]
        have hx3 := hx2 k3
        generalize ec : g (b - n) = c at *
        have d1 := hf (n + c) (by omega) (by omega)
        by_cases k4 : n ≤ f (n + c)
        · simp only [if_pos k4]
          have hx4 := hx3 k4
          generalize ed : f (n + c) = d at *
          have e1 := hg (d - n) (by omega) (by omega)
          by_cases k5 : g (d - n) < n
          · exact absurd k5 hx4
          · simp only [if_neg k5]
            generalize ee : g (d - n) = e at *
            obtain ⟨_, _, a3, a4⟩ := a1
            obtain ⟨_, _, b3, b4⟩ := b1
            obtain ⟨_, _, c3, c4⟩ := c1
            obtain ⟨_, _, d3, d4⟩ := d1
            obtain ⟨_, _, e3, e4⟩ := e1
            have x1 : c ≠ a := fun h => by rw [h, a4] at c4; omega
            have x3 : d - n ≠ a := fun h => by
              have h9 : d = n + a := by omega
              rw [h9, eb] at d4
              omega
            refine ⟨by omega, by omega, fun h => ?_, ?_⟩
            · rw [h, ea] at e4
              omega
            · unfold fst_
              rw [decide_eq_false (show ¬ e < n by omega)]
              simp only [ldr, e4, if_pos (show d - n < n by omega), show n + (d - n) = d by omega, d4, if_pos (show n ≤ n + c by omega), show n + c - n = c by omega, c4, if_pos (show b - n < n by omega), show n + (b - n) = b by omega, b4, if_pos (show n ≤ n + a by omega), show n + a - n = a by omega, a4, if_neg (show ¬ p < n by omega)]
        · simp only [if_neg k4]
          generalize ed : f (n + c) = d at *
          obtain ⟨_, _, a3, a4⟩ := a1
          obtain ⟨_, _, b3, b4⟩ := b1
          obtain ⟨_, _, c3, c4⟩ := c1
          obtain ⟨_, _, d3, d4⟩ := d1
          refine ⟨by omega, by omega, by omega, ?_⟩
          unfold fst_
          rw [decide_eq_true (show d < n by omega)]
          simp only [ldr, d4, if_pos (show n ≤ n + c by omega), show n + c - n = c by omega, c4, if_pos (show b - n < n by omega), show n + (b - n) = b by omega, b4, if_pos (show n ≤ n + a by omega), show n + a - n = a by omega, a4, if_neg (show ¬ p < n by omega)]
      · simp only [if_neg k3]
        generalize ec : g (b - n) = c at *
        obtain ⟨_, _, a3, a4⟩ := a1
        obtain ⟨_, _, b3, b4⟩ := b1
        obtain ⟨_, _, c3, c4⟩ := c1
        refine ⟨by omega, by omega, fun h => ?_, ?_⟩
        · rw [h, ea] at c4
          omega
        · unfold fst_
          rw [decide_eq_false (show ¬ c < n by omega)]
          simp only [ldr, c4, if_pos (show b - n < n by omega), show n + (b - n) = b by omega, b4, if_pos (show n ≤ n + a by omega), show n + a - n = a by omega, a4, if_neg (show ¬ p < n by omega)]
    · simp only [if_neg k2]
      generalize eb : f (n + a) = b at *
      obtain ⟨_, _, a3, a4⟩ := a1
      obtain ⟨_, _, b3, b4⟩ := b1
      refine ⟨by omega, by omega, by omega, ?_⟩
      unfold fst_
      rw [decide_eq_true (show b < n by omega)]
      simp only [ldr, b4, if_pos (show n ≤ n + a by omega), show n + a - n = a by omega, a4, if_neg (show ¬ p < n by omega)]
  · simp only [if_neg k1]
    obtain ⟨a2, _, a3, a4⟩ := a1
    refine ⟨by omega, by omega, a3, ?_⟩
    unfold fst_
    rw [decide_eq_false (show ¬ g p < n by omega)]
    simp only [ldr, a4, if_neg (show ¬ p < n by omega)]
theorem fi_st (hn : n ≤ 4) (hf : fi n f) (hg : fi n g) : fi n (fst_ n f g) := fun p h0 h1 => by
  by_cases h : p < n
  · exact fi_u hn hf hg h0 h
  · exact fi_l hn hf hg (by omega) h1
theorem ld_ex (hn : n ≤ 4) (hf : fi n f) (hg : fi n g) {p : Int} (h0 : 0 ≤ p) (h1 : p < 2 * n) : exd n f g 5 (decide (p < n)) p := by
  by_cases h : p < n
  · rw [decide_eq_true h]
    exact ld_exu hn hf hg h0 h
  · rw [decide_eq_false h]
    exact ld_exl hn hf hg (by omega) h1
/-- a place between that no strand from outside meets lies on a ring of two or of four places -/
theorem mk_ring (hn : n ≤ 4) (hf : fi n f) (hg : fi n g) {w : Int → Int} (hw : ∀ p, 0 ≤ p → p < 2 * n → mkd n f g w 5 (decide (p < n)) p) {m : Int} (h0 : 0 ≤ m) (h1 : m < n) (hm : w m ≠ 1) :
    g m < n ∧ n ≤ f (n + g m) ∧ (f (n + g m) - n = m ∨ (g (f (n + g m) - n) < n ∧ n ≤ f (n + g (f (n + g m) - n)) ∧ f (n + g (f (n + g m) - n)) - n = m)) := by
  have a1 := hg m h0 (by omega)
  have k1 : g m < n := by
    by_cases h : g m < n
    · exact h
    · exfalso
      have h2 := hw (g m) (by omega) (by omega)
      rw [decide_eq_false h] at h2
      simp only [mkd, a1.2.2.2] at h2
      exact hm (h2 h1).1
  generalize ea : g m = a at *
  obtain ⟨_, _, a3, a4⟩ := a1
  have b1 := hf (n + a) (by omega) (by omega)
  have k2 : n ≤ f (n + a) := by
    by_cases h : n ≤ f (n + a)
    · exact h
    · exfalso
      have h2 := hw (f (n + a)) (by omega) (by omega)
      rw [decide_eq_true (show f (n + a) < n by omega)] at h2
      simp only [mkd, b1.2.2.2, show n + a - n = a by omega, a4] at h2
      exact hm ((h2 (by omega)).2 h1).1
  refine ⟨k1, k2, ?_⟩
  generalize eb : f (n + a) = b at *
  obtain ⟨_, _, b3, b4⟩ := b1
  by_cases e : b - n = m
  · exact Or.inl e
  · refine Or.inr ?_
    have c1 := hg (b - n) (by omega) (by omega)
    have k3 : g (b - n) < n := by
      by_cases h : g (b - n) < n
      · exact h
      · exfalso
        have h2 := hw (g (b - n)) (by omega) (by omega)
        rw [decide_eq_false h] at h2
        simp only [mkd, c1.2.2.2, show n + (b - n) = b by omega, b4, show n + a - n = a by omega, a4] at h2
        exact hm (((h2 (by omega)).2 (by omega)).2 h1).1
    generalize ec : g (b - n) = c at *
    obtain ⟨_, _, c3, c4⟩ := c1
    have d1 := hf (n + c) (by omega) (by omega)
    have k4 : n ≤ f (n + c) := by
      by_cases h : n ≤ f (n + c)
      · exact h
      · exfalso
        have h2 := hw (f (n + c)) (by omega) (by omega)
        rw [decide_eq_true (show f (n + c) < n by omega)] at h2
        simp only [mkd, d1.2.2.2, show n + c - n = c by omega, c4, show n + (b - n) = b by omega, b4, show n + a - n = a by omega, a4] at h2
        exact hm ((((h2 (by omega)).2 (by omega)).2 (by omega)).2 h1).1
    refine ⟨k3, k4, ?_⟩
    generalize ed : f (n + c) = d at *
    obtain ⟨_, _, d3, d4⟩ := d1
    have x1 : c ≠ a := fun h => by
      rw [h, a4] at c4
      omega
    have x2 : c ≠ m := fun h => by
      rw [h, ea] at c4
      omega
    have x3 : d ≠ b := fun h => by
      rw [h, b4] at d4
      omega
    have x4 : d ≠ n + a := fun h => by
      rw [h, eb] at d4
      omega
    omega
end FI
