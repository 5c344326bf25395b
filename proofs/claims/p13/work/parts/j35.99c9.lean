/-! The class: the answers of form. Printed by wip/p20/sx/gEF.py. -/

/-- the forms of the halves -/
def fo_l (n t : Int) : List (List Int) := if n = 1 ∧ t = 0 then [] else if n = 1 ∧ t = 1 then [[0]] else if n = 2 ∧ t = 0 then [[1]] else if n = 2 ∧ t = 1 then [] else if n = 2 ∧ t = 2 then [[0]] else if n = 3 ∧ t = 0 then [] else if n = 3 ∧ t = 1 then [[1, 0], [0, 1]] else if n = 3 ∧ t = 2 then [] else if n = 3 ∧ t = 3 then [[0]] else if n = 4 ∧ t = 0 then [[2, 1], [1, 2]] else if n = 4 ∧ t = 1 then [] else if n = 4 ∧ t = 2 then [[1, 0, -4], [0, 1, 0], [-4, 0, 1]] else if n = 4 ∧ t = 3 then [] else if n = 4 ∧ t = 4 then [[0]] else []

def fo_v (n t i j : Int) : Int := ((fo_l n t).getD i.toNat []).getD j.toNat 0
/-- the answer of form -/
def fm_a (n t i j : Int) : Int := if (1 ≤ n ∧ n ≤ 4 ∧ 0 ≤ t ∧ t ≤ n) ∧ (0 ≤ i ∧ i < hv_N n t) ∧ 0 ≤ j ∧ j < hv_N n t then fo_v n t i j else -1
/-- find -/
def fi_ (z t i : Int) (tl : Int → Int) : Nat → Int → Int → Int
  | 0, _, _ => -1
  | d + 1, h, x => if h < z then (if tl h = t then (if x = i then h else fi_ z t i tl d (h + 1) (x + 1)) else fi_ z t i tl d (h + 1) x) else -1
theorem fi_c2 {z t i : Int} {f g : Int → Int} (h : ∀ q, 0 ≤ q → q < z → f q = g q) : ∀ (d : Nat) (p x : Int), 0 ≤ p → fi_ z t i f d p x = fi_ z t i g d p x
  | 0, _, _, _ => rfl
  | d + 1, p, x, hp => by
    rw [fi_, fi_]
    by_cases e : p < z
    · rw [if_pos e, if_pos e, h p hp e, fi_c2 h d (p + 1) _ (by omega), fi_c2 h d (p + 1) _ (by omega)]
    · rw [if_neg e, if_neg e]
/-- leadsOut, goRound, lay -/
def lo_ (n : Int) (x y : Int → Int) : Nat → Int → Int → (Int → Int) → Int × (Int → Int)
  | 0, _, _, w => (0, w)
  | d + 1, k, a, w => if k < n then (if y a = n then (1, dc_u w a) else if x (y a) = n then (0, dc_u (dc_u w a) (y a)) else lo_ n x y d (k + 1) (x (y a)) (dc_u (dc_u w a) (y a))) else (0, w)
def gr_ (n : Int) (x y : Int → Int) : Nat → Int → Int → (Int → Int) → (Int → Int)
  | 0, _, _, w => w
  | d + 1, k, a, w => if k < n ∧ a < n ∧ w a = 0 then (if y a < n then gr_ n x y d (k + 1) (x (y a)) (dc_u (dc_u w a) (y a)) else gr_ n x y d (k + 1) a (dc_u w a)) else w
def l3_ (n : Int) (x y : Int → Int) : Nat → Int → Int → (Int → Int) → Int
  | 0, _, f, _ => f
  | d + 1, p, f, w => if p < n then (if w p = 0 then l3_ n x y d (p + 1) (f + 1) (gr_ n x y 7 0 p w) else l3_ n x y d (p + 1) f w) else f
def l2_ (n : Int) (x y : Int → Int) : Nat → Int → (Int → Int) → Int
  | 0, _, _ => 0
  | d + 1, p, w => if p < n then (if x p = n then (if (lo_ n x y 7 0 p w).1 = 0 then -4 else l2_ n x y d (p + 1) (lo_ n x y 7 0 p w).2) else l2_ n x y d (p + 1) w) else l3_ n x y 7 0 0 w
theorem lo_b {n : Int} {x y : Int → Int} : ∀ (d : Nat) (k a : Int) (w : Int → Int), (lo_ n x y d k a w).1 = 0 ∨ (lo_ n x y d k a w).1 = 1
  | 0, _, _, _ => Or.inl rfl
  | d + 1, k, a, w => by
    rw [lo_]
    (repeat' split)
    · exact Or.inr rfl
    · exact Or.inl rfl
    · exact lo_b d _ _ _
    · exact Or.inl rfl
def fo_ck (n : Int) : Bool := (List.range (n.toNat + 1)).all (fun t => (List.range (hv_N n t).toNat).all (fun i => (List.range (hv_N n t).toNat).all (fun j => decide (l2_ n (hx_d n (fi_ (hx_z n) t i (hx_l n) 7 0 0)) (hx_d n (fi_ (hx_z n) t j (hx_l n) 7 0 0)) 7 0 (fun _ => 0) = fo_v n t i j) && decide (0 ≤ fi_ (hx_z n) t i (hx_l n) 7 0 0 ∧ fi_ (hx_z n) t i (hx_l n) 7 0 0 < hx_z n))))
theorem fo_k1 : fo_ck 1 = true := by decide +kernel
theorem fo_k2 : fo_ck 2 = true := by decide +kernel
theorem fo_k3 : fo_ck 3 = true := by decide +kernel
theorem fo_k4 : fo_ck 4 = true := by decide +kernel
theorem fo_kn {n t i j : Int} (h1 : 1 ≤ n) (h4 : n ≤ 4) (t0 : 0 ≤ t) (t1 : t ≤ n) (i0 : 0 ≤ i) (i1 : i < hv_N n t) (j0 : 0 ≤ j) (j1 : j < hv_N n t) : l2_ n (hx_d n (fi_ (hx_z n) t i (hx_l n) 7 0 0)) (hx_d n (fi_ (hx_z n) t j (hx_l n) 7 0 0)) 7 0 (fun _ => 0) = fo_v n t i j ∧ 0 ≤ fi_ (hx_z n) t i (hx_l n) 7 0 0 ∧ fi_ (hx_z n) t i (hx_l n) 7 0 0 < hx_z n := by
  have hk : fo_ck n = true := by
    have hn : n = 1 ∨ n = 2 ∨ n = 3 ∨ n = 4 := by omega
    rcases hn with hn | hn | hn | hn <;> subst hn
    · exact fo_k1
    · exact fo_k2
    · exact fo_k3
    · exact fo_k4
  have et : ((t.toNat : Nat) : Int) = t := Int.toNat_of_nonneg t0
  have a := List.all_eq_true.mp hk t.toNat (List.mem_range.mpr (by omega))
  rw [et] at a
  have b := List.all_eq_true.mp a i.toNat (List.mem_range.mpr (by omega))
  have c := List.all_eq_true.mp b j.toNat (List.mem_range.mpr (by omega))
  rw [Int.toNat_of_nonneg i0, Int.toNat_of_nonneg j0] at c
  simp only [Bool.and_eq_true, decide_eq_true_eq] at c
  exact c
theorem cl_ta {z t : Int} {f : Int → Int} : ∀ (d : Nat) (h x : Int), cl_t z t f d h x = x + cl_t z t f d h 0
  | 0, h, x => by
    rw [cl_t, cl_t]
    omega
  | d + 1, h, x => by
    rw [cl_t, cl_t]
    by_cases e : h < z
    · rw [if_pos e, if_pos e, cl_ta d (h + 1) (x + _), cl_ta d (h + 1) (0 + _)]
      omega
    · rw [if_neg e, if_neg e]
      omega
theorem cl_t0 {z t : Int} {f : Int → Int} : ∀ (d : Nat) (h : Int), 0 ≤ cl_t z t f d h 0
  | 0, _ => Int.le_refl 0
  | d + 1, h => by
    rw [cl_t]
    by_cases e : h < z
    · rw [if_pos e, cl_ta]
      have := cl_t0 (z := z) (t := t) (f := f) d (h + 1)
      split <;> omega
    · rw [if_neg e]
      exact Int.le_refl 0
/-- no such half: nothing is found -/
theorem fi_no {z t i : Int} {f : Int → Int} : ∀ (d : Nat) (h x : Int), (i < x ∨ x + cl_t z t f d h 0 ≤ i) → fi_ z t i f d h x = -1
  | 0, _, _, _ => rfl
  | d + 1, h, x, hi => by
    rw [cl_t] at hi
    rw [fi_]
    by_cases e : h < z
    · rw [if_pos e, cl_ta] at hi
      rw [if_pos e]
      have h0 := cl_t0 (z := z) (t := t) (f := f) d (h + 1)
      by_cases e2 : f h = t
      · rw [if_pos e2] at hi
        rw [if_pos e2, if_neg (by omega)]
        exact fi_no d (h + 1) (x + 1) (by omega)
      · rw [if_neg e2] at hi
        rw [if_neg e2]
        exact fi_no d (h + 1) x (by omega)
    · rw [if_neg e]
theorem fi_b2 {z t i : Int} {f : Int → Int} : ∀ (d : Nat) (h x : Int), fi_ z t i f d h x = -1 ∨ (h ≤ fi_ z t i f d h x ∧ fi_ z t i f d h x < z)
  | 0, _, _ => Or.inl rfl
  | d + 1, h, x => by
    rw [fi_]
    by_cases e : h < z
    · rw [if_pos e]
      have r1 := fi_b2 (z := z) (t := t) (i := i) (f := f) d (h + 1) (x + 1)
      have r2 := fi_b2 (z := z) (t := t) (i := i) (f := f) d (h + 1) x
      (repeat' split) <;> omega
    · rw [if_neg e]
      exact Or.inl rfl
section LC
variable {n : Int} {x y x2 y2 : Int → Int}
theorem lo_c (hx : ∀ p, 0 ≤ p → p < n → x p = x2 p) (hy : ∀ p, 0 ≤ p → p < n → y p = y2 p) (rx : ∀ p, 0 ≤ p → p < n → 0 ≤ x2 p ∧ x2 p ≤ n) (ry : ∀ p, 0 ≤ p → p < n → 0 ≤ y2 p ∧ y2 p ≤ n) : ∀ (d : Nat) (k a : Int) (w : Int → Int), 0 ≤ a → a < n → lo_ n x y d k a w = lo_ n x2 y2 d k a w
  | 0, _, _, _, _, _ => rfl
  | d + 1, k, a, w, h0, h1 => by
    rw [lo_, lo_, hy a h0 h1]
    by_cases e : k < n
    · rw [if_pos e, if_pos e]
      by_cases e2 : y2 a = n
      · rw [if_pos e2, if_pos e2]
      · have r := ry a h0 h1
        have r2 := rx (y2 a) r.1 (by omega)
        rw [if_neg e2, if_neg e2, hx (y2 a) r.1 (by omega)]
        by_cases e3 : x2 (y2 a) = n
        · rw [if_pos e3, if_pos e3]
        · rw [if_neg e3, if_neg e3]
          exact lo_c hx hy rx ry d (k + 1) _ _ r2.1 (by omega)
    · rw [if_neg e, if_neg e]
theorem gr_c (hx : ∀ p, 0 ≤ p → p < n → x p = x2 p) (hy : ∀ p, 0 ≤ p → p < n → y p = y2 p) (rx : ∀ p, 0 ≤ p → p < n → 0 ≤ x2 p ∧ x2 p ≤ n) (ry : ∀ p, 0 ≤ p → p < n → 0 ≤ y2 p ∧ y2 p ≤ n) : ∀ (d : Nat) (k a : Int) (w : Int → Int), 0 ≤ a → gr_ n x y d k a w = gr_ n x2 y2 d k a w
  | 0, _, _, _, _ => rfl
  | d + 1, k, a, w, h0 => by
    rw [gr_, gr_]
    by_cases e : k < n ∧ a < n ∧ w a = 0
    · rw [if_pos e, if_pos e, hy a h0 e.2.1]
      have r := ry a h0 e.2.1
      by_cases e2 : y2 a < n
      · rw [if_pos e2, if_pos e2, hx (y2 a) r.1 e2]
        exact gr_c hx hy rx ry d (k + 1) _ _ (rx (y2 a) r.1 e2).1
      · rw [if_neg e2, if_neg e2]
        exact gr_c hx hy rx ry d (k + 1) _ _ h0
    · rw [if_neg e, if_neg e]
theorem l3_c (hx : ∀ p, 0 ≤ p → p < n → x p = x2 p) (hy : ∀ p, 0 ≤ p → p < n → y p = y2 p) (rx : ∀ p, 0 ≤ p → p < n → 0 ≤ x2 p ∧ x2 p ≤ n) (ry : ∀ p, 0 ≤ p → p < n → 0 ≤ y2 p ∧ y2 p ≤ n) : ∀ (d : Nat) (p f : Int) (w : Int → Int), 0 ≤ p → l3_ n x y d p f w = l3_ n x2 y2 d p f w
  | 0, _, _, _, _ => rfl
  | d + 1, p, f, w, h0 => by
    rw [l3_, l3_]
    by_cases e : p < n
    · rw [if_pos e, if_pos e, gr_c hx hy rx ry 7 0 p w h0, l3_c hx hy rx ry d (p + 1) _ _ (by omega), l3_c hx hy rx ry d (p + 1) _ _ (by omega)]
    · rw [if_neg e, if_neg e]
theorem l2_c (hx : ∀ p, 0 ≤ p → p < n → x p = x2 p) (hy : ∀ p, 0 ≤ p → p < n → y p = y2 p) (rx : ∀ p, 0 ≤ p → p < n → 0 ≤ x2 p ∧ x2 p ≤ n) (ry : ∀ p, 0 ≤ p → p < n → 0 ≤ y2 p ∧ y2 p ≤ n) : ∀ (d : Nat) (p : Int) (w : Int → Int), 0 ≤ p → l2_ n x y d p w = l2_ n x2 y2 d p w
  | 0, _, _, _ => rfl
  | d + 1, p, w, h0 => by
    rw [l2_, l2_]
    by_cases e : p < n
    · rw [if_pos e, if_pos e, hx p h0 e, lo_c hx hy rx ry 7 0 p w h0 e, l2_c hx hy rx ry d (p + 1) _ (by omega), l2_c hx hy rx ry d (p + 1) _ (by omega)]
    · rw [if_neg e, if_neg e]
      exact l3_c hx hy rx ry 7 0 0 w (by omega)
end LC

theorem qy_find_l {m s : Nat} {F : aq_F} {c : aq_C} {o n z : Nat} {tl : Int → Int} {th : Int → Int → Int} (hH : hv_0 m F o n z tl th) {t i T : Int} : ∀ (d : Nat) (x : Int) (h : Int) (h0 : 0 ≤ h) (h1 : h ≤ (z : Int)) (h2 : 0 ≤ x) (h3 : x ≤ h) (ht : fi_ (z : Int) t i tl d h x = T) (hd : (z : Int) - h < (d : Int)), am_E ac_X2_find (5, [vR o, vI t, vI i, vI x, vI h], [], aq_h m s F c) (aq_P m s F c (fun r => r = some (vI T)))
  | 0, x, h, h0, h1, h2, h3, ht, hd => by exfalso; omega
  | d + 1, x, h, h0, h1, h2, h3, ht, hd => by
    obtain ⟨hm, hn1, hn4, hz6, hFo, hFl, hFg, hFt, hFp, hFq, hFd, hFs, hht⟩ := hH
    refine am_E.go (t2 := (7, [vR o, vI t, vI i, vI x, vI h], [vI h], aq_h m s F c)) rfl rfl ?_
    refine am_E.go (t2 := (8, [vR o, vI t, vI i, vI x, vI h], [vR o, vI h], aq_h m s F c)) rfl rfl ?_
    refine aq_gf (v := vI (z : Int)) rfl (by omega) hFo (by decide) rfl ?_
    show am_E _ (11, [vR o, vI t, vI i, vI x, vI h], [vI (z : Int), vI h], aq_h m s F c) _
    refine ae_icmp rfl (fun (q_1 : (z : Int) ≤ h) => ?_) (fun (q_1 : h < (z : Int)) => ?_)
    · refine am_E.go (t2 := (43, [vR o, vI t, vI i, vI x, vI h], [vI (-1)], aq_h m s F c)) rfl rfl ?_
      refine am_E.ret rfl rfl ?_
      refine ⟨rfl, ?_⟩
      rw [← ht, fi_, if_neg (by omega)]
    · refine am_E.go (t2 := (15, [vR o, vI t, vI i, vI x, vI h], [vR o], aq_h m s F c)) rfl rfl ?_
      refine aq_gf (v := vR (o + 1)) rfl (by omega) hFo (by decide) rfl ?_
      show am_E _ (18, [vR o, vI t, vI i, vI x, vI h], [vR (o + 1)], aq_h m s F c) _
      refine am_E.go (t2 := (20, [vR o, vI t, vI i, vI x, vI h], [vI h, vR (o + 1)], aq_h m s F c)) rfl rfl ?_
      refine aq_alt (ok := fun k => k == 0) rfl rfl (by omega) hFl rfl (by omega) (by omega) ?_
      show am_E _ (21, [vR o, vI t, vI i, vI x, vI h], [vI (tl h)], aq_h m s F c) _
      refine am_E.go (t2 := (22, [vR o, vI t, vI i, vI x, vI h], [vI t, vI (tl h)], aq_h m s F c)) rfl rfl ?_
      refine ae_icmp rfl (fun (q_2 : (tl h) ≠ t) => ?_) (fun (q_2 : (tl h) = t) => ?_)
      · refine ae_iinc rfl rfl (am_ri (by omega) (by omega)) ?_
        show am_E _ (39, [vR o, vI t, vI i, vI x, vI (h + 1)], [], aq_h m s F c) _
        refine am_E.go (t2 := (5, [vR o, vI t, vI i, vI x, vI (h + 1)], [], aq_h m s F c)) rfl rfl ?_
        exact qy_find_l ⟨hm, hn1, hn4, hz6, hFo, hFl, hFg, hFt, hFp, hFq, hFd, hFs, hht⟩ d x (h + 1) (by omega) (by omega) (by omega) (by omega) (by rw [← ht, fi_, if_pos (by omega)]; first | rw [if_neg (by omega)] | rw [if_pos (by omega), if_neg (by omega)]) (by omega)
      · refine am_E.go (t2 := (26, [vR o, vI t, vI i, vI x, vI h], [vI x], aq_h m s F c)) rfl rfl ?_
        refine am_E.go (t2 := (27, [vR o, vI t, vI i, vI x, vI h], [vI i, vI x], aq_h m s F c)) rfl rfl ?_
        refine ae_icmp rfl (fun (q_3 : x ≠ i) => ?_) (fun (q_3 : x = i) => ?_)
        · refine ae_iinc rfl rfl (am_ri (by omega) (by omega)) ?_
          show am_E _ (36, [vR o, vI t, vI i, vI (x + 1), vI h], [], aq_h m s F c) _
          refine ae_iinc rfl rfl (am_ri (by omega) (by omega)) ?_
          show am_E _ (39, [vR o, vI t, vI i, vI (x + 1), vI (h + 1)], [], aq_h m s F c) _
          refine am_E.go (t2 := (5, [vR o, vI t, vI i, vI (x + 1), vI (h + 1)], [], aq_h m s F c)) rfl rfl ?_
          exact qy_find_l ⟨hm, hn1, hn4, hz6, hFo, hFl, hFg, hFt, hFp, hFq, hFd, hFs, hht⟩ d (x + 1) (h + 1) (by omega) (by omega) (by omega) (by omega) (by rw [← ht, fi_, if_pos (by omega)]; first | rw [if_neg (by omega)] | rw [if_pos (by omega), if_neg (by omega)]) (by omega)
        · refine am_E.go (t2 := (32, [vR o, vI t, vI i, vI x, vI h], [vI h], aq_h m s F c)) rfl rfl ?_
          refine am_E.ret rfl rfl ?_
          refine ⟨rfl, ?_⟩
          rw [← ht, fi_, if_pos (by omega), if_pos (by omega), if_pos (by omega)]

theorem qy_find {m s : Nat} {F : aq_F} {c : aq_C} {o n z : Nat} {tl : Int → Int} {th : Int → Int → Int} (hH : hv_0 m F o n z tl th) {t i : Int} : am_E ac_X2_find (0, [vR o, vI t, vI i, vU, vU], [], aq_h m s F c) (aq_P m s F c (fun r => r = some (vI (fi_ (z : Int) t i tl 7 0 0)))) := by
  obtain ⟨hm, hn1, hn4, hz6, hFo, hFl, hFg, hFt, hFp, hFq, hFd, hFs, hht⟩ := hH
  refine am_E.go (t2 := (1, [vR o, vI t, vI i, vU, vU], [vI 0], aq_h m s F c)) rfl rfl ?_
  refine am_E.go (t2 := (2, [vR o, vI t, vI i, vI 0, vU], [], aq_h m s F c)) rfl rfl ?_
  refine am_E.go (t2 := (3, [vR o, vI t, vI i, vI 0, vU], [vI 0], aq_h m s F c)) rfl rfl ?_
  refine am_E.go (t2 := (5, [vR o, vI t, vI i, vI 0, vI 0], [], aq_h m s F c)) rfl rfl ?_
  exact qy_find_l ⟨hm, hn1, hn4, hz6, hFo, hFl, hFg, hFt, hFp, hFq, hFd, hFs, hht⟩ 7 0 0 (by omega) (by omega) (by omega) (by omega) rfl (by omega)

theorem qy_leads_l {m s : Nat} {F : aq_F} {c0 : aq_C} {o n z : Nat} {tl : Int → Int} {th : Int → Int → Int} (hH : hv_0 m F o n z tl th) {x y : Int} (hx0 : 0 ≤ x) (hx6 : x < 6) (hy0 : 0 ≤ y) (hy6 : y < 6) {p : Int} {T : Int × (Int → Int)} : ∀ (d : Nat) (w : Int → Int) (a : Int) (k : Int) (v6 : am_V) (c : aq_C) (hs : aq_sm (fun a => a = o + 17) c0 c) (h0 : 0 ≤ a) (h1 : a < (n : Int)) (h2 : 0 ≤ k) (h3 : k ≤ (n : Int)) (hw : ∀ q, 0 ≤ q → q < (n : Int) → c (o + 17) q = w q) (ht : lo_ (n : Int) (th ((x.toNat : Nat) : Int)) (th ((y.toNat : Nat) : Int)) d k a w = T) (hd : (n : Int) - k < (d : Int)), am_E ac_X2_leadsOut (6, [vR o, vR (o + 10 + x.toNat), vR (o + 10 + y.toNat), vI p, vI a, vI k, v6], [], aq_h m s F c) (aq_Z m s F (fun a => a = o + 17) c0 (fun r d => r = some (vI T.1) ∧ ∀ q, 0 ≤ q → q < (n : Int) → d (o + 17) q = T.2 q))
  | 0, w, a, k, v6, c, hs, h0, h1, h2, h3, hw, ht, hd => by exfalso; omega
  | d + 1, w, a, k, v6, c, hs, h0, h1, h2, h3, hw, ht, hd => by
    obtain ⟨hm, hn1, hn4, hz6, hFo, hFl, hFg, hFt, hFp, hFq, hFd, hFs, hht⟩ := hH
    refine am_E.go (t2 := (8, [vR o, vR (o + 10 + x.toNat), vR (o + 10 + y.toNat), vI p, vI a, vI k, v6], [vI k], aq_h m s F c)) rfl rfl ?_
    refine am_E.go (t2 := (9, [vR o, vR (o + 10 + x.toNat), vR (o + 10 + y.toNat), vI p, vI a, vI k, v6], [vR o, vI k], aq_h m s F c)) rfl rfl ?_
    refine aq_gf (v := vI (n : Int)) rfl (by omega) hFo (by decide) rfl ?_
    show am_E _ (12, [vR o, vR (o + 10 + x.toNat), vR (o + 10 + y.toNat), vI p, vI a, vI k, v6], [vI (n : Int), vI k], aq_h m s F c) _
    refine ae_icmp rfl (fun (q_1 : (n : Int) ≤ k) => ?_) (fun (q_1 : k < (n : Int)) => ?_)
    · refine am_E.go (t2 := (72, [vR o, vR (o + 10 + x.toNat), vR (o + 10 + y.toNat), vI p, vI a, vI k, v6], [vI 0], aq_h m s F c)) rfl rfl ?_
      refine am_E.ret rfl rfl ?_
      have e := ht
      first | rw [lo_, if_pos (by omega), if_neg (by omega), if_pos (by omega)] at e | rw [lo_, if_neg (by omega)] at e
      exact ⟨_, rfl, hs, by rw [← e], by rw [← e]; exact hw⟩
    · refine am_E.go (t2 := (16, [vR o, vR (o + 10 + x.toNat), vR (o + 10 + y.toNat), vI p, vI a, vI k, v6], [vR o], aq_h m s F c)) rfl rfl ?_
      refine aq_gf (v := vR (o + 17)) rfl (by omega) hFo (by decide) rfl ?_
      show am_E _ (19, [vR o, vR (o + 10 + x.toNat), vR (o + 10 + y.toNat), vI p, vI a, vI k, v6], [vR (o + 17)], aq_h m s F c) _
      refine am_E.go (t2 := (21, [vR o, vR (o + 10 + x.toNat), vR (o + 10 + y.toNat), vI p, vI a, vI k, v6], [vI a, vR (o + 17)], aq_h m s F c)) rfl rfl ?_
      refine am_E.go (t2 := (22, [vR o, vR (o + 10 + x.toNat), vR (o + 10 + y.toNat), vI p, vI a, vI k, v6], [vI 1, vI a, vR (o + 17)], aq_h m s F c)) rfl rfl ?_
      refine aq_as (kd := 1) rfl rfl (by omega) hFs (by omega) (by omega) rfl rfl ?_
      show am_E _ (23, [vR o, vR (o + 10 + x.toNat), vR (o + 10 + y.toNat), vI p, vI a, vI k, v6], [], aq_h m s F (aq_u c (o + 17) a 1)) _
      generalize hdc_2 : aq_u c (o + 17) a 1 = c_2
      have sc_2 := aq_smu hs hdc_2 rfl
      have wc_2 := dc_ac2 hw hdc_2
      refine am_E.go (t2 := (24, [vR o, vR (o + 10 + x.toNat), vR (o + 10 + y.toNat), vI p, vI a, vI k, v6], [vR (o + 10 + y.toNat)], aq_h m s F c_2)) rfl rfl ?_
      refine am_E.go (t2 := (26, [vR o, vR (o + 10 + x.toNat), vR (o + 10 + y.toNat), vI p, vI a, vI k, v6], [vI a, vR (o + 10 + y.toNat)], aq_h m s F c_2)) rfl rfl ?_
      refine aq_alt (ok := fun k => k == 0) rfl rfl (by omega) (hFq _ (by omega)) rfl (by omega) (by omega) ?_
      show am_E _ (27, [vR o, vR (o + 10 + x.toNat), vR (o + 10 + y.toNat), vI p, vI a, vI k, v6], [vI (th ((y.toNat : Nat) : Int) a)], aq_h m s F c_2) _
      have f_3 := hht ((y.toNat : Nat) : Int) a (by omega) (by omega) (by omega) (by omega)
      refine am_E.go (t2 := (29, [vR o, vR (o + 10 + x.toNat), vR (o + 10 + y.toNat), vI p, vI a, vI k, vI (th ((y.toNat : Nat) : Int) a)], [], aq_h m s F c_2)) rfl rfl ?_
      refine am_E.go (t2 := (31, [vR o, vR (o + 10 + x.toNat), vR (o + 10 + y.toNat), vI p, vI a, vI k, vI (th ((y.toNat : Nat) : Int) a)], [vI (th ((y.toNat : Nat) : Int) a)], aq_h m s F c_2)) rfl rfl ?_
      refine am_E.go (t2 := (32, [vR o, vR (o + 10 + x.toNat), vR (o + 10 + y.toNat), vI p, vI a, vI k, vI (th ((y.toNat : Nat) : Int) a)], [vR o, vI (th ((y.toNat : Nat) : Int) a)], aq_h m s F c_2)) rfl rfl ?_
      refine aq_gf (v := vI (n : Int)) rfl (by omega) hFo (by decide) rfl ?_
      show am_E _ (35, [vR o, vR (o + 10 + x.toNat), vR (o + 10 + y.toNat), vI p, vI a, vI k, vI (th ((y.toNat : Nat) : Int) a)], [vI (n : Int), vI (th ((y.toNat : Nat) : Int) a)], aq_h m s F c_2) _
      refine ae_icmp rfl (fun (q_4 : (th ((y.toNat : Nat) : Int) a) ≠ (n : Int)) => ?_) (fun (q_4 : (th ((y.toNat : Nat) : Int) a) = (n : Int)) => ?_)
      · refine am_E.go (t2 := (41, [vR o, vR (o + 10 + x.toNat), vR (o + 10 + y.toNat), vI p, vI a, vI k, vI (th ((y.toNat : Nat) : Int) a)], [vR o], aq_h m s F c_2)) rfl rfl ?_
        refine aq_gf (v := vR (o + 17)) rfl (by omega) hFo (by decide) rfl ?_
        show am_E _ (44, [vR o, vR (o + 10 + x.toNat), vR (o + 10 + y.toNat), vI p, vI a, vI k, vI (th ((y.toNat : Nat) : Int) a)], [vR (o + 17)], aq_h m s F c_2) _
        refine am_E.go (t2 := (46, [vR o, vR (o + 10 + x.toNat), vR (o + 10 + y.toNat), vI p, vI a, vI k, vI (th ((y.toNat : Nat) : Int) a)], [vI (th ((y.toNat : Nat) : Int) a), vR (o + 17)], aq_h m s F c_2)) rfl rfl ?_
        refine am_E.go (t2 := (47, [vR o, vR (o + 10 + x.toNat), vR (o + 10 + y.toNat), vI p, vI a, vI k, vI (th ((y.toNat : Nat) : Int) a)], [vI 1, vI (th ((y.toNat : Nat) : Int) a), vR (o + 17)], aq_h m s F c_2)) rfl rfl ?_
        refine aq_as (kd := 1) rfl rfl (by omega) hFs (by omega) (by omega) rfl rfl ?_
        show am_E _ (48, [vR o, vR (o + 10 + x.toNat), vR (o + 10 + y.toNat), vI p, vI a, vI k, vI (th ((y.toNat : Nat) : Int) a)], [], aq_h m s F (aq_u c_2 (o + 17) (th ((y.toNat : Nat) : Int) a) 1)) _
        generalize hdc_5 : aq_u c_2 (o + 17) (th ((y.toNat : Nat) : Int) a) 1 = c_5
        have sc_5 := aq_smu sc_2 hdc_5 rfl
        have wc_5 := dc_ac2 wc_2 hdc_5
        refine am_E.go (t2 := (49, [vR o, vR (o + 10 + x.toNat), vR (o + 10 + y.toNat), vI p, vI a, vI k, vI (th ((y.toNat : Nat) : Int) a)], [vR (o + 10 + x.toNat)], aq_h m s F c_5)) rfl rfl ?_
        refine am_E.go (t2 := (51, [vR o, vR (o + 10 + x.toNat), vR (o + 10 + y.toNat), vI p, vI a, vI k, vI (th ((y.toNat : Nat) : Int) a)], [vI (th ((y.toNat : Nat) : Int) a), vR (o + 10 + x.toNat)], aq_h m s F c_5)) rfl rfl ?_
        refine aq_alt (ok := fun k => k == 0) rfl rfl (by omega) (hFq _ (by omega)) rfl (by omega) (by omega) ?_
        show am_E _ (52, [vR o, vR (o + 10 + x.toNat), vR (o + 10 + y.toNat), vI p, vI a, vI k, vI (th ((y.toNat : Nat) : Int) a)], [vI (th ((x.toNat : Nat) : Int) (th ((y.toNat : Nat) : Int) a))], aq_h m s F c_5) _
        have f_6 := hht ((x.toNat : Nat) : Int) (th ((y.toNat : Nat) : Int) a) (by omega) (by omega) (by omega) (by omega)
        refine am_E.go (t2 := (54, [vR o, vR (o + 10 + x.toNat), vR (o + 10 + y.toNat), vI p, vI (th ((x.toNat : Nat) : Int) (th ((y.toNat : Nat) : Int) a)), vI k, vI (th ((y.toNat : Nat) : Int) a)], [], aq_h m s F c_5)) rfl rfl ?_
        refine am_E.go (t2 := (56, [vR o, vR (o + 10 + x.toNat), vR (o + 10 + y.toNat), vI p, vI (th ((x.toNat : Nat) : Int) (th ((y.toNat : Nat) : Int) a)), vI k, vI (th ((y.toNat : Nat) : Int) a)], [vI (th ((x.toNat : Nat) : Int) (th ((y.toNat : Nat) : Int) a))], aq_h m s F c_5)) rfl rfl ?_
        refine am_E.go (t2 := (57, [vR o, vR (o + 10 + x.toNat), vR (o + 10 + y.toNat), vI p, vI (th ((x.toNat : Nat) : Int) (th ((y.toNat : Nat) : Int) a)), vI k, vI (th ((y.toNat : Nat) : Int) a)], [vR o, vI (th ((x.toNat : Nat) : Int) (th ((y.toNat : Nat) : Int) a))], aq_h m s F c_5)) rfl rfl ?_
        refine aq_gf (v := vI (n : Int)) rfl (by omega) hFo (by decide) rfl ?_
        show am_E _ (60, [vR o, vR (o + 10 + x.toNat), vR (o + 10 + y.toNat), vI p, vI (th ((x.toNat : Nat) : Int) (th ((y.toNat : Nat) : Int) a)), vI k, vI (th ((y.toNat : Nat) : Int) a)], [vI (n : Int), vI (th ((x.toNat : Nat) : Int) (th ((y.toNat : Nat) : Int) a))], aq_h m s F c_5) _
        refine ae_icmp rfl (fun (q_7 : (th ((x.toNat : Nat) : Int) (th ((y.toNat : Nat) : Int) a)) ≠ (n : Int)) => ?_) (fun (q_7 : (th ((x.toNat : Nat) : Int) (th ((y.toNat : Nat) : Int) a)) = (n : Int)) => ?_)
        · refine ae_iinc rfl rfl (am_ri (by omega) (by omega)) ?_
          show am_E _ (68, [vR o, vR (o + 10 + x.toNat), vR (o + 10 + y.toNat), vI p, vI (th ((x.toNat : Nat) : Int) (th ((y.toNat : Nat) : Int) a)), vI (k + 1), vI (th ((y.toNat : Nat) : Int) a)], [], aq_h m s F c_5) _
          refine am_E.go (t2 := (6, [vR o, vR (o + 10 + x.toNat), vR (o + 10 + y.toNat), vI p, vI (th ((x.toNat : Nat) : Int) (th ((y.toNat : Nat) : Int) a)), vI (k + 1), vI (th ((y.toNat : Nat) : Int) a)], [], aq_h m s F c_5)) rfl rfl ?_
          exact qy_leads_l ⟨hm, hn1, hn4, hz6, hFo, hFl, hFg, hFt, hFp, hFq, hFd, hFs, hht⟩ hx0 hx6 hy0 hy6 d (dc_u (dc_u w a) (th ((y.toNat : Nat) : Int) a)) (th ((x.toNat : Nat) : Int) (th ((y.toNat : Nat) : Int) a)) (k + 1) (vI (th ((y.toNat : Nat) : Int) a)) c_5 sc_5 (by omega) (by omega) (by omega) (by omega) wc_5 (by rw [← ht, lo_, if_pos (by omega), if_neg (by omega), if_neg (by omega)]) (by omega)
        · refine am_E.go (t2 := (64, [vR o, vR (o + 10 + x.toNat), vR (o + 10 + y.toNat), vI p, vI (th ((x.toNat : Nat) : Int) (th ((y.toNat : Nat) : Int) a)), vI k, vI (th ((y.toNat : Nat) : Int) a)], [vI 0], aq_h m s F c_5)) rfl rfl ?_
          refine am_E.ret rfl rfl ?_
          have e := ht
          first | rw [lo_, if_pos (by omega), if_neg (by omega), if_pos (by omega)] at e | rw [lo_, if_neg (by omega)] at e
          exact ⟨_, rfl, sc_5, by rw [← e], by rw [← e]; exact wc_5⟩
      · refine am_E.go (t2 := (39, [vR o, vR (o + 10 + x.toNat), vR (o + 10 + y.toNat), vI p, vI a, vI k, vI (th ((y.toNat : Nat) : Int) a)], [vI 1], aq_h m s F c_2)) rfl rfl ?_
        refine am_E.ret rfl rfl ?_
        have e := ht
        rw [lo_, if_pos (by omega), if_pos (by omega)] at e
        exact ⟨_, rfl, sc_2, by rw [← e], by rw [← e]; exact wc_2⟩

theorem qy_leadsOut {m s : Nat} {F : aq_F} {c : aq_C} {o n z : Nat} {tl : Int → Int} {th : Int → Int → Int} (hH : hv_0 m F o n z tl th) {x y : Int} (hx0 : 0 ≤ x) (hx6 : x < 6) (hy0 : 0 ≤ y) (hy6 : y < 6) {p : Int} {w : Int → Int} (hp0 : 0 ≤ p) (hpn : p < (n : Int)) (hw : ∀ q, 0 ≤ q → q < (n : Int) → c (o + 17) q = w q) : am_E ac_X2_leadsOut (0, [vR o, vR (o + 10 + x.toNat), vR (o + 10 + y.toNat), vI p, vU, vU, vU], [], aq_h m s F c) (aq_Z m s F (fun a => a = o + 17) c (fun r d => r = some (vI (lo_ (n : Int) (th ((x.toNat : Nat) : Int)) (th ((y.toNat : Nat) : Int)) 7 0 p w).1) ∧ ∀ q, 0 ≤ q → q < (n : Int) → d (o + 17) q = (lo_ (n : Int) (th ((x.toNat : Nat) : Int)) (th ((y.toNat : Nat) : Int)) 7 0 p w).2 q)) := by
  obtain ⟨hm, hn1, hn4, hz6, hFo, hFl, hFg, hFt, hFp, hFq, hFd, hFs, hht⟩ := hH
  refine am_E.go (t2 := (1, [vR o, vR (o + 10 + x.toNat), vR (o + 10 + y.toNat), vI p, vU, vU, vU], [vI p], aq_h m s F c)) rfl rfl ?_
  refine am_E.go (t2 := (3, [vR o, vR (o + 10 + x.toNat), vR (o + 10 + y.toNat), vI p, vI p, vU, vU], [], aq_h m s F c)) rfl rfl ?_
  refine am_E.go (t2 := (4, [vR o, vR (o + 10 + x.toNat), vR (o + 10 + y.toNat), vI p, vI p, vU, vU], [vI 0], aq_h m s F c)) rfl rfl ?_
  refine am_E.go (t2 := (6, [vR o, vR (o + 10 + x.toNat), vR (o + 10 + y.toNat), vI p, vI p, vI 0, vU], [], aq_h m s F c)) rfl rfl ?_
  exact qy_leads_l ⟨hm, hn1, hn4, hz6, hFo, hFl, hFg, hFt, hFp, hFq, hFd, hFs, hht⟩ hx0 hx6 hy0 hy6 7 w p 0 (vU) c (aq_sm0 (c := c) (S := (fun a => a = o + 17))) (by omega) (by omega) (by omega) (by omega) hw rfl (by omega)

theorem qy_round_l {m s : Nat} {F : aq_F} {c0 : aq_C} {o n z : Nat} {tl : Int → Int} {th : Int → Int → Int} (hH : hv_0 m F o n z tl th) {x y : Int} (hx0 : 0 ≤ x) (hx6 : x < 6) (hy0 : 0 ≤ y) (hy6 : y < 6) {p : Int} {T : Int → Int} : ∀ (d : Nat) (w : Int → Int) (a : Int) (k : Int) (v6 : am_V) (c : aq_C) (hs : aq_sm (fun a => a = o + 17) c0 c) (h0 : 0 ≤ a) (h1 : a ≤ (n : Int)) (h2 : 0 ≤ k) (h3 : k ≤ (n : Int)) (hw : ∀ q, 0 ≤ q → q < (n : Int) → c (o + 17) q = w q) (ht : gr_ (n : Int) (th ((x.toNat : Nat) : Int)) (th ((y.toNat : Nat) : Int)) d k a w = T) (hd : (n : Int) - k < (d : Int)), am_E ac_X2_goRound (6, [vR o, vR (o + 10 + x.toNat), vR (o + 10 + y.toNat), vI p, vI a, vI k, v6], [], aq_h m s F c) (aq_Z m s F (fun a => a = o + 17) c0 (fun r d => r = none ∧ ∀ q, 0 ≤ q → q < (n : Int) → d (o + 17) q = T q))
  | 0, w, a, k, v6, c, hs, h0, h1, h2, h3, hw, ht, hd => by exfalso; omega
  | d + 1, w, a, k, v6, c, hs, h0, h1, h2, h3, hw, ht, hd => by
    obtain ⟨hm, hn1, hn4, hz6, hFo, hFl, hFg, hFt, hFp, hFq, hFd, hFs, hht⟩ := hH
    refine am_E.go (t2 := (8, [vR o, vR (o + 10 + x.toNat), vR (o + 10 + y.toNat), vI p, vI a, vI k, v6], [vI k], aq_h m s F c)) rfl rfl ?_
    refine am_E.go (t2 := (9, [vR o, vR (o + 10 + x.toNat), vR (o + 10 + y.toNat), vI p, vI a, vI k, v6], [vR o, vI k], aq_h m s F c)) rfl rfl ?_
    refine aq_gf (v := vI (n : Int)) rfl (by omega) hFo (by decide) rfl ?_
    show am_E _ (12, [vR o, vR (o + 10 + x.toNat), vR (o + 10 + y.toNat), vI p, vI a, vI k, v6], [vI (n : Int), vI k], aq_h m s F c) _
    refine ae_icmp rfl (fun (q_1 : (n : Int) ≤ k) => ?_) (fun (q_1 : k < (n : Int)) => ?_)
    · refine am_E.ret rfl rfl ?_
      have e := ht
      rw [gr_, if_neg (by omega)] at e
      exact ⟨_, rfl, hs, rfl, by rw [← e]; exact hw⟩
    · refine am_E.go (t2 := (17, [vR o, vR (o + 10 + x.toNat), vR (o + 10 + y.toNat), vI p, vI a, vI k, v6], [vI a], aq_h m s F c)) rfl rfl ?_
      refine am_E.go (t2 := (18, [vR o, vR (o + 10 + x.toNat), vR (o + 10 + y.toNat), vI p, vI a, vI k, v6], [vR o, vI a], aq_h m s F c)) rfl rfl ?_
      refine aq_gf (v := vI (n : Int)) rfl (by omega) hFo (by decide) rfl ?_
      show am_E _ (21, [vR o, vR (o + 10 + x.toNat), vR (o + 10 + y.toNat), vI p, vI a, vI k, v6], [vI (n : Int), vI a], aq_h m s F c) _
      refine ae_icmp rfl (fun (q_2 : (n : Int) ≤ a) => ?_) (fun (q_2 : a < (n : Int)) => ?_)
      · refine am_E.ret rfl rfl ?_
        have e := ht
        rw [gr_, if_neg (by omega)] at e
        exact ⟨_, rfl, hs, rfl, by rw [← e]; exact hw⟩
      · refine am_E.go (t2 := (25, [vR o, vR (o + 10 + x.toNat), vR (o + 10 + y.toNat), vI p, vI a, vI k, v6], [vR o], aq_h m s F c)) rfl rfl ?_
        refine aq_gf (v := vR (o + 17)) rfl (by omega) hFo (by decide) rfl ?_
        show am_E _ (28, [vR o, vR (o + 10 + x.toNat), vR (o + 10 + y.toNat), vI p, vI a, vI k, v6], [vR (o + 17)], aq_h m s F c) _
        refine am_E.go (t2 := (30, [vR o, vR (o + 10 + x.toNat), vR (o + 10 + y.toNat), vI p, vI a, vI k, v6], [vI a, vR (o + 17)], aq_h m s F c)) rfl rfl ?_
        refine aq_al (ok := fun k => k == 1) (v := vI (c (o + 17) a)) rfl rfl (by omega) hFs rfl (by omega) (by omega) rfl ?_
        show am_E _ (31, [vR o, vR (o + 10 + x.toNat), vR (o + 10 + y.toNat), vI p, vI a, vI k, v6], [vI (c (o + 17) a)], aq_h m s F c) _
        have f_3 := hw a (by omega) (by omega)
        refine ae_if0 rfl (fun (q_4 : (c (o + 17) a) ≠ 0) => ?_) (fun (q_4 : (c (o + 17) a) = 0) => ?_)
        · refine am_E.ret rfl rfl ?_
          have e := ht
          rw [gr_, if_neg (by omega)] at e
          exact ⟨_, rfl, hs, rfl, by rw [← e]; exact hw⟩
        · refine am_E.go (t2 := (35, [vR o, vR (o + 10 + x.toNat), vR (o + 10 + y.toNat), vI p, vI a, vI k, v6], [vR o], aq_h m s F c)) rfl rfl ?_
          refine aq_gf (v := vR (o + 17)) rfl (by omega) hFo (by decide) rfl ?_
          show am_E _ (38, [vR o, vR (o + 10 + x.toNat), vR (o + 10 + y.toNat), vI p, vI a, vI k, v6], [vR (o + 17)], aq_h m s F c) _
          refine am_E.go (t2 := (40, [vR o, vR (o + 10 + x.toNat), vR (o + 10 + y.toNat), vI p, vI a, vI k, v6], [vI a, vR (o + 17)], aq_h m s F c)) rfl rfl ?_
          refine am_E.go (t2 := (41, [vR o, vR (o + 10 + x.toNat), vR (o + 10 + y.toNat), vI p, vI a, vI k, v6], [vI 1, vI a, vR (o + 17)], aq_h m s F c)) rfl rfl ?_
          refine aq_as (kd := 1) rfl rfl (by omega) hFs (by omega) (by omega) rfl rfl ?_
          show am_E _ (42, [vR o, vR (o + 10 + x.toNat), vR (o + 10 + y.toNat), vI p, vI a, vI k, v6], [], aq_h m s F (aq_u c (o + 17) a 1)) _
          generalize hdc_5 : aq_u c (o + 17) a 1 = c_5
          have sc_5 := aq_smu hs hdc_5 rfl
          have wc_5 := dc_ac2 hw hdc_5
          refine am_E.go (t2 := (43, [vR o, vR (o + 10 + x.toNat), vR (o + 10 + y.toNat), vI p, vI a, vI k, v6], [vR (o + 10 + y.toNat)], aq_h m s F c_5)) rfl rfl ?_
          refine am_E.go (t2 := (45, [vR o, vR (o + 10 + x.toNat), vR (o + 10 + y.toNat), vI p, vI a, vI k, v6], [vI a, vR (o + 10 + y.toNat)], aq_h m s F c_5)) rfl rfl ?_
          refine aq_alt (ok := fun k => k == 0) rfl rfl (by omega) (hFq _ (by omega)) rfl (by omega) (by omega) ?_
          show am_E _ (46, [vR o, vR (o + 10 + x.toNat), vR (o + 10 + y.toNat), vI p, vI a, vI k, v6], [vI (th ((y.toNat : Nat) : Int) a)], aq_h m s F c_5) _
          have f_6 := hht ((y.toNat : Nat) : Int) a (by omega) (by omega) (by omega) (by omega)
          refine am_E.go (t2 := (48, [vR o, vR (o + 10 + x.toNat), vR (o + 10 + y.toNat), vI p, vI a, vI k, vI (th ((y.toNat : Nat) : Int) a)], [], aq_h m s F c_5)) rfl rfl ?_
          refine am_E.go (t2 := (50, [vR o, vR (o + 10 + x.toNat), vR (o + 10 + y.toNat), vI p, vI a, vI k, vI (th ((y.toNat : Nat) : Int) a)], [vI (th ((y.toNat : Nat) : Int) a)], aq_h m s F c_5)) rfl rfl ?_
          refine am_E.go (t2 := (51, [vR o, vR (o + 10 + x.toNat), vR (o + 10 + y.toNat), vI p, vI a, vI k, vI (th ((y.toNat : Nat) : Int) a)], [vR o, vI (th ((y.toNat : Nat) : Int) a)], aq_h m s F c_5)) rfl rfl ?_
          refine aq_gf (v := vI (n : Int)) rfl (by omega) hFo (by decide) rfl ?_
          show am_E _ (54, [vR o, vR (o + 10 + x.toNat), vR (o + 10 + y.toNat), vI p, vI a, vI k, vI (th ((y.toNat : Nat) : Int) a)], [vI (n : Int), vI (th ((y.toNat : Nat) : Int) a)], aq_h m s F c_5) _
          refine ae_icmp rfl (fun (q_7 : (n : Int) ≤ (th ((y.toNat : Nat) : Int) a)) => ?_) (fun (q_7 : (th ((y.toNat : Nat) : Int) a) < (n : Int)) => ?_)
          · refine ae_iinc rfl rfl (am_ri (by omega) (by omega)) ?_
            show am_E _ (74, [vR o, vR (o + 10 + x.toNat), vR (o + 10 + y.toNat), vI p, vI a, vI (k + 1), vI (th ((y.toNat : Nat) : Int) a)], [], aq_h m s F c_5) _
            refine am_E.go (t2 := (6, [vR o, vR (o + 10 + x.toNat), vR (o + 10 + y.toNat), vI p, vI a, vI (k + 1), vI (th ((y.toNat : Nat) : Int) a)], [], aq_h m s F c_5)) rfl rfl ?_
            exact qy_round_l ⟨hm, hn1, hn4, hz6, hFo, hFl, hFg, hFt, hFp, hFq, hFd, hFs, hht⟩ hx0 hx6 hy0 hy6 d (dc_u w a) a (k + 1) (vI (th ((y.toNat : Nat) : Int) a)) c_5 sc_5 (by omega) (by omega) (by omega) (by omega) wc_5 (by rw [← ht, gr_, if_pos (by omega)]; first | rw [if_pos (by omega)] | rw [if_neg (by omega)]) (by omega)
          · refine am_E.go (t2 := (58, [vR o, vR (o + 10 + x.toNat), vR (o + 10 + y.toNat), vI p, vI a, vI k, vI (th ((y.toNat : Nat) : Int) a)], [vR o], aq_h m s F c_5)) rfl rfl ?_
            refine aq_gf (v := vR (o + 17)) rfl (by omega) hFo (by decide) rfl ?_
            show am_E _ (61, [vR o, vR (o + 10 + x.toNat), vR (o + 10 + y.toNat), vI p, vI a, vI k, vI (th ((y.toNat : Nat) : Int) a)], [vR (o + 17)], aq_h m s F c_5) _
            refine am_E.go (t2 := (63, [vR o, vR (o + 10 + x.toNat), vR (o + 10 + y.toNat), vI p, vI a, vI k, vI (th ((y.toNat : Nat) : Int) a)], [vI (th ((y.toNat : Nat) : Int) a), vR (o + 17)], aq_h m s F c_5)) rfl rfl ?_
            refine am_E.go (t2 := (64, [vR o, vR (o + 10 + x.toNat), vR (o + 10 + y.toNat), vI p, vI a, vI k, vI (th ((y.toNat : Nat) : Int) a)], [vI 1, vI (th ((y.toNat : Nat) : Int) a), vR (o + 17)], aq_h m s F c_5)) rfl rfl ?_
            refine aq_as (kd := 1) rfl rfl (by omega) hFs (by omega) (by omega) rfl rfl ?_
            show am_E _ (65, [vR o, vR (o + 10 + x.toNat), vR (o + 10 + y.toNat), vI p, vI a, vI k, vI (th ((y.toNat : Nat) : Int) a)], [], aq_h m s F (aq_u c_5 (o + 17) (th ((y.toNat : Nat) : Int) a) 1)) _
            generalize hdc_8 : aq_u c_5 (o + 17) (th ((y.toNat : Nat) : Int) a) 1 = c_8
            have sc_8 := aq_smu sc_5 hdc_8 rfl
            have wc_8 := dc_ac2 wc_5 hdc_8
            refine am_E.go (t2 := (66, [vR o, vR (o + 10 + x.toNat), vR (o + 10 + y.toNat), vI p, vI a, vI k, vI (th ((y.toNat : Nat) : Int) a)], [vR (o + 10 + x.toNat)], aq_h m s F c_8)) rfl rfl ?_
            refine am_E.go (t2 := (68, [vR o, vR (o + 10 + x.toNat), vR (o + 10 + y.toNat), vI p, vI a, vI k, vI (th ((y.toNat : Nat) : Int) a)], [vI (th ((y.toNat : Nat) : Int) a), vR (o + 10 + x.toNat)], aq_h m s F c_8)) rfl rfl ?_
            refine aq_alt (ok := fun k => k == 0) rfl rfl (by omega) (hFq _ (by omega)) rfl (by omega) (by omega) ?_
            show am_E _ (69, [vR o, vR (o + 10 + x.toNat), vR (o + 10 + y.toNat), vI p, vI a, vI k, vI (th ((y.toNat : Nat) : Int) a)], [vI (th ((x.toNat : Nat) : Int) (th ((y.toNat : Nat) : Int) a))], aq_h m s F c_8) _
            have f_9 := hht ((x.toNat : Nat) : Int) (th ((y.toNat : Nat) : Int) a) (by omega) (by omega) (by omega) (by omega)
            refine am_E.go (t2 := (71, [vR o, vR (o + 10 + x.toNat), vR (o + 10 + y.toNat), vI p, vI (th ((x.toNat : Nat) : Int) (th ((y.toNat : Nat) : Int) a)), vI k, vI (th ((y.toNat : Nat) : Int) a)], [], aq_h m s F c_8)) rfl rfl ?_
            refine ae_iinc rfl rfl (am_ri (by omega) (by omega)) ?_
            show am_E _ (74, [vR o, vR (o + 10 + x.toNat), vR (o + 10 + y.toNat), vI p, vI (th ((x.toNat : Nat) : Int) (th ((y.toNat : Nat) : Int) a)), vI (k + 1), vI (th ((y.toNat : Nat) : Int) a)], [], aq_h m s F c_8) _
            refine am_E.go (t2 := (6, [vR o, vR (o + 10 + x.toNat), vR (o + 10 + y.toNat), vI p, vI (th ((x.toNat : Nat) : Int) (th ((y.toNat : Nat) : Int) a)), vI (k + 1), vI (th ((y.toNat : Nat) : Int) a)], [], aq_h m s F c_8)) rfl rfl ?_
            exact qy_round_l ⟨hm, hn1, hn4, hz6, hFo, hFl, hFg, hFt, hFp, hFq, hFd, hFs, hht⟩ hx0 hx6 hy0 hy6 d (dc_u (dc_u w a) (th ((y.toNat : Nat) : Int) a)) (th ((x.toNat : Nat) : Int) (th ((y.toNat : Nat) : Int) a)) (k + 1) (vI (th ((y.toNat : Nat) : Int) a)) c_8 sc_8 (by omega) (by omega) (by omega) (by omega) wc_8 (by rw [← ht, gr_, if_pos (by omega)]; first | rw [if_pos (by omega)] | rw [if_neg (by omega)]) (by omega)

theorem qy_goRound {m s : Nat} {F : aq_F} {c : aq_C} {o n z : Nat} {tl : Int → Int} {th : Int → Int → Int} (hH : hv_0 m F o n z tl th) {x y : Int} (hx0 : 0 ≤ x) (hx6 : x < 6) (hy0 : 0 ≤ y) (hy6 : y < 6) {p : Int} {w : Int → Int} (hp0 : 0 ≤ p) (hpn : p < (n : Int)) (hw : ∀ q, 0 ≤ q → q < (n : Int) → c (o + 17) q = w q) : am_E ac_X2_goRound (0, [vR o, vR (o + 10 + x.toNat), vR (o + 10 + y.toNat), vI p, vU, vU, vU], [], aq_h m s F c) (aq_Z m s F (fun a => a = o + 17) c (fun r d => r = none ∧ ∀ q, 0 ≤ q → q < (n : Int) → d (o + 17) q = gr_ (n : Int) (th ((x.toNat : Nat) : Int)) (th ((y.toNat : Nat) : Int)) 7 0 p w q)) := by
  obtain ⟨hm, hn1, hn4, hz6, hFo, hFl, hFg, hFt, hFp, hFq, hFd, hFs, hht⟩ := hH
  refine am_E.go (t2 := (1, [vR o, vR (o + 10 + x.toNat), vR (o + 10 + y.toNat), vI p, vU, vU, vU], [vI p], aq_h m s F c)) rfl rfl ?_
  refine am_E.go (t2 := (3, [vR o, vR (o + 10 + x.toNat), vR (o + 10 + y.toNat), vI p, vI p, vU, vU], [], aq_h m s F c)) rfl rfl ?_
  refine am_E.go (t2 := (4, [vR o, vR (o + 10 + x.toNat), vR (o + 10 + y.toNat), vI p, vI p, vU, vU], [vI 0], aq_h m s F c)) rfl rfl ?_
  refine am_E.go (t2 := (6, [vR o, vR (o + 10 + x.toNat), vR (o + 10 + y.toNat), vI p, vI p, vI 0, vU], [], aq_h m s F c)) rfl rfl ?_
  exact qy_round_l ⟨hm, hn1, hn4, hz6, hFo, hFl, hFg, hFt, hFp, hFq, hFd, hFs, hht⟩ hx0 hx6 hy0 hy6 7 w p 0 (vU) c (aq_sm0 (c := c) (S := (fun a => a = o + 17))) (by omega) (by omega) (by omega) (by omega) hw rfl (by omega)

theorem qy_lay_3 {m s : Nat} {F : aq_F} {c0 : aq_C} {o n z : Nat} {tl : Int → Int} {th : Int → Int → Int} (hH : hv_0 m F o n z tl th) {x y : Int} (hx0 : 0 ≤ x) (hx6 : x < 6) (hy0 : 0 ≤ y) (hy6 : y < 6) {T : Int} : ∀ (d : Nat) (w : Int → Int) (f : Int) (p : Int) (c : aq_C) (hs : aq_sm (fun a => a = o + 17) c0 c) (h0 : 0 ≤ p) (h1 : p ≤ (n : Int)) (h2 : 0 ≤ f) (h3 : f ≤ p) (hw : ∀ q, 0 ≤ q → q < (n : Int) → c (o + 17) q = w q) (ht : l3_ (n : Int) (th ((x.toNat : Nat) : Int)) (th ((y.toNat : Nat) : Int)) d p f w = T) (hd : (n : Int) - p < (d : Int)), am_E ac_X2_lay (82, [vR o, vI x, vI y, vI f, vI p], [], aq_h m s F c) (aq_Z m s F (fun a => a = o + 17) c0 (fun r _ => r = some (vI T)))
  | 0, w, f, p, c, hs, h0, h1, h2, h3, hw, ht, hd => by exfalso; omega
  | d + 1, w, f, p, c, hs, h0, h1, h2, h3, hw, ht, hd => by
    obtain ⟨hm, hn1, hn4, hz6, hFo, hFl, hFg, hFt, hFp, hFq, hFd, hFs, hht⟩ := hH
    refine am_E.go (t2 := (84, [vR o, vI x, vI y, vI f, vI p], [vI p], aq_h m s F c)) rfl rfl ?_
    refine am_E.go (t2 := (85, [vR o, vI x, vI y, vI f, vI p], [vR o, vI p], aq_h m s F c)) rfl rfl ?_
    refine aq_gf (v := vI (n : Int)) rfl (by omega) hFo (by decide) rfl ?_
    show am_E _ (88, [vR o, vI x, vI y, vI f, vI p], [vI (n : Int), vI p], aq_h m s F c) _
    refine ae_icmp rfl (fun (q_1 : (n : Int) ≤ p) => ?_) (fun (q_1 : p < (n : Int)) => ?_)
    · refine am_E.go (t2 := (129, [vR o, vI x, vI y, vI f, vI p], [vI f], aq_h m s F c)) rfl rfl ?_
      refine am_E.ret rfl rfl ?_
      refine ⟨_, rfl, hs, ?_⟩
      rw [← ht, l3_, if_neg (by omega)]
    · refine am_E.go (t2 := (92, [vR o, vI x, vI y, vI f, vI p], [vR o], aq_h m s F c)) rfl rfl ?_
      refine aq_gf (v := vR (o + 17)) rfl (by omega) hFo (by decide) rfl ?_
      show am_E _ (95, [vR o, vI x, vI y, vI f, vI p], [vR (o + 17)], aq_h m s F c) _
      refine am_E.go (t2 := (97, [vR o, vI x, vI y, vI f, vI p], [vI p, vR (o + 17)], aq_h m s F c)) rfl rfl ?_
      refine aq_al (ok := fun k => k == 1) (v := vI (c (o + 17) p)) rfl rfl (by omega) hFs rfl (by omega) (by omega) rfl ?_
      show am_E _ (98, [vR o, vI x, vI y, vI f, vI p], [vI (c (o + 17) p)], aq_h m s F c) _
      have f_2 := hw p (by omega) (by omega)
      refine ae_if0 rfl (fun (q_3 : (c (o + 17) p) ≠ 0) => ?_) (fun (q_3 : (c (o + 17) p) = 0) => ?_)
      · refine ae_iinc rfl rfl (am_ri (by omega) (by omega)) ?_
        show am_E _ (125, [vR o, vI x, vI y, vI f, vI (p + 1)], [], aq_h m s F c) _
        refine am_E.go (t2 := (82, [vR o, vI x, vI y, vI f, vI (p + 1)], [], aq_h m s F c)) rfl rfl ?_
        exact qy_lay_3 ⟨hm, hn1, hn4, hz6, hFo, hFl, hFg, hFt, hFp, hFq, hFd, hFs, hht⟩ hx0 hx6 hy0 hy6 d w f (p + 1) c hs (by omega) (by omega) (by omega) (by omega) hw (by rw [← ht, l3_, if_pos (by omega)]; first | rw [if_pos (by omega)] | rw [if_neg (by omega)]) (by omega)
      · refine ae_iinc rfl rfl (am_ri (by omega) (by omega)) ?_
        show am_E _ (104, [vR o, vI x, vI y, vI (f + 1), vI p], [], aq_h m s F c) _
        refine am_E.go (t2 := (105, [vR o, vI x, vI y, vI (f + 1), vI p], [vR o], aq_h m s F c)) rfl rfl ?_
        refine am_E.go (t2 := (106, [vR o, vI x, vI y, vI (f + 1), vI p], [vR o, vR o], aq_h m s F c)) rfl rfl ?_
        refine aq_gf (v := vR (o + 9)) rfl (by omega) hFo (by decide) rfl ?_
        show am_E _ (109, [vR o, vI x, vI y, vI (f + 1), vI p], [vR (o + 9), vR o], aq_h m s F c) _
        refine am_E.go (t2 := (110, [vR o, vI x, vI y, vI (f + 1), vI p], [vI x, vR (o + 9), vR o], aq_h m s F c)) rfl rfl ?_
        refine aq_al (ok := fun k => decide (3 ≤ k) && decide (k < 7)) (v := vR (o + 10 + x.toNat)) rfl rfl (by omega) hFp rfl (by omega) (by omega) (aq_gi (by omega)) ?_
        show am_E _ (111, [vR o, vI x, vI y, vI (f + 1), vI p], [vR (o + 10 + x.toNat), vR o], aq_h m s F c) _
        refine am_E.go (t2 := (112, [vR o, vI x, vI y, vI (f + 1), vI p], [vR o, vR (o + 10 + x.toNat), vR o], aq_h m s F c)) rfl rfl ?_
        refine aq_gf (v := vR (o + 9)) rfl (by omega) hFo (by decide) rfl ?_
        show am_E _ (115, [vR o, vI x, vI y, vI (f + 1), vI p], [vR (o + 9), vR (o + 10 + x.toNat), vR o], aq_h m s F c) _
        refine am_E.go (t2 := (116, [vR o, vI x, vI y, vI (f + 1), vI p], [vI y, vR (o + 9), vR (o + 10 + x.toNat), vR o], aq_h m s F c)) rfl rfl ?_
        refine aq_al (ok := fun k => decide (3 ≤ k) && decide (k < 7)) (v := vR (o + 10 + y.toNat)) rfl rfl (by omega) hFp rfl (by omega) (by omega) (aq_gi (by omega)) ?_
        show am_E _ (117, [vR o, vI x, vI y, vI (f + 1), vI p], [vR (o + 10 + y.toNat), vR (o + 10 + x.toNat), vR o], aq_h m s F c) _
        refine am_E.go (t2 := (119, [vR o, vI x, vI y, vI (f + 1), vI p], [vI p, vR (o + 10 + y.toNat), vR (o + 10 + x.toNat), vR o], aq_h m s F c)) rfl rfl ?_
        refine aq_callv (y := 4) (as2 := [vR (o + 10 + x.toNat), vR (o + 10 + y.toNat), vI p]) (rest := []) rfl rfl (by decide) (Nat.le_of_ble_eq_true rfl) rfl rfl (Nat.le_of_ble_eq_true rfl) (by omega) hFo rfl (Nat.le_of_ble_eq_true rfl) (qy_goRound ⟨hm, hn1, hn4, hz6, hFo, hFl, hFg, hFt, hFp, hFq, hFd, hFs, hht⟩ hx0 hx6 hy0 hy6 (p := p) (by omega) (by omega) hw) ?_
        rintro r5 h5 ⟨c_4, rfl, sc_4, rfl, hwc_4⟩
        show am_E _ (122, [vR o, vI x, vI y, vI (f + 1), vI p], [], aq_h m s F c_4) _
        refine ae_iinc rfl rfl (am_ri (by omega) (by omega)) ?_
        show am_E _ (125, [vR o, vI x, vI y, vI (f + 1), vI (p + 1)], [], aq_h m s F c_4) _
        refine am_E.go (t2 := (82, [vR o, vI x, vI y, vI (f + 1), vI (p + 1)], [], aq_h m s F c_4)) rfl rfl ?_
        exact qy_lay_3 ⟨hm, hn1, hn4, hz6, hFo, hFl, hFg, hFt, hFp, hFq, hFd, hFs, hht⟩ hx0 hx6 hy0 hy6 d (gr_ (n : Int) (th ((x.toNat : Nat) : Int)) (th ((y.toNat : Nat) : Int)) 7 0 p w) (f + 1) (p + 1) c_4 (aq_smt hs sc_4) (by omega) (by omega) (by omega) (by omega) hwc_4 (by rw [← ht, l3_, if_pos (by omega)]; first | rw [if_pos (by omega)] | rw [if_neg (by omega)]) (by omega)

theorem qy_lay_2 {m s : Nat} {F : aq_F} {c0 : aq_C} {o n z : Nat} {tl : Int → Int} {th : Int → Int → Int} (hH : hv_0 m F o n z tl th) {x y : Int} (hx0 : 0 ≤ x) (hx6 : x < 6) (hy0 : 0 ≤ y) (hy6 : y < 6) {T : Int} : ∀ (d : Nat) (w : Int → Int) (p : Int) (v4 : am_V) (c : aq_C) (hs : aq_sm (fun a => a = o + 17) c0 c) (h0 : 0 ≤ p) (h1 : p ≤ (n : Int)) (hw : ∀ q, 0 ≤ q → q < (n : Int) → c (o + 17) q = w q) (ht : l2_ (n : Int) (th ((x.toNat : Nat) : Int)) (th ((y.toNat : Nat) : Int)) d p w = T) (hd : (n : Int) - p < (d : Int)), am_E ac_X2_lay (25, [vR o, vI x, vI y, vI p, v4], [], aq_h m s F c) (aq_Z m s F (fun a => a = o + 17) c0 (fun r _ => r = some (vI T)))
  | 0, w, p, v4, c, hs, h0, h1, hw, ht, hd => by exfalso; omega
  | d + 1, w, p, v4, c, hs, h0, h1, hw, ht, hd => by
    obtain ⟨hm, hn1, hn4, hz6, hFo, hFl, hFg, hFt, hFp, hFq, hFd, hFs, hht⟩ := hH
    refine am_E.go (t2 := (26, [vR o, vI x, vI y, vI p, v4], [vI p], aq_h m s F c)) rfl rfl ?_
    refine am_E.go (t2 := (27, [vR o, vI x, vI y, vI p, v4], [vR o, vI p], aq_h m s F c)) rfl rfl ?_
    refine aq_gf (v := vI (n : Int)) rfl (by omega) hFo (by decide) rfl ?_
    show am_E _ (30, [vR o, vI x, vI y, vI p, v4], [vI (n : Int), vI p], aq_h m s F c) _
    refine ae_icmp rfl (fun (q_1 : (n : Int) ≤ p) => ?_) (fun (q_1 : p < (n : Int)) => ?_)
    · refine am_E.go (t2 := (78, [vR o, vI x, vI y, vI p, v4], [vI 0], aq_h m s F c)) rfl rfl ?_
      refine am_E.go (t2 := (79, [vR o, vI x, vI y, vI 0, v4], [], aq_h m s F c)) rfl rfl ?_
      refine am_E.go (t2 := (80, [vR o, vI x, vI y, vI 0, v4], [vI 0], aq_h m s F c)) rfl rfl ?_
      refine am_E.go (t2 := (82, [vR o, vI x, vI y, vI 0, vI 0], [], aq_h m s F c)) rfl rfl ?_
      exact qy_lay_3 ⟨hm, hn1, hn4, hz6, hFo, hFl, hFg, hFt, hFp, hFq, hFd, hFs, hht⟩ hx0 hx6 hy0 hy6 7 w 0 0 c hs (by omega) (by omega) (by omega) (by omega) hw (by rw [← ht, l2_, if_neg (by omega)]) (by omega)
    · refine am_E.go (t2 := (34, [vR o, vI x, vI y, vI p, v4], [vR o], aq_h m s F c)) rfl rfl ?_
      refine aq_gf (v := vR (o + 9)) rfl (by omega) hFo (by decide) rfl ?_
      show am_E _ (37, [vR o, vI x, vI y, vI p, v4], [vR (o + 9)], aq_h m s F c) _
      refine am_E.go (t2 := (38, [vR o, vI x, vI y, vI p, v4], [vI x, vR (o + 9)], aq_h m s F c)) rfl rfl ?_
      refine aq_al (ok := fun k => decide (3 ≤ k) && decide (k < 7)) (v := vR (o + 10 + x.toNat)) rfl rfl (by omega) hFp rfl (by omega) (by omega) (aq_gi (by omega)) ?_
      show am_E _ (39, [vR o, vI x, vI y, vI p, v4], [vR (o + 10 + x.toNat)], aq_h m s F c) _
      refine am_E.go (t2 := (40, [vR o, vI x, vI y, vI p, v4], [vI p, vR (o + 10 + x.toNat)], aq_h m s F c)) rfl rfl ?_
      refine aq_alt (ok := fun k => k == 0) rfl rfl (by omega) (hFq _ (by omega)) rfl (by omega) (by omega) ?_
      show am_E _ (41, [vR o, vI x, vI y, vI p, v4], [vI (th ((x.toNat : Nat) : Int) p)], aq_h m s F c) _
      have f_2 := hht ((x.toNat : Nat) : Int) p (by omega) (by omega) (by omega) (by omega)
      refine am_E.go (t2 := (42, [vR o, vI x, vI y, vI p, v4], [vR o, vI (th ((x.toNat : Nat) : Int) p)], aq_h m s F c)) rfl rfl ?_
      refine aq_gf (v := vI (n : Int)) rfl (by omega) hFo (by decide) rfl ?_
      show am_E _ (45, [vR o, vI x, vI y, vI p, v4], [vI (n : Int), vI (th ((x.toNat : Nat) : Int) p)], aq_h m s F c) _
      refine ae_icmp rfl (fun (q_3 : (th ((x.toNat : Nat) : Int) p) ≠ (n : Int)) => ?_) (fun (q_3 : (th ((x.toNat : Nat) : Int) p) = (n : Int)) => ?_)
      · refine ae_iinc rfl rfl (am_ri (by omega) (by omega)) ?_
        show am_E _ (74, [vR o, vI x, vI y, vI (p + 1), v4], [], aq_h m s F c) _
        refine am_E.go (t2 := (25, [vR o, vI x, vI y, vI (p + 1), v4], [], aq_h m s F c)) rfl rfl ?_
        exact qy_lay_2 ⟨hm, hn1, hn4, hz6, hFo, hFl, hFg, hFt, hFp, hFq, hFd, hFs, hht⟩ hx0 hx6 hy0 hy6 d w (p + 1) (v4) c hs (by omega) (by omega) hw (by rw [← ht, l2_, if_pos (by omega)]; first | rw [if_neg (by omega)] | rw [if_pos (by omega), if_neg (by omega)]) (by omega)
      · refine am_E.go (t2 := (49, [vR o, vI x, vI y, vI p, v4], [vR o], aq_h m s F c)) rfl rfl ?_
        refine am_E.go (t2 := (50, [vR o, vI x, vI y, vI p, v4], [vR o, vR o], aq_h m s F c)) rfl rfl ?_
        refine aq_gf (v := vR (o + 9)) rfl (by omega) hFo (by decide) rfl ?_
        show am_E _ (53, [vR o, vI x, vI y, vI p, v4], [vR (o + 9), vR o], aq_h m s F c) _
        refine am_E.go (t2 := (54, [vR o, vI x, vI y, vI p, v4], [vI x, vR (o + 9), vR o], aq_h m s F c)) rfl rfl ?_
        refine aq_al (ok := fun k => decide (3 ≤ k) && decide (k < 7)) (v := vR (o + 10 + x.toNat)) rfl rfl (by omega) hFp rfl (by omega) (by omega) (aq_gi (by omega)) ?_
        show am_E _ (55, [vR o, vI x, vI y, vI p, v4], [vR (o + 10 + x.toNat), vR o], aq_h m s F c) _
        refine am_E.go (t2 := (56, [vR o, vI x, vI y, vI p, v4], [vR o, vR (o + 10 + x.toNat), vR o], aq_h m s F c)) rfl rfl ?_
        refine aq_gf (v := vR (o + 9)) rfl (by omega) hFo (by decide) rfl ?_
        show am_E _ (59, [vR o, vI x, vI y, vI p, v4], [vR (o + 9), vR (o + 10 + x.toNat), vR o], aq_h m s F c) _
        refine am_E.go (t2 := (60, [vR o, vI x, vI y, vI p, v4], [vI y, vR (o + 9), vR (o + 10 + x.toNat), vR o], aq_h m s F c)) rfl rfl ?_
        refine aq_al (ok := fun k => decide (3 ≤ k) && decide (k < 7)) (v := vR (o + 10 + y.toNat)) rfl rfl (by omega) hFp rfl (by omega) (by omega) (aq_gi (by omega)) ?_
        show am_E _ (61, [vR o, vI x, vI y, vI p, v4], [vR (o + 10 + y.toNat), vR (o + 10 + x.toNat), vR o], aq_h m s F c) _
        refine am_E.go (t2 := (62, [vR o, vI x, vI y, vI p, v4], [vI p, vR (o + 10 + y.toNat), vR (o + 10 + x.toNat), vR o], aq_h m s F c)) rfl rfl ?_
        refine aq_callv (y := 4) (as2 := [vR (o + 10 + x.toNat), vR (o + 10 + y.toNat), vI p]) (rest := []) rfl rfl (by decide) (Nat.le_of_ble_eq_true rfl) rfl rfl (Nat.le_of_ble_eq_true rfl) (by omega) hFo rfl (Nat.le_of_ble_eq_true rfl) (qy_leadsOut ⟨hm, hn1, hn4, hz6, hFo, hFl, hFg, hFt, hFp, hFq, hFd, hFs, hht⟩ hx0 hx6 hy0 hy6 (p := p) (by omega) (by omega) hw) ?_
        rintro r5 h5 ⟨c_4, rfl, sc_4, rfl, hwc_4⟩
        show am_E _ (65, [vR o, vI x, vI y, vI p, v4], [vI ((lo_ (n : Int) (th ((x.toNat : Nat) : Int)) (th ((y.toNat : Nat) : Int)) 7 0 p w).1)], aq_h m s F c_4) _
        have hlb := lo_b (n := (n : Int)) (x := (th ((x.toNat : Nat) : Int))) (y := (th ((y.toNat : Nat) : Int))) 7 0 p w
        refine ae_if0 rfl (fun (q_5 : ((lo_ (n : Int) (th ((x.toNat : Nat) : Int)) (th ((y.toNat : Nat) : Int)) 7 0 p w).1) ≠ 0) => ?_) (fun (q_5 : ((lo_ (n : Int) (th ((x.toNat : Nat) : Int)) (th ((y.toNat : Nat) : Int)) 7 0 p w).1) = 0) => ?_)
        · refine ae_iinc rfl rfl (am_ri (by omega) (by omega)) ?_
          show am_E _ (74, [vR o, vI x, vI y, vI (p + 1), v4], [], aq_h m s F c_4) _
          refine am_E.go (t2 := (25, [vR o, vI x, vI y, vI (p + 1), v4], [], aq_h m s F c_4)) rfl rfl ?_
          exact qy_lay_2 ⟨hm, hn1, hn4, hz6, hFo, hFl, hFg, hFt, hFp, hFq, hFd, hFs, hht⟩ hx0 hx6 hy0 hy6 d (lo_ (n : Int) (th ((x.toNat : Nat) : Int)) (th ((y.toNat : Nat) : Int)) 7 0 p w).2 (p + 1) (v4) c_4 (aq_smt hs sc_4) (by omega) (by omega) hwc_4 (by rw [← ht, l2_, if_pos (by omega)]; first | rw [if_neg (by omega)] | rw [if_pos (by omega), if_neg (by omega)]) (by omega)
        · refine am_E.go (t2 := (70, [vR o, vI x, vI y, vI p, v4], [vI (-4)], aq_h m s F c_4)) rfl rfl ?_
          refine am_E.ret rfl rfl ?_
          refine ⟨_, rfl, (aq_smt hs sc_4), ?_⟩
          rw [← ht, l2_, if_pos (by omega), if_pos (by omega), if_pos (by omega)]

theorem qy_lay_1 {m s : Nat} {F : aq_F} {c0 : aq_C} {o n z : Nat} {tl : Int → Int} {th : Int → Int → Int} (hH : hv_0 m F o n z tl th) {x y : Int} (hx0 : 0 ≤ x) (hx6 : x < 6) (hy0 : 0 ≤ y) (hy6 : y < 6) {T : Int} : ∀ (d : Nat) (p : Int) (v4 : am_V) (c : aq_C) (hs : aq_sm (fun a => a = o + 17) c0 c) (h0 : 0 ≤ p) (h1 : p ≤ (n : Int)) (hz : ∀ i, 0 ≤ i → i < p → c (o + 17) i = (fun _ => 0) i) (ht : l2_ (n : Int) (th ((x.toNat : Nat) : Int)) (th ((y.toNat : Nat) : Int)) 7 0 (fun _ => 0) = T) (hd : (n : Int) - p < (d : Int)), am_E ac_X2_lay (2, [vR o, vI x, vI y, vI p, v4], [], aq_h m s F c) (aq_Z m s F (fun a => a = o + 17) c0 (fun r _ => r = some (vI T)))
  | 0, p, v4, c, hs, h0, h1, hz, ht, hd => by exfalso; omega
  | d + 1, p, v4, c, hs, h0, h1, hz, ht, hd => by
    obtain ⟨hm, hn1, hn4, hz6, hFo, hFl, hFg, hFt, hFp, hFq, hFd, hFs, hht⟩ := hH
    refine am_E.go (t2 := (3, [vR o, vI x, vI y, vI p, v4], [vI p], aq_h m s F c)) rfl rfl ?_
    refine am_E.go (t2 := (4, [vR o, vI x, vI y, vI p, v4], [vR o, vI p], aq_h m s F c)) rfl rfl ?_
    refine aq_gf (v := vI (n : Int)) rfl (by omega) hFo (by decide) rfl ?_
    show am_E _ (7, [vR o, vI x, vI y, vI p, v4], [vI (n : Int), vI p], aq_h m s F c) _
    refine ae_icmp rfl (fun (q_1 : (n : Int) ≤ p) => ?_) (fun (q_1 : p < (n : Int)) => ?_)
    · refine am_E.go (t2 := (24, [vR o, vI x, vI y, vI p, v4], [vI 0], aq_h m s F c)) rfl rfl ?_
      refine am_E.go (t2 := (25, [vR o, vI x, vI y, vI 0, v4], [], aq_h m s F c)) rfl rfl ?_
      exact qy_lay_2 ⟨hm, hn1, hn4, hz6, hFo, hFl, hFg, hFt, hFp, hFq, hFd, hFs, hht⟩ hx0 hx6 hy0 hy6 7 (fun _ => 0) 0 (v4) c hs (by omega) (by omega) (fun q q0 q1 => hz q q0 (by omega)) ht (by omega)
    · refine am_E.go (t2 := (11, [vR o, vI x, vI y, vI p, v4], [vR o], aq_h m s F c)) rfl rfl ?_
      refine aq_gf (v := vR (o + 17)) rfl (by omega) hFo (by decide) rfl ?_
      show am_E _ (14, [vR o, vI x, vI y, vI p, v4], [vR (o + 17)], aq_h m s F c) _
      refine am_E.go (t2 := (15, [vR o, vI x, vI y, vI p, v4], [vI p, vR (o + 17)], aq_h m s F c)) rfl rfl ?_
      refine am_E.go (t2 := (16, [vR o, vI x, vI y, vI p, v4], [vI 0, vI p, vR (o + 17)], aq_h m s F c)) rfl rfl ?_
      refine aq_as (kd := 1) rfl rfl (by omega) hFs (by omega) (by omega) rfl rfl ?_
      show am_E _ (17, [vR o, vI x, vI y, vI p, v4], [], aq_h m s F (aq_u c (o + 17) p 0)) _
      generalize hdc_2 : aq_u c (o + 17) p 0 = c_2
      have sc_2 := aq_smu hs hdc_2 rfl
      refine ae_iinc rfl rfl (am_ri (by omega) (by omega)) ?_
      show am_E _ (20, [vR o, vI x, vI y, vI (p + 1), v4], [], aq_h m s F c_2) _
      refine am_E.go (t2 := (2, [vR o, vI x, vI y, vI (p + 1), v4], [], aq_h m s F c_2)) rfl rfl ?_
      exact qy_lay_1 ⟨hm, hn1, hn4, hz6, hFo, hFl, hFg, hFt, hFp, hFq, hFd, hFs, hht⟩ hx0 hx6 hy0 hy6 d (p + 1) (v4) c_2 sc_2 (by omega) (by omega) (aq_fl hz hdc_2 rfl) ht (by omega)

theorem qy_lay {m s : Nat} {F : aq_F} {c : aq_C} {o n z : Nat} {tl : Int → Int} {th : Int → Int → Int} (hH : hv_0 m F o n z tl th) {x y : Int} (hx0 : 0 ≤ x) (hx6 : x < 6) (hy0 : 0 ≤ y) (hy6 : y < 6) : am_E ac_X2_lay (0, [vR o, vI x, vI y, vU, vU], [], aq_h m s F c) (aq_Z m s F (fun a => a = o + 17) c (fun r _ => r = some (vI (l2_ (n : Int) (th ((x.toNat : Nat) : Int)) (th ((y.toNat : Nat) : Int)) 7 0 (fun _ => 0))))) := by
  obtain ⟨hm, hn1, hn4, hz6, hFo, hFl, hFg, hFt, hFp, hFq, hFd, hFs, hht⟩ := hH
  refine am_E.go (t2 := (1, [vR o, vI x, vI y, vU, vU], [vI 0], aq_h m s F c)) rfl rfl ?_
  refine am_E.go (t2 := (2, [vR o, vI x, vI y, vI 0, vU], [], aq_h m s F c)) rfl rfl ?_
  exact qy_lay_1 ⟨hm, hn1, hn4, hz6, hFo, hFl, hFg, hFt, hFp, hFq, hFd, hFs, hht⟩ hx0 hx6 hy0 hy6 7 0 (vU) c (aq_sm0 (c := c) (S := (fun a => a = o + 17))) (by omega) (by omega) (fun i h1 h2 => absurd h2 (by omega)) rfl (by omega)

theorem qe_X4_form {m s : Nat} {F : aq_F} {c : aq_C} (hC : sb_C m F) (hI : cl_I c) {nn t i j : Int} : am_E ac_X4_form (0, [vR 0, vI nn, vI t, vI i, vI j, vU, vU], [], aq_h m s F c) (aq_Z m s F (fun a => a < 527) c (fun r d => r = some (vI (fm_a nn t i j)) ∧ cl_I d)) := by
  obtain ⟨hCm, hC0, hC1, hC2, hC3, ⟨hma4, hFa4, hFn4, hFp4, hFf4⟩, ⟨hmx, hFx, hFl, hFw⟩, hCs, hCb, hCh⟩ := id hC
  refine am_E.go (t2 := (1, [vR 0, vI nn, vI t, vI i, vI j, vU, vU], [vI nn], aq_h m s F c)) rfl rfl ?_
  refine am_E.go (t2 := (2, [vR 0, vI nn, vI t, vI i, vI j, vU, vU], [vI t, vI nn], aq_h m s F c)) rfl rfl ?_
  refine am_E.call rfl rfl rfl (Nat.le_of_ble_eq_true rfl) (qn_X4_isThrough) ?_
  rintro r5 h5 ⟨rfl, v_1, rfl, hv_1⟩
  show am_E _ (5, [vR 0, vI nn, vI t, vI i, vI j, vU, vU], [vI v_1], aq_h m s F c) _
  refine ae_if0 rfl (fun (q_2 : v_1 ≠ 0) => ?_) (fun (q_2 : v_1 = 0) => ?_)
  · refine am_E.go (t2 := (11, [vR 0, vI nn, vI t, vI i, vI j, vU, vU], [vR 0], aq_h m s F c)) rfl rfl ?_
    refine aq_gf (v := vR 2) rfl (by omega) hC0 (by decide) rfl ?_
    show am_E _ (14, [vR 0, vI nn, vI t, vI i, vI j, vU, vU], [vR 2], aq_h m s F c) _
    refine am_E.go (t2 := (15, [vR 0, vI nn, vI t, vI i, vI j, vU, vU], [vI nn, vR 2], aq_h m s F c)) rfl rfl ?_
    refine am_E.go (t2 := (16, [vR 0, vI nn, vI t, vI i, vI j, vU, vU], [vI 1, vI nn, vR 2], aq_h m s F c)) rfl rfl ?_
    refine ae_sub rfl (am_ri (by omega) (by omega)) ?_
    show am_E _ (17, [vR 0, vI nn, vI t, vI i, vI j, vU, vU], [vI (nn - 1), vR 2], aq_h m s F c) _
    obtain ⟨o, n, e_o, e_n, z, tl, th, ⟨hm, hn1, hn4, hz6, hFo, hFl, hFg, hFt, hFp, hFq, hFd, hFs, hht⟩, hve⟩ := sb_half hC (i := (nn - 1)) (by omega) (by omega)
    have hb := sb_hnd 0 (by omega) ((nn - 1)).toNat (by omega)
    rw [e_o] at hb
    refine aq_al (ok := fun k => decide (3 ≤ k) && decide (k < 7)) (v := vR o) rfl rfl (by omega) hC2 rfl (by omega) (by omega) (aq_gi2 (by omega) e_o) ?_
    show am_E _ (18, [vR 0, vI nn, vI t, vI i, vI j, vU, vU], [vR o], aq_h m s F c) _
    refine am_E.go (t2 := (19, [vR 0, vI nn, vI t, vI i, vI j, vU, vU], [vI t, vR o], aq_h m s F c)) rfl rfl ?_
    refine am_E.go (t2 := (20, [vR 0, vI nn, vI t, vI i, vI j, vU, vU], [vI i, vI t, vR o], aq_h m s F c)) rfl rfl ?_
    refine aq_callv (y := 3) (as2 := [vI t, vI i]) (rest := []) rfl rfl (by decide) (Nat.le_of_ble_eq_true rfl) rfl rfl (Nat.le_of_ble_eq_true rfl) (by omega) hFo rfl (Nat.le_of_ble_eq_true rfl) (qy_find ⟨hm, hn1, hn4, hz6, hFo, hFl, hFg, hFt, hFp, hFq, hFd, hFs, hht⟩) ?_
    rintro r5 h5 ⟨rfl, rfl⟩
    show am_E _ (23, [vR 0, vI nn, vI t, vI i, vI j, vU, vU], [vI (fi_ (z : Int) t i tl 7 0 0)], aq_h m s F c) _
    have hb_3 := fi_b2 (z := (z : Int)) (t := t) (i := i) (f := tl) 7 0 0
    refine am_E.go (t2 := (25, [vR 0, vI nn, vI t, vI i, vI j, vI (fi_ (z : Int) t i tl 7 0 0), vU], [], aq_h m s F c)) rfl rfl ?_
    refine am_E.go (t2 := (26, [vR 0, vI nn, vI t, vI i, vI j, vI (fi_ (z : Int) t i tl 7 0 0), vU], [vR 0], aq_h m s F c)) rfl rfl ?_
    refine aq_gf (v := vR 2) rfl (by omega) hC0 (by decide) rfl ?_
    show am_E _ (29, [vR 0, vI nn, vI t, vI i, vI j, vI (fi_ (z : Int) t i tl 7 0 0), vU], [vR 2], aq_h m s F c) _
    refine am_E.go (t2 := (30, [vR 0, vI nn, vI t, vI i, vI j, vI (fi_ (z : Int) t i tl 7 0 0), vU], [vI nn, vR 2], aq_h m s F c)) rfl rfl ?_
    refine am_E.go (t2 := (31, [vR 0, vI nn, vI t, vI i, vI j, vI (fi_ (z : Int) t i tl 7 0 0), vU], [vI 1, vI nn, vR 2], aq_h m s F c)) rfl rfl ?_
    refine ae_sub rfl (am_ri (by omega) (by omega)) ?_
    show am_E _ (32, [vR 0, vI nn, vI t, vI i, vI j, vI (fi_ (z : Int) t i tl 7 0 0), vU], [vI (nn - 1), vR 2], aq_h m s F c) _
    refine aq_al (ok := fun k => decide (3 ≤ k) && decide (k < 7)) (v := vR o) rfl rfl (by omega) hC2 rfl (by omega) (by omega) (aq_gi2 (by omega) e_o) ?_
    show am_E _ (33, [vR 0, vI nn, vI t, vI i, vI j, vI (fi_ (z : Int) t i tl 7 0 0), vU], [vR o], aq_h m s F c) _
    refine am_E.go (t2 := (34, [vR 0, vI nn, vI t, vI i, vI j, vI (fi_ (z : Int) t i tl 7 0 0), vU], [vI t, vR o], aq_h m s F c)) rfl rfl ?_
    refine am_E.go (t2 := (36, [vR 0, vI nn, vI t, vI i, vI j, vI (fi_ (z : Int) t i tl 7 0 0), vU], [vI j, vI t, vR o], aq_h m s F c)) rfl rfl ?_
    refine aq_callv (y := 3) (as2 := [vI t, vI j]) (rest := []) rfl rfl (by decide) (Nat.le_of_ble_eq_true rfl) rfl rfl (Nat.le_of_ble_eq_true rfl) (by omega) hFo rfl (Nat.le_of_ble_eq_true rfl) (qy_find ⟨hm, hn1, hn4, hz6, hFo, hFl, hFg, hFt, hFp, hFq, hFd, hFs, hht⟩) ?_
    rintro r5 h5 ⟨rfl, rfl⟩
    show am_E _ (39, [vR 0, vI nn, vI t, vI i, vI j, vI (fi_ (z : Int) t i tl 7 0 0), vU], [vI (fi_ (z : Int) t j tl 7 0 0)], aq_h m s F c) _
    have hb_4 := fi_b2 (z := (z : Int)) (t := t) (i := j) (f := tl) 7 0 0
    refine am_E.go (t2 := (41, [vR 0, vI nn, vI t, vI i, vI j, vI (fi_ (z : Int) t i tl 7 0 0), vI (fi_ (z : Int) t j tl 7 0 0)], [], aq_h m s F c)) rfl rfl ?_
    refine am_E.go (t2 := (43, [vR 0, vI nn, vI t, vI i, vI j, vI (fi_ (z : Int) t i tl 7 0 0), vI (fi_ (z : Int) t j tl 7 0 0)], [vI (fi_ (z : Int) t i tl 7 0 0)], aq_h m s F c)) rfl rfl ?_
    refine ae_if0 rfl (fun (q_5 : (fi_ (z : Int) t i tl 7 0 0) < 0) => ?_) (fun (q_5 : 0 ≤ (fi_ (z : Int) t i tl 7 0 0)) => ?_)
    · refine am_E.go (t2 := (52, [vR 0, vI nn, vI t, vI i, vI j, vI (fi_ (z : Int) t i tl 7 0 0), vI (fi_ (z : Int) t j tl 7 0 0)], [vI (-1)], aq_h m s F c)) rfl rfl ?_
      refine am_E.ret rfl rfl ?_
      have e2 : (n : Int) = nn := by omega
      have efi : ∀ q, fi_ (z : Int) t q tl 7 0 0 = fi_ (hx_z nn) t q (hx_l nn) 7 0 0 := fun q => by rw [hve.1, e2]; exact fi_c2 (fun h h0 h1 => by have := (hve.2 h h0 (by rw [e2]; exact h1)).1; rw [e2] at this; exact this) 7 0 0 (by omega)
      refine ⟨_, rfl, (aq_sm0 (S := fun a => a < 527)), ?_, hI⟩
      rw [fm_a, if_neg]
      rintro ⟨⟨g1, g2, g3, g4⟩, ⟨g5, g6⟩, g7, g8⟩
      have u1 := (fo_kn g1 g2 g3 g4 g5 g6 g7 g8).2.1
      have u2 := (fo_kn g1 g2 g3 g4 g7 g8 g5 g6).2.1
      rw [← efi] at u1 u2
      omega
    · refine am_E.go (t2 := (48, [vR 0, vI nn, vI t, vI i, vI j, vI (fi_ (z : Int) t i tl 7 0 0), vI (fi_ (z : Int) t j tl 7 0 0)], [vI (fi_ (z : Int) t j tl 7 0 0)], aq_h m s F c)) rfl rfl ?_
      refine ae_if0 rfl (fun (q_6 : 0 ≤ (fi_ (z : Int) t j tl 7 0 0)) => ?_) (fun (q_6 : (fi_ (z : Int) t j tl 7 0 0) < 0) => ?_)
      · refine am_E.go (t2 := (54, [vR 0, vI nn, vI t, vI i, vI j, vI (fi_ (z : Int) t i tl 7 0 0), vI (fi_ (z : Int) t j tl 7 0 0)], [vR 0], aq_h m s F c)) rfl rfl ?_
        refine aq_gf (v := vR 2) rfl (by omega) hC0 (by decide) rfl ?_
        show am_E _ (57, [vR 0, vI nn, vI t, vI i, vI j, vI (fi_ (z : Int) t i tl 7 0 0), vI (fi_ (z : Int) t j tl 7 0 0)], [vR 2], aq_h m s F c) _
        refine am_E.go (t2 := (58, [vR 0, vI nn, vI t, vI i, vI j, vI (fi_ (z : Int) t i tl 7 0 0), vI (fi_ (z : Int) t j tl 7 0 0)], [vI nn, vR 2], aq_h m s F c)) rfl rfl ?_
        refine am_E.go (t2 := (59, [vR 0, vI nn, vI t, vI i, vI j, vI (fi_ (z : Int) t i tl 7 0 0), vI (fi_ (z : Int) t j tl 7 0 0)], [vI 1, vI nn, vR 2], aq_h m s F c)) rfl rfl ?_
        refine ae_sub rfl (am_ri (by omega) (by omega)) ?_
        show am_E _ (60, [vR 0, vI nn, vI t, vI i, vI j, vI (fi_ (z : Int) t i tl 7 0 0), vI (fi_ (z : Int) t j tl 7 0 0)], [vI (nn - 1), vR 2], aq_h m s F c) _
        refine aq_al (ok := fun k => decide (3 ≤ k) && decide (k < 7)) (v := vR o) rfl rfl (by omega) hC2 rfl (by omega) (by omega) (aq_gi2 (by omega) e_o) ?_
        show am_E _ (61, [vR 0, vI nn, vI t, vI i, vI j, vI (fi_ (z : Int) t i tl 7 0 0), vI (fi_ (z : Int) t j tl 7 0 0)], [vR o], aq_h m s F c) _
        refine am_E.go (t2 := (63, [vR 0, vI nn, vI t, vI i, vI j, vI (fi_ (z : Int) t i tl 7 0 0), vI (fi_ (z : Int) t j tl 7 0 0)], [vI (fi_ (z : Int) t i tl 7 0 0), vR o], aq_h m s F c)) rfl rfl ?_
        refine am_E.go (t2 := (65, [vR 0, vI nn, vI t, vI i, vI j, vI (fi_ (z : Int) t i tl 7 0 0), vI (fi_ (z : Int) t j tl 7 0 0)], [vI (fi_ (z : Int) t j tl 7 0 0), vI (fi_ (z : Int) t i tl 7 0 0), vR o], aq_h m s F c)) rfl rfl ?_
        refine aq_callv (y := 3) (as2 := [vI (fi_ (z : Int) t i tl 7 0 0), vI (fi_ (z : Int) t j tl 7 0 0)]) (rest := []) rfl rfl (by decide) (Nat.le_of_ble_eq_true rfl) rfl rfl (Nat.le_of_ble_eq_true rfl) (by omega) hFo rfl (Nat.le_of_ble_eq_true rfl) (qy_lay ⟨hm, hn1, hn4, hz6, hFo, hFl, hFg, hFt, hFp, hFq, hFd, hFs, hht⟩ (x := (fi_ (z : Int) t i tl 7 0 0)) (y := (fi_ (z : Int) t j tl 7 0 0)) (by omega) (by omega) (by omega) (by omega)) ?_
        rintro r5 h5 ⟨c_b, rfl, s_b, rfl⟩
        show am_E _ (68, [vR 0, vI nn, vI t, vI i, vI j, vI (fi_ (z : Int) t i tl 7 0 0), vI (fi_ (z : Int) t j tl 7 0 0)], [vI (l2_ (n : Int) (th (((fi_ (z : Int) t i tl 7 0 0).toNat : Nat) : Int)) (th (((fi_ (z : Int) t j tl 7 0 0).toNat : Nat) : Int)) 7 0 (fun _ => 0))], aq_h m s F c_b) _
        refine am_E.ret rfl rfl ?_
        have e2 : (n : Int) = nn := by omega
        have efi : ∀ q, fi_ (z : Int) t q tl 7 0 0 = fi_ (hx_z nn) t q (hx_l nn) 7 0 0 := fun q => by rw [hve.1, e2]; exact fi_c2 (fun h h0 h1 => by have := (hve.2 h h0 (by rw [e2]; exact h1)).1; rw [e2] at this; exact this) 7 0 0 (by omega)
        refine ⟨_, rfl, (aq_smt (aq_sm0 (S := fun a => a < 527)) (aq_smi s_b (fun a h => by omega))), ?_, cl_h hI (j := ((nn - 1)).toNat) (by omega) (by rw [e_o]; exact aq_smi s_b (fun a h => by omega))⟩
        have ei : 0 ≤ i ∧ i < hv_N nn t := by
          by_cases e : 0 ≤ i ∧ i < hv_N nn t
          · exact e
          · have := fi_no (z := hx_z nn) (t := t) (i := i) (f := hx_l nn) 7 0 0 (by rw [hs_e (by omega) (by omega) (by omega) (by omega)]; omega)
            rw [← efi] at this
            omega
        have ej : 0 ≤ j ∧ j < hv_N nn t := by
          by_cases e : 0 ≤ j ∧ j < hv_N nn t
          · exact e
          · have := fi_no (z := hx_z nn) (t := t) (i := j) (f := hx_l nn) 7 0 0 (by rw [hs_e (by omega) (by omega) (by omega) (by omega)]; omega)
            rw [← efi] at this
            omega
        have u1 := fo_kn (n := nn) (t := t) (by omega) (by omega) (by omega) (by omega) ei.1 ei.2 ej.1 ej.2
        have u2 := fo_kn (n := nn) (t := t) (by omega) (by omega) (by omega) (by omega) ej.1 ej.2 ei.1 ei.2
        rw [← efi, ← efi] at u1
        rw [← efi, ← efi] at u2
        have ev : ∀ q : Int, 0 ≤ q → q < hx_z nn → ∀ p, 0 ≤ p → p < nn → th ((q.toNat : Nat) : Int) p = hx_d nn q p := fun q q0 q1 p p0 p1 => by
          have := (hve.2 q q0 (by rw [e2]; exact q1)).2 p p0 (by rw [e2]; exact p1)
          rw [e2] at this
          rw [Int.toNat_of_nonneg q0]
          exact this
        have er : ∀ q : Int, 0 ≤ q → q < hx_z nn → ∀ p, 0 ≤ p → p < nn → 0 ≤ hx_d nn q p ∧ hx_d nn q p ≤ nn := by
          have := hx_b hn1 hn4
          rw [e2] at this
          exact this
        rw [fm_a, if_pos (by omega), ← u1.1, e2, l2_c (ev _ u1.2.1 u1.2.2) (ev _ u2.2.1 u2.2.2) (er _ u1.2.1 u1.2.2) (er _ u2.2.1 u2.2.2) 7 0 _ (by omega)]
      · refine am_E.go (t2 := (52, [vR 0, vI nn, vI t, vI i, vI j, vI (fi_ (z : Int) t i tl 7 0 0), vI (fi_ (z : Int) t j tl 7 0 0)], [vI (-1)], aq_h m s F c)) rfl rfl ?_
        refine am_E.ret rfl rfl ?_
        have e2 : (n : Int) = nn := by omega
        have efi : ∀ q, fi_ (z : Int) t q tl 7 0 0 = fi_ (hx_z nn) t q (hx_l nn) 7 0 0 := fun q => by rw [hve.1, e2]; exact fi_c2 (fun h h0 h1 => by have := (hve.2 h h0 (by rw [e2]; exact h1)).1; rw [e2] at this; exact this) 7 0 0 (by omega)
        refine ⟨_, rfl, (aq_sm0 (S := fun a => a < 527)), ?_, hI⟩
        rw [fm_a, if_neg]
        rintro ⟨⟨g1, g2, g3, g4⟩, ⟨g5, g6⟩, g7, g8⟩
        have u1 := (fo_kn g1 g2 g3 g4 g5 g6 g7 g8).2.1
        have u2 := (fo_kn g1 g2 g3 g4 g7 g8 g5 g6).2.1
        rw [← efi] at u1 u2
        omega
  · refine am_E.go (t2 := (9, [vR 0, vI nn, vI t, vI i, vI j, vU, vU], [vI (-1)], aq_h m s F c)) rfl rfl ?_
    refine am_E.ret rfl rfl ?_
    exact ⟨_, rfl, (aq_sm0 (S := fun a => a < 527)), by rw [fm_a, if_neg (by omega)], hI⟩
/-! The reference: the answers of form. Printed by wip/p20/sx/gEFm.py. -/

theorem qz_formOf {m s : Nat} {F : aq_F} {c : aq_C} {y : Nat} (hO : mo_0 m F y) {n t i j : Int} (hn1 : 1 ≤ n) (hn4 : n ≤ 4) (ht0 : 0 ≤ t) (ht1 : t ≤ n) (hi0 : 0 ≤ i) (hi1 : i < hv_N n t) (hj0 : 0 ≤ j) (hj1 : j < hv_N n t) (hA : ∀ p, 0 ≤ p → p < n → c (y + 18) p = hv_d n t i p) (hB : ∀ p, 0 ≤ p → p < n → c (y + 19) p = hv_d n t j p) : am_E ac_X5_formOf (0, [vR y, vI n, vU, vU, vU, vU, vU], [], aq_h m s F c) (aq_Z m s F (fun a => a = y + 13) c (fun r _ => r = some (vI (fo_v n t i j)))) := by
  have h : n = 1 ∨ n = 2 ∨ n = 3 ∨ n = 4 := by omega
  rcases h with h | h | h | h <;> subst h
  · have h : t = 0 ∨ t = 1 := by omega
    rcases h with h | h <;> subst h
    · have hN : hv_N 1 0 = 0 := rfl
      exfalso; omega
    · have hN : hv_N 1 1 = 1 := rfl
      have hi : i = 0 := by omega
      have hj : j = 0 := by omega
      subst hi
      subst hj
      exact (qm_fo_1100 hO (hA 0 (by decide) (by decide)) (hB 0 (by decide) (by decide))).imp (fun r h2 ⟨d, e1, e2, e3⟩ => ⟨d, e1, e2, e3⟩)
  · have h : t = 0 ∨ t = 1 ∨ t = 2 := by omega
    rcases h with h | h | h <;> subst h
    · have hN : hv_N 2 0 = 1 := rfl
      have hi : i = 0 := by omega
      have hj : j = 0 := by omega
      subst hi
      subst hj
      exact (qm_fo_2000 hO (hA 0 (by decide) (by decide)) (hA 1 (by decide) (by decide)) (hB 0 (by decide) (by decide)) (hB 1 (by decide) (by decide))).imp (fun r h2 ⟨d, e1, e2, e3⟩ => ⟨d, e1, e2, e3⟩)
    · have hN : hv_N 2 1 = 0 := rfl
      exfalso; omega
    · have hN : hv_N 2 2 = 1 := rfl
      have hi : i = 0 := by omega
      have hj : j = 0 := by omega
      subst hi
      subst hj
      exact (qm_fo_2200 hO (hA 0 (by decide) (by decide)) (hA 1 (by decide) (by decide)) (hB 0 (by decide) (by decide)) (hB 1 (by decide) (by decide))).imp (fun r h2 ⟨d, e1, e2, e3⟩ => ⟨d, e1, e2, e3⟩)
  · have h : t = 0 ∨ t = 1 ∨ t = 2 ∨ t = 3 := by omega
    rcases h with h | h | h | h <;> subst h
    · have hN : hv_N 3 0 = 0 := rfl
      exfalso; omega
    · have hN : hv_N 3 1 = 2 := rfl
      have hi : i = 0 ∨ i = 1 := by omega
      have hj : j = 0 ∨ j = 1 := by omega
      rcases hi with hi | hi <;> rcases hj with hj | hj <;> subst hi <;> subst hj
      · exact (qm_fo_3100 hO (hA 0 (by decide) (by decide)) (hA 1 (by decide) (by decide)) (hA 2 (by decide) (by decide)) (hB 0 (by decide) (by decide)) (hB 1 (by decide) (by decide)) (hB 2 (by decide) (by decide))).imp (fun r h2 ⟨d, e1, e2, e3⟩ => ⟨d, e1, e2, e3⟩)
      · exact (qm_fo_3101 hO (hA 0 (by decide) (by decide)) (hA 1 (by decide) (by decide)) (hA 2 (by decide) (by decide)) (hB 0 (by decide) (by decide)) (hB 1 (by decide) (by decide)) (hB 2 (by decide) (by decide))).imp (fun r h2 ⟨d, e1, e2, e3⟩ => ⟨d, e1, e2, e3⟩)
      · exact (qm_fo_3110 hO (hA 0 (by decide) (by decide)) (hA 1 (by decide) (by decide)) (hA 2 (by decide) (by decide)) (hB 0 (by decide) (by decide)) (hB 1 (by decide) (by decide)) (hB 2 (by decide) (by decide))).imp (fun r h2 ⟨d, e1, e2, e3⟩ => ⟨d, e1, e2, e3⟩)
      · exact (qm_fo_3111 hO (hA 0 (by decide) (by decide)) (hA 1 (by decide) (by decide)) (hA 2 (by decide) (by decide)) (hB 0 (by decide) (by decide)) (hB 1 (by decide) (by decide)) (hB 2 (by decide) (by decide))).imp (fun r h2 ⟨d, e1, e2, e3⟩ => ⟨d, e1, e2, e3⟩)
    · have hN : hv_N 3 2 = 0 := rfl
      exfalso; omega
    · have hN : hv_N 3 3 = 1 := rfl
      have hi : i = 0 := by omega
      have hj : j = 0 := by omega
      subst hi
      subst hj
      exact (qm_fo_3300 hO (hA 0 (by decide) (by decide)) (hA 1 (by decide) (by decide)) (hA 2 (by decide) (by decide)) (hB 0 (by decide) (by decide)) (hB 1 (by decide) (by decide)) (hB 2 (by decide) (by decide))).imp (fun r h2 ⟨d, e1, e2, e3⟩ => ⟨d, e1, e2, e3⟩)
  · have h : t = 0 ∨ t = 1 ∨ t = 2 ∨ t = 3 ∨ t = 4 := by omega
    rcases h with h | h | h | h | h <;> subst h
    · have hN : hv_N 4 0 = 2 := rfl
      have hi : i = 0 ∨ i = 1 := by omega
      have hj : j = 0 ∨ j = 1 := by omega
      rcases hi with hi | hi <;> rcases hj with hj | hj <;> subst hi <;> subst hj
      · exact (qm_fo_4000 hO (hA 0 (by decide) (by decide)) (hA 1 (by decide) (by decide)) (hA 2 (by decide) (by decide)) (hA 3 (by decide) (by decide)) (hB 0 (by decide) (by decide)) (hB 1 (by decide) (by decide)) (hB 2 (by decide) (by decide)) (hB 3 (by decide) (by decide))).imp (fun r h2 ⟨d, e1, e2, e3⟩ => ⟨d, e1, e2, e3⟩)
      · exact (qm_fo_4001 hO (hA 0 (by decide) (by decide)) (hA 1 (by decide) (by decide)) (hA 2 (by decide) (by decide)) (hA 3 (by decide) (by decide)) (hB 0 (by decide) (by decide)) (hB 1 (by decide) (by decide)) (hB 2 (by decide) (by decide)) (hB 3 (by decide) (by decide))).imp (fun r h2 ⟨d, e1, e2, e3⟩ => ⟨d, e1, e2, e3⟩)
      · exact (qm_fo_4010 hO (hA 0 (by decide) (by decide)) (hA 1 (by decide) (by decide)) (hA 2 (by decide) (by decide)) (hA 3 (by decide) (by decide)) (hB 0 (by decide) (by decide)) (hB 1 (by decide) (by decide)) (hB 2 (by decide) (by decide)) (hB 3 (by decide) (by decide))).imp (fun r h2 ⟨d, e1, e2, e3⟩ => ⟨d, e1, e2, e3⟩)
      · exact (qm_fo_4011 hO (hA 0 (by decide) (by decide)) (hA 1 (by decide) (by decide)) (hA 2 (by decide) (by decide)) (hA 3 (by decide) (by decide)) (hB 0 (by decide) (by decide)) (hB 1 (by decide) (by decide)) (hB 2 (by decide) (by decide)) (hB 3 (by decide) (by decide))).imp (fun r h2 ⟨d, e1, e2, e3⟩ => ⟨d, e1, e2, e3⟩)
    · have hN : hv_N 4 1 = 0 := rfl
      exfalso; omega
    · have hN : hv_N 4 2 = 3 := rfl
      have hi : i = 0 ∨ i = 1 ∨ i = 2 := by omega
      have hj : j = 0 ∨ j = 1 ∨ j = 2 := by omega
      rcases hi with hi | hi | hi <;> rcases hj with hj | hj | hj <;> subst hi <;> subst hj
      · exact (qm_fo_4200 hO (hA 0 (by decide) (by decide)) (hA 1 (by decide) (by decide)) (hA 2 (by decide) (by decide)) (hA 3 (by decide) (by decide)) (hB 0 (by decide) (by decide)) (hB 1 (by decide) (by decide)) (hB 2 (by decide) (by decide)) (hB 3 (by decide) (by decide))).imp (fun r h2 ⟨d, e1, e2, e3⟩ => ⟨d, e1, e2, e3⟩)
      · exact (qm_fo_4201 hO (hA 0 (by decide) (by decide)) (hA 1 (by decide) (by decide)) (hA 2 (by decide) (by decide)) (hA 3 (by decide) (by decide)) (hB 0 (by decide) (by decide)) (hB 1 (by decide) (by decide)) (hB 2 (by decide) (by decide)) (hB 3 (by decide) (by decide))).imp (fun r h2 ⟨d, e1, e2, e3⟩ => ⟨d, e1, e2, e3⟩)
      · exact (qm_fo_4202 hO (hA 0 (by decide) (by decide)) (hA 1 (by decide) (by decide)) (hA 2 (by decide) (by decide)) (hA 3 (by decide) (by decide)) (hB 0 (by decide) (by decide)) (hB 1 (by decide) (by decide)) (hB 2 (by decide) (by decide)) (hB 3 (by decide) (by decide))).imp (fun r h2 ⟨d, e1, e2, e3⟩ => ⟨d, e1, e2, e3⟩)
      · exact (qm_fo_4210 hO (hA 0 (by decide) (by decide)) (hA 1 (by decide) (by decide)) (hA 2 (by decide) (by decide)) (hA 3 (by decide) (by decide)) (hB 0 (by decide) (by decide)) (hB 1 (by decide) (by decide)) (hB 2 (by decide) (by decide)) (hB 3 (by decide) (by decide))).imp (fun r h2 ⟨d, e1, e2, e3⟩ => ⟨d, e1, e2, e3⟩)
      · exact (qm_fo_4211 hO (hA 0 (by decide) (by decide)) (hA 1 (by decide) (by decide)) (hA 2 (by decide) (by decide)) (hA 3 (by decide) (by decide)) (hB 0 (by decide) (by decide)) (hB 1 (by decide) (by decide)) (hB 2 (by decide) (by decide)) (hB 3 (by decide) (by decide))).imp (fun r h2 ⟨d, e1, e2, e3⟩ => ⟨d, e1, e2, e3⟩)
      · exact (qm_fo_4212 hO (hA 0 (by decide) (by decide)) (hA 1 (by decide) (by decide)) (hA 2 (by decide) (by decide)) (hA 3 (by decide) (by decide)) (hB 0 (by decide) (by decide)) (hB 1 (by decide) (by decide)) (hB 2 (by decide) (by decide)) (hB 3 (by decide) (by decide))).imp (fun r h2 ⟨d, e1, e2, e3⟩ => ⟨d, e1, e2, e3⟩)
      · exact (qm_fo_4220 hO (hA 0 (by decide) (by decide)) (hA 1 (by decide) (by decide)) (hA 2 (by decide) (by decide)) (hA 3 (by decide) (by decide)) (hB 0 (by decide) (by decide)) (hB 1 (by decide) (by decide)) (hB 2 (by decide) (by decide)) (hB 3 (by decide) (by decide))).imp (fun r h2 ⟨d, e1, e2, e3⟩ => ⟨d, e1, e2, e3⟩)
      · exact (qm_fo_4221 hO (hA 0 (by decide) (by decide)) (hA 1 (by decide) (by decide)) (hA 2 (by decide) (by decide)) (hA 3 (by decide) (by decide)) (hB 0 (by decide) (by decide)) (hB 1 (by decide) (by decide)) (hB 2 (by decide) (by decide)) (hB 3 (by decide) (by decide))).imp (fun r h2 ⟨d, e1, e2, e3⟩ => ⟨d, e1, e2, e3⟩)
      · exact (qm_fo_4222 hO (hA 0 (by decide) (by decide)) (hA 1 (by decide) (by decide)) (hA 2 (by decide) (by decide)) (hA 3 (by decide) (by decide)) (hB 0 (by decide) (by decide)) (hB 1 (by decide) (by decide)) (hB 2 (by decide) (by decide)) (hB 3 (by decide) (by decide))).imp (fun r h2 ⟨d, e1, e2, e3⟩ => ⟨d, e1, e2, e3⟩)
    · have hN : hv_N 4 3 = 0 := rfl
      exfalso; omega
    · have hN : hv_N 4 4 = 1 := rfl
      have hi : i = 0 := by omega
      have hj : j = 0 := by omega
      subst hi
      subst hj
      exact (qm_fo_4400 hO (hA 0 (by decide) (by decide)) (hA 1 (by decide) (by decide)) (hA 2 (by decide) (by decide)) (hA 3 (by decide) (by decide)) (hB 0 (by decide) (by decide)) (hB 1 (by decide) (by decide)) (hB 2 (by decide) (by decide)) (hB 3 (by decide) (by decide))).imp (fun r h2 ⟨d, e1, e2, e3⟩ => ⟨d, e1, e2, e3⟩)

theorem qe_X5_form {m s : Nat} {F : aq_F} {c : aq_C} {y : Nat} (hC : mo_C m F y) (hI : mo_I y c) {n t i j : Int} : am_E ac_X5_form (0, [vR y, vI n, vI t, vI i, vI j, vU, vU, vU], [], aq_h m s F c) (aq_Z m s F (fun a => y ≤ a ∧ a < y + 24) c (fun r d => r = some (vI (fm_a n t i j)) ∧ mo_I y d)) := by
  obtain ⟨⟨hm, hFo, hG5, hG6, hG7, hG8, hG9, hG10, hG11, hG12, hG13, hG14, hG15, hG16, hG17, hG18, hG19, hG20, hG21, hG22, hG23⟩, ⟨tbl, hT1, hTt⟩, ⟨tA, tB, tD, hL1, hL2, hL3, hLt⟩⟩ := hC
  refine am_E.go (t2 := (1, [vR y, vI n, vI t, vI i, vI j, vU, vU, vU], [vI n], aq_h m s F c)) rfl rfl ?_
  refine am_E.go (t2 := (2, [vR y, vI n, vI t, vI i, vI j, vU, vU, vU], [vI t, vI n], aq_h m s F c)) rfl rfl ?_
  refine am_E.call rfl rfl rfl (Nat.le_of_ble_eq_true rfl) (qm_areHalves) ?_
  rintro r5 h5 ⟨rfl, v_1, rfl, hv_1⟩
  show am_E _ (5, [vR y, vI n, vI t, vI i, vI j, vU, vU, vU], [vI v_1], aq_h m s F c) _
  refine ae_if0 rfl (fun (q_2 : v_1 ≠ 0) => ?_) (fun (q_2 : v_1 = 0) => ?_)
  · refine am_E.go (t2 := (11, [vR y, vI n, vI t, vI i, vI j, vU, vU, vU], [vR y], aq_h m s F c)) rfl rfl ?_
    refine am_E.go (t2 := (12, [vR y, vI n, vI t, vI i, vI j, vU, vU, vU], [vI n, vR y], aq_h m s F c)) rfl rfl ?_
    refine am_E.go (t2 := (13, [vR y, vI n, vI t, vI i, vI j, vU, vU, vU], [vI t, vI n, vR y], aq_h m s F c)) rfl rfl ?_
    refine am_E.go (t2 := (14, [vR y, vI n, vI t, vI i, vI j, vU, vU, vU], [vI (-1), vI t, vI n, vR y], aq_h m s F c)) rfl rfl ?_
    refine am_E.go (t2 := (15, [vR y, vI n, vI t, vI i, vI j, vU, vU, vU], [vR y, vI (-1), vI t, vI n, vR y], aq_h m s F c)) rfl rfl ?_
    refine aq_gf (v := vR (y + 18)) rfl (by omega) hFo (by decide) rfl ?_
    show am_E _ (18, [vR y, vI n, vI t, vI i, vI j, vU, vU, vU], [vR (y + 18), vI (-1), vI t, vI n, vR y], aq_h m s F c) _
    refine aq_callv (y := 5) (as2 := [vI n, vI t, vI (-1), vR (y + 18)]) (rest := []) rfl rfl (by decide) (Nat.le_of_ble_eq_true rfl) rfl rfl (Nat.le_of_ble_eq_true rfl) (by omega) hFo rfl (Nat.le_of_ble_eq_true rfl) (qm_lay (y := y) (a := y + 18) (by omega) hFo (by omega) hG18 (n := n) (t := t) (by omega) (by omega) (by omega) (by omega) (Or.inl rfl)) ?_
    rintro r5 h5 ⟨c_3, rfl, sc_3, vc_3, rfl, hmc_3, hdc_3⟩
    show am_E _ (21, [vR y, vI n, vI t, vI i, vI j, vU, vU, vU], [vI vc_3], aq_h m s F c_3) _
    have hm5 := hmc_3 rfl
    have hNb := hv_Nb n t
    refine am_E.go (t2 := (23, [vR y, vI n, vI t, vI i, vI j, vI vc_3, vU, vU], [], aq_h m s F c_3)) rfl rfl ?_
    refine am_E.go (t2 := (24, [vR y, vI n, vI t, vI i, vI j, vI vc_3, vU, vU], [vI i], aq_h m s F c_3)) rfl rfl ?_
    refine am_E.go (t2 := (25, [vR y, vI n, vI t, vI i, vI j, vI vc_3, vU, vU], [vL i], aq_h m s F c_3)) rfl rfl ?_
    refine am_E.go (t2 := (26, [vR y, vI n, vI t, vI i, vI j, vI vc_3, vU, vU], [vL 0, vL i], aq_h m s F c_3)) rfl rfl ?_
    refine am_E.go (t2 := (28, [vR y, vI n, vI t, vI i, vI j, vI vc_3, vU, vU], [vI vc_3, vL 0, vL i], aq_h m s F c_3)) rfl rfl ?_
    refine am_E.go (t2 := (29, [vR y, vI n, vI t, vI i, vI j, vI vc_3, vU, vU], [vI 1, vI vc_3, vL 0, vL i], aq_h m s F c_3)) rfl rfl ?_
    refine ae_sub rfl (am_ri (by omega) (by omega)) ?_
    show am_E _ (30, [vR y, vI n, vI t, vI i, vI j, vI vc_3, vU, vU], [vI (vc_3 - 1), vL 0, vL i], aq_h m s F c_3) _
    refine am_E.go (t2 := (31, [vR y, vI n, vI t, vI i, vI j, vI vc_3, vU, vU], [vL (vc_3 - 1), vL 0, vL i], aq_h m s F c_3)) rfl rfl ?_
    refine am_E.call rfl rfl rfl (Nat.le_of_ble_eq_true rfl) (qm_in) ?_
    rintro r5 h5 ⟨rfl, v_4, rfl, hv_4⟩
    show am_E _ (34, [vR y, vI n, vI t, vI i, vI j, vI vc_3, vU, vU], [vI v_4], aq_h m s F c_3) _
    refine ae_if0 rfl (fun (q_5 : v_4 = 0) => ?_) (fun (q_5 : v_4 ≠ 0) => ?_)
    · refine am_E.go (t2 := (53, [vR y, vI n, vI t, vI i, vI j, vI vc_3, vU, vU], [vI (-1)], aq_h m s F c_3)) rfl rfl ?_
      refine am_E.ret rfl rfl ?_
      exact ⟨_, rfl, aq_smi (aq_smt (aq_sm0 (c := c) (S := mo_S y)) (aq_smi sc_3 (fun a h => by unfold mo_S; omega))) (fun a h => mo_Sa h), by rw [fm_a, if_neg (by omega)], mo_Ik hI (aq_smt (aq_sm0 (c := c) (S := mo_S y)) (aq_smi sc_3 (fun a h => by unfold mo_S; omega))) (mo_ks (mo_k0 (y := y) (c := c)) sc_3 (by omega))⟩
    · refine am_E.go (t2 := (39, [vR y, vI n, vI t, vI i, vI j, vI vc_3, vU, vU], [vI j], aq_h m s F c_3)) rfl rfl ?_
      refine am_E.go (t2 := (40, [vR y, vI n, vI t, vI i, vI j, vI vc_3, vU, vU], [vL j], aq_h m s F c_3)) rfl rfl ?_
      refine am_E.go (t2 := (41, [vR y, vI n, vI t, vI i, vI j, vI vc_3, vU, vU], [vL 0, vL j], aq_h m s F c_3)) rfl rfl ?_
      refine am_E.go (t2 := (43, [vR y, vI n, vI t, vI i, vI j, vI vc_3, vU, vU], [vI vc_3, vL 0, vL j], aq_h m s F c_3)) rfl rfl ?_
      refine am_E.go (t2 := (44, [vR y, vI n, vI t, vI i, vI j, vI vc_3, vU, vU], [vI 1, vI vc_3, vL 0, vL j], aq_h m s F c_3)) rfl rfl ?_
      refine ae_sub rfl (am_ri (by omega) (by omega)) ?_
      show am_E _ (45, [vR y, vI n, vI t, vI i, vI j, vI vc_3, vU, vU], [vI (vc_3 - 1), vL 0, vL j], aq_h m s F c_3) _
      refine am_E.go (t2 := (46, [vR y, vI n, vI t, vI i, vI j, vI vc_3, vU, vU], [vL (vc_3 - 1), vL 0, vL j], aq_h m s F c_3)) rfl rfl ?_
      refine am_E.call rfl rfl rfl (Nat.le_of_ble_eq_true rfl) (qm_in) ?_
      rintro r5 h5 ⟨rfl, v_6, rfl, hv_6⟩
      show am_E _ (49, [vR y, vI n, vI t, vI i, vI j, vI vc_3, vU, vU], [vI v_6], aq_h m s F c_3) _
      refine ae_if0 rfl (fun (q_7 : v_6 ≠ 0) => ?_) (fun (q_7 : v_6 = 0) => ?_)
      · refine am_E.go (t2 := (55, [vR y, vI n, vI t, vI i, vI j, vI vc_3, vU, vU], [vR y], aq_h m s F c_3)) rfl rfl ?_
        refine am_E.go (t2 := (56, [vR y, vI n, vI t, vI i, vI j, vI vc_3, vU, vU], [vI n, vR y], aq_h m s F c_3)) rfl rfl ?_
        refine am_E.go (t2 := (57, [vR y, vI n, vI t, vI i, vI j, vI vc_3, vU, vU], [vI t, vI n, vR y], aq_h m s F c_3)) rfl rfl ?_
        refine am_E.go (t2 := (58, [vR y, vI n, vI t, vI i, vI j, vI vc_3, vU, vU], [vI i, vI t, vI n, vR y], aq_h m s F c_3)) rfl rfl ?_
        refine am_E.go (t2 := (59, [vR y, vI n, vI t, vI i, vI j, vI vc_3, vU, vU], [vR y, vI i, vI t, vI n, vR y], aq_h m s F c_3)) rfl rfl ?_
        refine aq_gf (v := vR (y + 18)) rfl (by omega) hFo (by decide) rfl ?_
        show am_E _ (62, [vR y, vI n, vI t, vI i, vI j, vI vc_3, vU, vU], [vR (y + 18), vI i, vI t, vI n, vR y], aq_h m s F c_3) _
        refine aq_callv (y := 5) (as2 := [vI n, vI t, vI i, vR (y + 18)]) (rest := []) rfl rfl (by decide) (Nat.le_of_ble_eq_true rfl) rfl rfl (Nat.le_of_ble_eq_true rfl) (by omega) hFo rfl (Nat.le_of_ble_eq_true rfl) (qm_lay (y := y) (a := y + 18) (by omega) hFo (by omega) hG18 (n := n) (t := t) (by omega) (by omega) (by omega) (by omega) (Or.inr ⟨by omega, by omega⟩)) ?_
        rintro r5 h5 ⟨c_8, rfl, sc_8, vc_8, rfl, hmc_8, hdc_8⟩
        show am_E _ (65, [vR y, vI n, vI t, vI i, vI j, vI vc_3, vU, vU], [vI vc_8], aq_h m s F c_8) _
        have hNb := hv_Nb n t
        refine am_E.go (t2 := (67, [vR y, vI n, vI t, vI i, vI j, vI vc_3, vI vc_8, vU], [], aq_h m s F c_8)) rfl rfl ?_
        refine am_E.go (t2 := (68, [vR y, vI n, vI t, vI i, vI j, vI vc_3, vI vc_8, vU], [vR y], aq_h m s F c_8)) rfl rfl ?_
        refine am_E.go (t2 := (69, [vR y, vI n, vI t, vI i, vI j, vI vc_3, vI vc_8, vU], [vI n, vR y], aq_h m s F c_8)) rfl rfl ?_
        refine am_E.go (t2 := (70, [vR y, vI n, vI t, vI i, vI j, vI vc_3, vI vc_8, vU], [vI t, vI n, vR y], aq_h m s F c_8)) rfl rfl ?_
        refine am_E.go (t2 := (72, [vR y, vI n, vI t, vI i, vI j, vI vc_3, vI vc_8, vU], [vI j, vI t, vI n, vR y], aq_h m s F c_8)) rfl rfl ?_
        refine am_E.go (t2 := (73, [vR y, vI n, vI t, vI i, vI j, vI vc_3, vI vc_8, vU], [vR y, vI j, vI t, vI n, vR y], aq_h m s F c_8)) rfl rfl ?_
        refine aq_gf (v := vR (y + 19)) rfl (by omega) hFo (by decide) rfl ?_
        show am_E _ (76, [vR y, vI n, vI t, vI i, vI j, vI vc_3, vI vc_8, vU], [vR (y + 19), vI j, vI t, vI n, vR y], aq_h m s F c_8) _
        refine aq_callv (y := 5) (as2 := [vI n, vI t, vI j, vR (y + 19)]) (rest := []) rfl rfl (by decide) (Nat.le_of_ble_eq_true rfl) rfl rfl (Nat.le_of_ble_eq_true rfl) (by omega) hFo rfl (Nat.le_of_ble_eq_true rfl) (qm_lay (y := y) (a := y + 19) (by omega) hFo (by omega) hG19 (n := n) (t := t) (by omega) (by omega) (by omega) (by omega) (Or.inr ⟨by omega, by omega⟩)) ?_
        rintro r5 h5 ⟨c_9, rfl, sc_9, vc_9, rfl, hmc_9, hdc_9⟩
        show am_E _ (79, [vR y, vI n, vI t, vI i, vI j, vI vc_3, vI vc_8, vU], [vI vc_9], aq_h m s F c_9) _
        have hNb := hv_Nb n t
        refine am_E.go (t2 := (81, [vR y, vI n, vI t, vI i, vI j, vI vc_3, vI vc_8, vI vc_9], [], aq_h m s F c_9)) rfl rfl ?_
        refine am_E.go (t2 := (82, [vR y, vI n, vI t, vI i, vI j, vI vc_3, vI vc_8, vI vc_9], [vR y], aq_h m s F c_9)) rfl rfl ?_
        refine am_E.go (t2 := (83, [vR y, vI n, vI t, vI i, vI j, vI vc_3, vI vc_8, vI vc_9], [vI n, vR y], aq_h m s F c_9)) rfl rfl ?_
        refine aq_callv (y := 2) (as2 := [vI n]) (rest := []) rfl rfl (by decide) (Nat.le_of_ble_eq_true rfl) rfl rfl (Nat.le_of_ble_eq_true rfl) (by omega) hFo rfl (Nat.le_of_ble_eq_true rfl) (qz_formOf ⟨hm, hFo, hG5, hG6, hG7, hG8, hG9, hG10, hG11, hG12, hG13, hG14, hG15, hG16, hG17, hG18, hG19, hG20, hG21, hG22, hG23⟩ (n := n) (t := t) (i := i) (j := j) (by omega) (by omega) (by omega) (by omega) (by omega) (by omega) (by omega) (by omega) (fun p5 h5 h6 => by rw [sc_9 _ (by omega)]; exact hdc_8 (by omega) p5 h5 h6) (fun p5 h5 h6 => hdc_9 (by omega) p5 h5 h6)) ?_
        rintro r5 h5 ⟨c_f, rfl, s_f, rfl⟩
        show am_E _ (86, [vR y, vI n, vI t, vI i, vI j, vI vc_3, vI vc_8, vI vc_9], [vI (fo_v n t i j)], aq_h m s F c_f) _
        refine am_E.ret rfl rfl ?_
        exact ⟨_, rfl, aq_smi (aq_smt (aq_smt (aq_smt (aq_smt (aq_sm0 (c := c) (S := mo_S y)) (aq_smi sc_3 (fun a h => by unfold mo_S; omega))) (aq_smi sc_8 (fun a h => by unfold mo_S; omega))) (aq_smi sc_9 (fun a h => by unfold mo_S; omega))) (aq_smi s_f (fun a h => by unfold mo_S; omega))) (fun a h => mo_Sa h), by rw [fm_a, if_pos (by omega)], mo_Ik hI (aq_smt (aq_smt (aq_smt (aq_smt (aq_sm0 (c := c) (S := mo_S y)) (aq_smi sc_3 (fun a h => by unfold mo_S; omega))) (aq_smi sc_8 (fun a h => by unfold mo_S; omega))) (aq_smi sc_9 (fun a h => by unfold mo_S; omega))) (aq_smi s_f (fun a h => by unfold mo_S; omega))) (mo_ks (mo_ks (mo_ks (mo_ks (mo_k0 (y := y) (c := c)) sc_3 (by omega)) sc_8 (by omega)) sc_9 (by omega)) s_f (by omega))⟩
      · refine am_E.go (t2 := (53, [vR y, vI n, vI t, vI i, vI j, vI vc_3, vU, vU], [vI (-1)], aq_h m s F c_3)) rfl rfl ?_
        refine am_E.ret rfl rfl ?_
        exact ⟨_, rfl, aq_smi (aq_smt (aq_sm0 (c := c) (S := mo_S y)) (aq_smi sc_3 (fun a h => by unfold mo_S; omega))) (fun a h => mo_Sa h), by rw [fm_a, if_neg (by omega)], mo_Ik hI (aq_smt (aq_sm0 (c := c) (S := mo_S y)) (aq_smi sc_3 (fun a h => by unfold mo_S; omega))) (mo_ks (mo_k0 (y := y) (c := c)) sc_3 (by omega))⟩
  · refine am_E.go (t2 := (9, [vR y, vI n, vI t, vI i, vI j, vU, vU, vU], [vI (-1)], aq_h m s F c)) rfl rfl ?_
    refine am_E.ret rfl rfl ?_
    exact ⟨_, rfl, aq_smi (aq_sm0 (c := c) (S := mo_S y)) (fun a h => mo_Sa h), by rw [fm_a, if_neg (by omega)], mo_Ik hI (aq_sm0 (c := c) (S := mo_S y)) (mo_k0 (y := y) (c := c))⟩
