
/-- what follow marks: the places between, on the way from p -/
def fv_ (n : Int) (f g : Int → Int) : Nat → Bool → Int → (Int → Int) → Int → Int
  | 0, _, _, w => w
  | d + 1, true, p, w => if n ≤ f p then fv_ n f g d false (f p - n) (dc_u w (f p - n)) else w
  | d + 1, false, p, w => if g p < n then fv_ n f g d true (n + g p) (dc_u w (g p)) else w
theorem fv_le {n : Int} {f g : Int → Int} : ∀ (d k : Nat) (u : Bool) (p : Int) (w : Int → Int), exd n f g d u p → fv_ n f g (d + k) u p w = fv_ n f g d u p w
  | 0, k, u, p, w, h => h.elim
  | d + 1, k, true, p, w, h => by
    rw [show d + 1 + k = (d + k) + 1 by omega, fv_, fv_]
    by_cases e : n ≤ f p
    · rw [if_pos e, if_pos e, fv_le d k false _ _ (h e)]
    · rw [if_neg e, if_neg e]
  | d + 1, k, false, p, w, h => by
    rw [show d + 1 + k = (d + k) + 1 by omega, fv_, fv_]
    by_cases e : g p < n
    · rw [if_pos e, if_pos e, fv_le d k true _ _ (h e)]
    · rw [if_neg e, if_neg e]
/-- all of them -/
def mj_ (n : Int) (f g : Int → Int) : Nat → Int → (Int → Int) → Int → Int
  | 0, _, w => w
  | d + 1, p, w => if p < 2 * n then mj_ n f g d (p + 1) (fv_ n f g 5 (decide (p < n)) p w) else w
/-- the same place on the other side -/
def ac_ (n i : Int) : Int := if i < n then i + n else i - n
/-- the rings between -/
def ci_ (n : Int) (f g : Int → Int) : Nat → Int → Int → (Int → Int) → Int → Int
  | 0, _, _, w => w
  | d + 1, k, a, w => if k < n ∧ w a = 0 then ci_ n f g d (k + 1) (g (ac_ n (f (ac_ n a)))) (dc_u (dc_u w a) (ac_ n (f (ac_ n a)))) else w
def co_ (n : Int) (f g : Int → Int) : Nat → Int → Int → (Int → Int) → Int
  | 0, _, x, _ => x
  | d + 1, p, x, w => if p < n then (if w p = 0 then co_ n f g d (p + 1) (x + 1) (ci_ n f g 9 0 p w) else co_ n f g d (p + 1) x w) else x
/-- join's answer -/
def jn_ (n : Int) (f g : Int → Int) : Int := nu_o (fst_ n f g) (2 * n) 9 0 0 (2 * n - 1) + 1000 * co_ n f g 9 0 0 (mj_ n f g 9 0 (fun _ => 0))

theorem qz_follow_l {m s : Nat} {F : aq_F} {c0 : aq_C} {S : Nat → Prop} {o n K : Nat} (hB : bx_0 m F o n K) (hSs : S (o + 7 + 3 * K)) {tP : Int → Int → Int} (hP : bx_p F o n K tP) {x : Int} (hx0 : 0 ≤ x) (hxK : x < (K : Int)) {y : Int} (hy0 : 0 ≤ y) (hyK : y < (K : Int)) {T start : Int} {Wd : Int → Int} (hfi : fi (n : Int) (tP ((x.toNat : Nat) : Int))) (hgi : fi (n : Int) (tP ((y.toNat : Nat) : Int))) : ∀ (d : Nat) (u : Bool) (p k : Int) (w : Int → Int) (c : aq_C) (hs : aq_sm S c0 c) (hw : ∀ q, 0 ≤ q → q < 2 * (n : Int) → c (o + 7 + 3 * K) q = w q) (h0 : 0 ≤ p) (h1 : p < 2 * (n : Int)) (hk0 : 0 ≤ k) (hk : k + (d : Int) ≤ 2 * (n : Int) + 1) (he : exd (n : Int) (tP ((x.toNat : Nat) : Int)) (tP ((y.toNat : Nat) : Int)) d u p) (hT : ldr (n : Int) (tP ((x.toNat : Nat) : Int)) (tP ((y.toNat : Nat) : Int)) d u p = T) (hW : fv_ (n : Int) (tP ((x.toNat : Nat) : Int)) (tP ((y.toNat : Nat) : Int)) d u p w = Wd), am_E ac_X0_follow (21, [vR o, vR (o + 2 + x.toNat), vR (o + 2 + y.toNat), vI start, vI (if u then 1 else 0), vI p, vI k], [], aq_h m s F c) (aq_Z m s F S c0 (fun r d => r = some (vI T) ∧ ∀ q, 0 ≤ q → q < 2 * (n : Int) → d (o + 7 + 3 * K) q = Wd q))
  | 0, u, p, k, w, c, hs, hw, h0, h1, hk0, hk, he, hT, hW => he.elim
  | d + 1, true, p, k, w, c, hs, hw, h0, h1, hk0, hk, he, hT, hW => by
    obtain ⟨hm, hn1, hn4, hK, hFo, hFd, hFs⟩ := hB
    obtain ⟨hPg, hPr, hPt⟩ := hP
    show am_E _ (21, [vR o, vR (o + 2 + x.toNat), vR (o + 2 + y.toNat), vI start, vI 1, vI p, vI k], [], aq_h m s F c) _
    refine am_E.go (t2 := (23, [vR o, vR (o + 2 + x.toNat), vR (o + 2 + y.toNat), vI start, vI 1, vI p, vI k], [vI k], aq_h m s F c)) rfl rfl ?_
    refine am_E.go (t2 := (24, [vR o, vR (o + 2 + x.toNat), vR (o + 2 + y.toNat), vI start, vI 1, vI p, vI k], [vR o, vI k], aq_h m s F c)) rfl rfl ?_
    refine aq_gf (v := vI (2 * (n : Int))) rfl (by omega) hFo (by decide) rfl ?_
    show am_E _ (27, [vR o, vR (o + 2 + x.toNat), vR (o + 2 + y.toNat), vI start, vI 1, vI p, vI k], [vI (2 * (n : Int)), vI k], aq_h m s F c) _
    refine ae_icmp rfl (fun (q_1 : (2 * (n : Int)) < k) => ?_) (fun (q_1 : k ≤ (2 * (n : Int))) => ?_)
    · exfalso; omega
    · refine am_E.go (t2 := (32, [vR o, vR (o + 2 + x.toNat), vR (o + 2 + y.toNat), vI start, vI 1, vI p, vI k], [vI 1], aq_h m s F c)) rfl rfl ?_
      refine am_E.go (t2 := (35, [vR o, vR (o + 2 + x.toNat), vR (o + 2 + y.toNat), vI start, vI 1, vI p, vI k], [], aq_h m s F c)) rfl rfl ?_
      refine am_E.go (t2 := (36, [vR o, vR (o + 2 + x.toNat), vR (o + 2 + y.toNat), vI start, vI 1, vI p, vI k], [vR (o + 2 + x.toNat)], aq_h m s F c)) rfl rfl ?_
      refine am_E.go (t2 := (38, [vR o, vR (o + 2 + x.toNat), vR (o + 2 + y.toNat), vI start, vI 1, vI p, vI k], [vI p, vR (o + 2 + x.toNat)], aq_h m s F c)) rfl rfl ?_
      refine aq_alt (ok := fun k => k == 0) rfl rfl (by omega) (hPr _ (by omega)) rfl (by omega) (by omega) ?_
      show am_E _ (39, [vR o, vR (o + 2 + x.toNat), vR (o + 2 + y.toNat), vI start, vI 1, vI p, vI k], [vI (tP ((x.toNat : Nat) : Int) p)], aq_h m s F c) _
      have f_2 := hPt ((x.toNat : Nat) : Int) p (by omega) (by omega) (by omega) (by omega)
      refine am_E.go (t2 := (46, [vR o, vR (o + 2 + x.toNat), vR (o + 2 + y.toNat), vI start, vI 1, vI p, vI k], [vI (tP ((x.toNat : Nat) : Int) p)], aq_h m s F c)) rfl rfl ?_
      refine am_E.go (t2 := (48, [vR o, vR (o + 2 + x.toNat), vR (o + 2 + y.toNat), vI start, vI 1, vI (tP ((x.toNat : Nat) : Int) p), vI k], [], aq_h m s F c)) rfl rfl ?_
      refine am_E.go (t2 := (50, [vR o, vR (o + 2 + x.toNat), vR (o + 2 + y.toNat), vI start, vI 1, vI (tP ((x.toNat : Nat) : Int) p), vI k], [vI 1], aq_h m s F c)) rfl rfl ?_
      refine am_E.go (t2 := (52, [vR o, vR (o + 2 + x.toNat), vR (o + 2 + y.toNat), vI start, vI 1, vI (tP ((x.toNat : Nat) : Int) p), vI k], [vI (tP ((x.toNat : Nat) : Int) p), vI 1], aq_h m s F c)) rfl rfl ?_
      refine am_E.go (t2 := (53, [vR o, vR (o + 2 + x.toNat), vR (o + 2 + y.toNat), vI start, vI 1, vI (tP ((x.toNat : Nat) : Int) p), vI k], [vR o, vI (tP ((x.toNat : Nat) : Int) p), vI 1], aq_h m s F c)) rfl rfl ?_
      refine aq_gf (v := vI (n : Int)) rfl (by omega) hFo (by decide) rfl ?_
      show am_E _ (56, [vR o, vR (o + 2 + x.toNat), vR (o + 2 + y.toNat), vI start, vI 1, vI (tP ((x.toNat : Nat) : Int) p), vI k], [vI (n : Int), vI (tP ((x.toNat : Nat) : Int) p), vI 1], aq_h m s F c) _
      refine ae_icmp rfl (fun (q_3 : (n : Int) ≤ (tP ((x.toNat : Nat) : Int) p)) => ?_) (fun (q_3 : (tP ((x.toNat : Nat) : Int) p) < (n : Int)) => ?_)
      · refine am_E.go (t2 := (64, [vR o, vR (o + 2 + x.toNat), vR (o + 2 + y.toNat), vI start, vI 1, vI (tP ((x.toNat : Nat) : Int) p), vI k], [vI 0, vI 1], aq_h m s F c)) rfl rfl ?_
        refine am_E.go (t2 := (70, [vR o, vR (o + 2 + x.toNat), vR (o + 2 + y.toNat), vI start, vI 1, vI (tP ((x.toNat : Nat) : Int) p), vI k], [], aq_h m s F c)) rfl rfl ?_
        refine am_E.go (t2 := (71, [vR o, vR (o + 2 + x.toNat), vR (o + 2 + y.toNat), vI start, vI 1, vI (tP ((x.toNat : Nat) : Int) p), vI k], [vR o], aq_h m s F c)) rfl rfl ?_
        refine aq_gf (v := vR (o + 7 + 3 * K)) rfl (by omega) hFo (by decide) rfl ?_
        show am_E _ (74, [vR o, vR (o + 2 + x.toNat), vR (o + 2 + y.toNat), vI start, vI 1, vI (tP ((x.toNat : Nat) : Int) p), vI k], [vR (o + 7 + 3 * K)], aq_h m s F c) _
        refine am_E.go (t2 := (76, [vR o, vR (o + 2 + x.toNat), vR (o + 2 + y.toNat), vI start, vI 1, vI (tP ((x.toNat : Nat) : Int) p), vI k], [vI 1, vR (o + 7 + 3 * K)], aq_h m s F c)) rfl rfl ?_
        refine am_E.go (t2 := (79, [vR o, vR (o + 2 + x.toNat), vR (o + 2 + y.toNat), vI start, vI 1, vI (tP ((x.toNat : Nat) : Int) p), vI k], [vR (o + 7 + 3 * K)], aq_h m s F c)) rfl rfl ?_
        refine am_E.go (t2 := (81, [vR o, vR (o + 2 + x.toNat), vR (o + 2 + y.toNat), vI start, vI 1, vI (tP ((x.toNat : Nat) : Int) p), vI k], [vI (tP ((x.toNat : Nat) : Int) p), vR (o + 7 + 3 * K)], aq_h m s F c)) rfl rfl ?_
        refine am_E.go (t2 := (82, [vR o, vR (o + 2 + x.toNat), vR (o + 2 + y.toNat), vI start, vI 1, vI (tP ((x.toNat : Nat) : Int) p), vI k], [vR o, vI (tP ((x.toNat : Nat) : Int) p), vR (o + 7 + 3 * K)], aq_h m s F c)) rfl rfl ?_
        refine aq_gf (v := vI (n : Int)) rfl (by omega) hFo (by decide) rfl ?_
        show am_E _ (85, [vR o, vR (o + 2 + x.toNat), vR (o + 2 + y.toNat), vI start, vI 1, vI (tP ((x.toNat : Nat) : Int) p), vI k], [vI (n : Int), vI (tP ((x.toNat : Nat) : Int) p), vR (o + 7 + 3 * K)], aq_h m s F c) _
        refine ae_sub rfl (am_ri (by omega) (by omega)) ?_
        show am_E _ (86, [vR o, vR (o + 2 + x.toNat), vR (o + 2 + y.toNat), vI start, vI 1, vI (tP ((x.toNat : Nat) : Int) p), vI k], [vI ((tP ((x.toNat : Nat) : Int) p) - (n : Int)), vR (o + 7 + 3 * K)], aq_h m s F c) _
        refine am_E.go (t2 := (91, [vR o, vR (o + 2 + x.toNat), vR (o + 2 + y.toNat), vI start, vI 1, vI (tP ((x.toNat : Nat) : Int) p), vI k], [vI ((tP ((x.toNat : Nat) : Int) p) - (n : Int)), vR (o + 7 + 3 * K)], aq_h m s F c)) rfl rfl ?_
        refine am_E.go (t2 := (92, [vR o, vR (o + 2 + x.toNat), vR (o + 2 + y.toNat), vI start, vI 1, vI (tP ((x.toNat : Nat) : Int) p), vI k], [vI 1, vI ((tP ((x.toNat : Nat) : Int) p) - (n : Int)), vR (o + 7 + 3 * K)], aq_h m s F c)) rfl rfl ?_
        refine aq_as (kd := 1) rfl rfl (by omega) hFs (by omega) (by omega) rfl rfl ?_
        show am_E _ (93, [vR o, vR (o + 2 + x.toNat), vR (o + 2 + y.toNat), vI start, vI 1, vI (tP ((x.toNat : Nat) : Int) p), vI k], [], aq_h m s F (aq_u c (o + 7 + 3 * K) ((tP ((x.toNat : Nat) : Int) p) - (n : Int)) 1)) _
        generalize hdc_4 : aq_u c (o + 7 + 3 * K) ((tP ((x.toNat : Nat) : Int) p) - (n : Int)) 1 = c_4
        have sc_4 := aq_smu hs hdc_4 hSs
        refine am_E.go (t2 := (94, [vR o, vR (o + 2 + x.toNat), vR (o + 2 + y.toNat), vI start, vI 1, vI (tP ((x.toNat : Nat) : Int) p), vI k], [vR o], aq_h m s F c_4)) rfl rfl ?_
        refine am_E.go (t2 := (96, [vR o, vR (o + 2 + x.toNat), vR (o + 2 + y.toNat), vI start, vI 1, vI (tP ((x.toNat : Nat) : Int) p), vI k], [vI (tP ((x.toNat : Nat) : Int) p), vR o], aq_h m s F c_4)) rfl rfl ?_
        refine aq_callv (y := 2) (as2 := [vI (tP ((x.toNat : Nat) : Int) p)]) (rest := []) rfl rfl (by decide) (Nat.le_of_ble_eq_true rfl) rfl rfl (Nat.le_of_ble_eq_true rfl) (by omega) hFo rfl (Nat.le_of_ble_eq_true rfl) (qn_X0_across ⟨hm, hn1, hn4, hK, hFo, hFd, hFs⟩ (by omega) (by omega)) ?_
        rintro r5 h5 ⟨rfl, v_5, rfl, hv_5⟩
        show am_E _ (99, [vR o, vR (o + 2 + x.toNat), vR (o + 2 + y.toNat), vI start, vI 1, vI (tP ((x.toNat : Nat) : Int) p), vI k], [vI v_5], aq_h m s F c_4) _
        refine am_E.go (t2 := (101, [vR o, vR (o + 2 + x.toNat), vR (o + 2 + y.toNat), vI start, vI 1, vI v_5, vI k], [], aq_h m s F c_4)) rfl rfl ?_
        refine am_E.go (t2 := (103, [vR o, vR (o + 2 + x.toNat), vR (o + 2 + y.toNat), vI start, vI 1, vI v_5, vI k], [vI 1], aq_h m s F c_4)) rfl rfl ?_
        refine am_E.go (t2 := (110, [vR o, vR (o + 2 + x.toNat), vR (o + 2 + y.toNat), vI start, vI 1, vI v_5, vI k], [], aq_h m s F c_4)) rfl rfl ?_
        refine am_E.go (t2 := (111, [vR o, vR (o + 2 + x.toNat), vR (o + 2 + y.toNat), vI start, vI 1, vI v_5, vI k], [vI 0], aq_h m s F c_4)) rfl rfl ?_
        refine am_E.go (t2 := (113, [vR o, vR (o + 2 + x.toNat), vR (o + 2 + y.toNat), vI start, vI 0, vI v_5, vI k], [], aq_h m s F c_4)) rfl rfl ?_
        refine ae_iinc rfl rfl (am_ri (by omega) (by omega)) ?_
        show am_E _ (116, [vR o, vR (o + 2 + x.toNat), vR (o + 2 + y.toNat), vI start, vI 0, vI v_5, vI (k + 1)], [], aq_h m s F c_4) _
        refine am_E.go (t2 := (21, [vR o, vR (o + 2 + x.toNat), vR (o + 2 + y.toNat), vI start, vI 0, vI v_5, vI (k + 1)], [], aq_h m s F c_4)) rfl rfl ?_
        have e_v : v_5 = (tP ((x.toNat : Nat) : Int) p) - (n : Int) := by omega
        refine qz_follow_l ⟨hm, hn1, hn4, hK, hFo, hFd, hFs⟩ hSs ⟨hPg, hPr, hPt⟩ hx0 hxK hy0 hyK hfi hgi d false v_5 (k + 1) (dc_u w ((tP ((x.toNat : Nat) : Int) p) - (n : Int))) c_4 sc_4 (dc_ac2 hw hdc_4) (by omega) (by omega) (by omega) (by omega) (by rw [e_v]; exact he (by omega)) (by rw [← hT, ldr, if_pos (by omega), e_v]) (by rw [← hW, fv_, if_pos (by omega), e_v])
      · refine am_E.go (t2 := (60, [vR o, vR (o + 2 + x.toNat), vR (o + 2 + y.toNat), vI start, vI 1, vI (tP ((x.toNat : Nat) : Int) p), vI k], [vI 1, vI 1], aq_h m s F c)) rfl rfl ?_
        refine am_E.go (t2 := (64, [vR o, vR (o + 2 + x.toNat), vR (o + 2 + y.toNat), vI start, vI 1, vI (tP ((x.toNat : Nat) : Int) p), vI k], [vI 1, vI 1], aq_h m s F c)) rfl rfl ?_
        refine am_E.go (t2 := (67, [vR o, vR (o + 2 + x.toNat), vR (o + 2 + y.toNat), vI start, vI 1, vI (tP ((x.toNat : Nat) : Int) p), vI k], [], aq_h m s F c)) rfl rfl ?_
        refine am_E.go (t2 := (69, [vR o, vR (o + 2 + x.toNat), vR (o + 2 + y.toNat), vI start, vI 1, vI (tP ((x.toNat : Nat) : Int) p), vI k], [vI (tP ((x.toNat : Nat) : Int) p)], aq_h m s F c)) rfl rfl ?_
        refine am_E.ret rfl rfl ?_
        exact ⟨_, rfl, hs, by rw [← hT, ldr, if_neg (by omega)], by rw [← hW, fv_, if_neg (by omega)]; exact hw⟩
  | d + 1, false, p, k, w, c, hs, hw, h0, h1, hk0, hk, he, hT, hW => by
    obtain ⟨hm, hn1, hn4, hK, hFo, hFd, hFs⟩ := hB
    obtain ⟨hPg, hPr, hPt⟩ := hP
    show am_E _ (21, [vR o, vR (o + 2 + x.toNat), vR (o + 2 + y.toNat), vI start, vI 0, vI p, vI k], [], aq_h m s F c) _
    refine am_E.go (t2 := (23, [vR o, vR (o + 2 + x.toNat), vR (o + 2 + y.toNat), vI start, vI 0, vI p, vI k], [vI k], aq_h m s F c)) rfl rfl ?_
    refine am_E.go (t2 := (24, [vR o, vR (o + 2 + x.toNat), vR (o + 2 + y.toNat), vI start, vI 0, vI p, vI k], [vR o, vI k], aq_h m s F c)) rfl rfl ?_
    refine aq_gf (v := vI (2 * (n : Int))) rfl (by omega) hFo (by decide) rfl ?_
    show am_E _ (27, [vR o, vR (o + 2 + x.toNat), vR (o + 2 + y.toNat), vI start, vI 0, vI p, vI k], [vI (2 * (n : Int)), vI k], aq_h m s F c) _
    refine ae_icmp rfl (fun (q_1 : (2 * (n : Int)) < k) => ?_) (fun (q_1 : k ≤ (2 * (n : Int))) => ?_)
    · exfalso; omega
    · refine am_E.go (t2 := (32, [vR o, vR (o + 2 + x.toNat), vR (o + 2 + y.toNat), vI start, vI 0, vI p, vI k], [vI 0], aq_h m s F c)) rfl rfl ?_
      refine am_E.go (t2 := (42, [vR o, vR (o + 2 + x.toNat), vR (o + 2 + y.toNat), vI start, vI 0, vI p, vI k], [], aq_h m s F c)) rfl rfl ?_
      refine am_E.go (t2 := (43, [vR o, vR (o + 2 + x.toNat), vR (o + 2 + y.toNat), vI start, vI 0, vI p, vI k], [vR (o + 2 + y.toNat)], aq_h m s F c)) rfl rfl ?_
      refine am_E.go (t2 := (45, [vR o, vR (o + 2 + x.toNat), vR (o + 2 + y.toNat), vI start, vI 0, vI p, vI k], [vI p, vR (o + 2 + y.toNat)], aq_h m s F c)) rfl rfl ?_
      refine aq_alt (ok := fun k => k == 0) rfl rfl (by omega) (hPr _ (by omega)) rfl (by omega) (by omega) ?_
      show am_E _ (46, [vR o, vR (o + 2 + x.toNat), vR (o + 2 + y.toNat), vI start, vI 0, vI p, vI k], [vI (tP ((y.toNat : Nat) : Int) p)], aq_h m s F c) _
      have f_2 := hPt ((y.toNat : Nat) : Int) p (by omega) (by omega) (by omega) (by omega)
      refine am_E.go (t2 := (48, [vR o, vR (o + 2 + x.toNat), vR (o + 2 + y.toNat), vI start, vI 0, vI (tP ((y.toNat : Nat) : Int) p), vI k], [], aq_h m s F c)) rfl rfl ?_
      refine am_E.go (t2 := (50, [vR o, vR (o + 2 + x.toNat), vR (o + 2 + y.toNat), vI start, vI 0, vI (tP ((y.toNat : Nat) : Int) p), vI k], [vI 0], aq_h m s F c)) rfl rfl ?_
      refine am_E.go (t2 := (52, [vR o, vR (o + 2 + x.toNat), vR (o + 2 + y.toNat), vI start, vI 0, vI (tP ((y.toNat : Nat) : Int) p), vI k], [vI (tP ((y.toNat : Nat) : Int) p), vI 0], aq_h m s F c)) rfl rfl ?_
      refine am_E.go (t2 := (53, [vR o, vR (o + 2 + x.toNat), vR (o + 2 + y.toNat), vI start, vI 0, vI (tP ((y.toNat : Nat) : Int) p), vI k], [vR o, vI (tP ((y.toNat : Nat) : Int) p), vI 0], aq_h m s F c)) rfl rfl ?_
      refine aq_gf (v := vI (n : Int)) rfl (by omega) hFo (by decide) rfl ?_
      show am_E _ (56, [vR o, vR (o + 2 + x.toNat), vR (o + 2 + y.toNat), vI start, vI 0, vI (tP ((y.toNat : Nat) : Int) p), vI k], [vI (n : Int), vI (tP ((y.toNat : Nat) : Int) p), vI 0], aq_h m s F c) _
      refine ae_icmp rfl (fun (q_3 : (n : Int) ≤ (tP ((y.toNat : Nat) : Int) p)) => ?_) (fun (q_3 : (tP ((y.toNat : Nat) : Int) p) < (n : Int)) => ?_)
      · refine am_E.go (t2 := (64, [vR o, vR (o + 2 + x.toNat), vR (o + 2 + y.toNat), vI start, vI 0, vI (tP ((y.toNat : Nat) : Int) p), vI k], [vI 0, vI 0], aq_h m s F c)) rfl rfl ?_
        refine am_E.go (t2 := (67, [vR o, vR (o + 2 + x.toNat), vR (o + 2 + y.toNat), vI start, vI 0, vI (tP ((y.toNat : Nat) : Int) p), vI k], [], aq_h m s F c)) rfl rfl ?_
        refine am_E.go (t2 := (69, [vR o, vR (o + 2 + x.toNat), vR (o + 2 + y.toNat), vI start, vI 0, vI (tP ((y.toNat : Nat) : Int) p), vI k], [vI (tP ((y.toNat : Nat) : Int) p)], aq_h m s F c)) rfl rfl ?_
        refine am_E.ret rfl rfl ?_
        exact ⟨_, rfl, hs, by rw [← hT, ldr, if_neg (by omega)], by rw [← hW, fv_, if_neg (by omega)]; exact hw⟩
      · refine am_E.go (t2 := (60, [vR o, vR (o + 2 + x.toNat), vR (o + 2 + y.toNat), vI start, vI 0, vI (tP ((y.toNat : Nat) : Int) p), vI k], [vI 1, vI 0], aq_h m s F c)) rfl rfl ?_
        refine am_E.go (t2 := (64, [vR o, vR (o + 2 + x.toNat), vR (o + 2 + y.toNat), vI start, vI 0, vI (tP ((y.toNat : Nat) : Int) p), vI k], [vI 1, vI 0], aq_h m s F c)) rfl rfl ?_
        refine am_E.go (t2 := (70, [vR o, vR (o + 2 + x.toNat), vR (o + 2 + y.toNat), vI start, vI 0, vI (tP ((y.toNat : Nat) : Int) p), vI k], [], aq_h m s F c)) rfl rfl ?_
        refine am_E.go (t2 := (71, [vR o, vR (o + 2 + x.toNat), vR (o + 2 + y.toNat), vI start, vI 0, vI (tP ((y.toNat : Nat) : Int) p), vI k], [vR o], aq_h m s F c)) rfl rfl ?_
        refine aq_gf (v := vR (o + 7 + 3 * K)) rfl (by omega) hFo (by decide) rfl ?_
        show am_E _ (74, [vR o, vR (o + 2 + x.toNat), vR (o + 2 + y.toNat), vI start, vI 0, vI (tP ((y.toNat : Nat) : Int) p), vI k], [vR (o + 7 + 3 * K)], aq_h m s F c) _
        refine am_E.go (t2 := (76, [vR o, vR (o + 2 + x.toNat), vR (o + 2 + y.toNat), vI start, vI 0, vI (tP ((y.toNat : Nat) : Int) p), vI k], [vI 0, vR (o + 7 + 3 * K)], aq_h m s F c)) rfl rfl ?_
        refine am_E.go (t2 := (89, [vR o, vR (o + 2 + x.toNat), vR (o + 2 + y.toNat), vI start, vI 0, vI (tP ((y.toNat : Nat) : Int) p), vI k], [vR (o + 7 + 3 * K)], aq_h m s F c)) rfl rfl ?_
        refine am_E.go (t2 := (91, [vR o, vR (o + 2 + x.toNat), vR (o + 2 + y.toNat), vI start, vI 0, vI (tP ((y.toNat : Nat) : Int) p), vI k], [vI (tP ((y.toNat : Nat) : Int) p), vR (o + 7 + 3 * K)], aq_h m s F c)) rfl rfl ?_
        refine am_E.go (t2 := (92, [vR o, vR (o + 2 + x.toNat), vR (o + 2 + y.toNat), vI start, vI 0, vI (tP ((y.toNat : Nat) : Int) p), vI k], [vI 1, vI (tP ((y.toNat : Nat) : Int) p), vR (o + 7 + 3 * K)], aq_h m s F c)) rfl rfl ?_
        refine aq_as (kd := 1) rfl rfl (by omega) hFs (by omega) (by omega) rfl rfl ?_
        show am_E _ (93, [vR o, vR (o + 2 + x.toNat), vR (o + 2 + y.toNat), vI start, vI 0, vI (tP ((y.toNat : Nat) : Int) p), vI k], [], aq_h m s F (aq_u c (o + 7 + 3 * K) (tP ((y.toNat : Nat) : Int) p) 1)) _
        generalize hdc_4 : aq_u c (o + 7 + 3 * K) (tP ((y.toNat : Nat) : Int) p) 1 = c_4
        have sc_4 := aq_smu hs hdc_4 hSs
        refine am_E.go (t2 := (94, [vR o, vR (o + 2 + x.toNat), vR (o + 2 + y.toNat), vI start, vI 0, vI (tP ((y.toNat : Nat) : Int) p), vI k], [vR o], aq_h m s F c_4)) rfl rfl ?_
        refine am_E.go (t2 := (96, [vR o, vR (o + 2 + x.toNat), vR (o + 2 + y.toNat), vI start, vI 0, vI (tP ((y.toNat : Nat) : Int) p), vI k], [vI (tP ((y.toNat : Nat) : Int) p), vR o], aq_h m s F c_4)) rfl rfl ?_
        refine aq_callv (y := 2) (as2 := [vI (tP ((y.toNat : Nat) : Int) p)]) (rest := []) rfl rfl (by decide) (Nat.le_of_ble_eq_true rfl) rfl rfl (Nat.le_of_ble_eq_true rfl) (by omega) hFo rfl (Nat.le_of_ble_eq_true rfl) (qn_X0_across ⟨hm, hn1, hn4, hK, hFo, hFd, hFs⟩ (by omega) (by omega)) ?_
        rintro r5 h5 ⟨rfl, v_5, rfl, hv_5⟩
        show am_E _ (99, [vR o, vR (o + 2 + x.toNat), vR (o + 2 + y.toNat), vI start, vI 0, vI (tP ((y.toNat : Nat) : Int) p), vI k], [vI v_5], aq_h m s F c_4) _
        refine am_E.go (t2 := (101, [vR o, vR (o + 2 + x.toNat), vR (o + 2 + y.toNat), vI start, vI 0, vI v_5, vI k], [], aq_h m s F c_4)) rfl rfl ?_
        refine am_E.go (t2 := (103, [vR o, vR (o + 2 + x.toNat), vR (o + 2 + y.toNat), vI start, vI 0, vI v_5, vI k], [vI 0], aq_h m s F c_4)) rfl rfl ?_
        refine am_E.go (t2 := (106, [vR o, vR (o + 2 + x.toNat), vR (o + 2 + y.toNat), vI start, vI 0, vI v_5, vI k], [], aq_h m s F c_4)) rfl rfl ?_
        refine am_E.go (t2 := (107, [vR o, vR (o + 2 + x.toNat), vR (o + 2 + y.toNat), vI start, vI 0, vI v_5, vI k], [vI 1], aq_h m s F c_4)) rfl rfl ?_
        refine am_E.go (t2 := (111, [vR o, vR (o + 2 + x.toNat), vR (o + 2 + y.toNat), vI start, vI 0, vI v_5, vI k], [vI 1], aq_h m s F c_4)) rfl rfl ?_
        refine am_E.go (t2 := (113, [vR o, vR (o + 2 + x.toNat), vR (o + 2 + y.toNat), vI start, vI 1, vI v_5, vI k], [], aq_h m s F c_4)) rfl rfl ?_
        refine ae_iinc rfl rfl (am_ri (by omega) (by omega)) ?_
        show am_E _ (116, [vR o, vR (o + 2 + x.toNat), vR (o + 2 + y.toNat), vI start, vI 1, vI v_5, vI (k + 1)], [], aq_h m s F c_4) _
        refine am_E.go (t2 := (21, [vR o, vR (o + 2 + x.toNat), vR (o + 2 + y.toNat), vI start, vI 1, vI v_5, vI (k + 1)], [], aq_h m s F c_4)) rfl rfl ?_
        have e_v : v_5 = (n : Int) + tP ((y.toNat : Nat) : Int) p := by omega
        refine qz_follow_l ⟨hm, hn1, hn4, hK, hFo, hFd, hFs⟩ hSs ⟨hPg, hPr, hPt⟩ hx0 hxK hy0 hyK hfi hgi d true v_5 (k + 1) (dc_u w (tP ((y.toNat : Nat) : Int) p)) c_4 sc_4 (dc_ac2 hw hdc_4) (by omega) (by omega) (by omega) (by omega) (by rw [e_v]; exact he (by omega)) (by rw [← hT, ldr, if_pos (by omega), e_v]) (by rw [← hW, fv_, if_pos (by omega), e_v])

theorem qz_follow {m s : Nat} {F : aq_F} {c : aq_C} {S : Nat → Prop} {o n K : Nat} (hB : bx_0 m F o n K) (hSs : S (o + 7 + 3 * K)) {tP : Int → Int → Int} (hP : bx_p F o n K tP) {x : Int} (hx0 : 0 ≤ x) (hxK : x < (K : Int)) {y : Int} (hy0 : 0 ≤ y) (hyK : y < (K : Int)) {start : Int} {w : Int → Int} (hfi : fi (n : Int) (tP ((x.toNat : Nat) : Int))) (hgi : fi (n : Int) (tP ((y.toNat : Nat) : Int))) (hw : ∀ q, 0 ≤ q → q < 2 * (n : Int) → c (o + 7 + 3 * K) q = w q) (h0 : 0 ≤ start) (h1 : start < 2 * (n : Int)) : am_E ac_X0_follow (0, [vR o, vR (o + 2 + x.toNat), vR (o + 2 + y.toNat), vI start, vU, vU, vU], [], aq_h m s F c) (aq_Z m s F S c (fun r d => r = some (vI (fst_ (n : Int) (tP ((x.toNat : Nat) : Int)) (tP ((y.toNat : Nat) : Int)) start)) ∧ ∀ q, 0 ≤ q → q < 2 * (n : Int) → d (o + 7 + 3 * K) q = fv_ (n : Int) (tP ((x.toNat : Nat) : Int)) (tP ((y.toNat : Nat) : Int)) 5 (decide (start < (n : Int))) start w q)) := by
  obtain ⟨hm, hn1, hn4, hK, hFo, hFd, hFs⟩ := hB
  obtain ⟨hPg, hPr, hPt⟩ := hP
  refine am_E.go (t2 := (1, [vR o, vR (o + 2 + x.toNat), vR (o + 2 + y.toNat), vI start, vU, vU, vU], [vI start], aq_h m s F c)) rfl rfl ?_
  refine am_E.go (t2 := (2, [vR o, vR (o + 2 + x.toNat), vR (o + 2 + y.toNat), vI start, vU, vU, vU], [vR o, vI start], aq_h m s F c)) rfl rfl ?_
  refine aq_gf (v := vI (n : Int)) rfl (by omega) hFo (by decide) rfl ?_
  show am_E _ (5, [vR o, vR (o + 2 + x.toNat), vR (o + 2 + y.toNat), vI start, vU, vU, vU], [vI (n : Int), vI start], aq_h m s F c) _
  refine ae_icmp rfl (fun (q_1 : (n : Int) ≤ start) => ?_) (fun (q_1 : start < (n : Int)) => ?_)
  · refine am_E.go (t2 := (13, [vR o, vR (o + 2 + x.toNat), vR (o + 2 + y.toNat), vI start, vU, vU, vU], [vI 0], aq_h m s F c)) rfl rfl ?_
    refine am_E.go (t2 := (15, [vR o, vR (o + 2 + x.toNat), vR (o + 2 + y.toNat), vI start, vI 0, vU, vU], [], aq_h m s F c)) rfl rfl ?_
    refine am_E.go (t2 := (16, [vR o, vR (o + 2 + x.toNat), vR (o + 2 + y.toNat), vI start, vI 0, vU, vU], [vI start], aq_h m s F c)) rfl rfl ?_
    refine am_E.go (t2 := (18, [vR o, vR (o + 2 + x.toNat), vR (o + 2 + y.toNat), vI start, vI 0, vI start, vU], [], aq_h m s F c)) rfl rfl ?_
    refine am_E.go (t2 := (19, [vR o, vR (o + 2 + x.toNat), vR (o + 2 + y.toNat), vI start, vI 0, vI start, vU], [vI 0], aq_h m s F c)) rfl rfl ?_
    refine am_E.go (t2 := (21, [vR o, vR (o + 2 + x.toNat), vR (o + 2 + y.toNat), vI start, vI 0, vI start, vI 0], [], aq_h m s F c)) rfl rfl ?_
    have e4 : decide (start < (n : Int)) = false := decide_eq_false (show ¬ start < (n : Int) by omega)
    have e5 : fst_ (n : Int) (tP ((x.toNat : Nat) : Int)) (tP ((y.toNat : Nat) : Int)) start = ldr (n : Int) (tP ((x.toNat : Nat) : Int)) (tP ((y.toNat : Nat) : Int)) 5 false start := by unfold fst_; rw [e4]
    rw [e4]
    by_cases hn : n = 1
    · subst hn
      have hx := ld_ex1 hfi hgi h0 (by omega)
      rw [decide_eq_false (show ¬ start < 1 by omega)] at hx
      exact qz_follow_l ⟨hm, hn1, hn4, hK, hFo, hFd, hFs⟩ hSs ⟨hPg, hPr, hPt⟩ hx0 hxK hy0 hyK hfi hgi 3 false start 0 w c aq_sm0 hw h0 h1 (by omega) (by omega) hx (by rw [e5]; exact (ldr_le 3 2 false start hx).symm) (fv_le 3 2 false start w hx).symm
    · have hx := ld_ex (n := (n : Int)) (by omega) hfi hgi h0 h1
      rw [e4] at hx
      exact qz_follow_l ⟨hm, hn1, hn4, hK, hFo, hFd, hFs⟩ hSs ⟨hPg, hPr, hPt⟩ hx0 hxK hy0 hyK hfi hgi 5 false start 0 w c aq_sm0 hw h0 h1 (by omega) (by omega) hx e5.symm rfl
  · refine am_E.go (t2 := (9, [vR o, vR (o + 2 + x.toNat), vR (o + 2 + y.toNat), vI start, vU, vU, vU], [vI 1], aq_h m s F c)) rfl rfl ?_
    refine am_E.go (t2 := (13, [vR o, vR (o + 2 + x.toNat), vR (o + 2 + y.toNat), vI start, vU, vU, vU], [vI 1], aq_h m s F c)) rfl rfl ?_
    refine am_E.go (t2 := (15, [vR o, vR (o + 2 + x.toNat), vR (o + 2 + y.toNat), vI start, vI 1, vU, vU], [], aq_h m s F c)) rfl rfl ?_
    refine am_E.go (t2 := (16, [vR o, vR (o + 2 + x.toNat), vR (o + 2 + y.toNat), vI start, vI 1, vU, vU], [vI start], aq_h m s F c)) rfl rfl ?_
    refine am_E.go (t2 := (18, [vR o, vR (o + 2 + x.toNat), vR (o + 2 + y.toNat), vI start, vI 1, vI start, vU], [], aq_h m s F c)) rfl rfl ?_
    refine am_E.go (t2 := (19, [vR o, vR (o + 2 + x.toNat), vR (o + 2 + y.toNat), vI start, vI 1, vI start, vU], [vI 0], aq_h m s F c)) rfl rfl ?_
    refine am_E.go (t2 := (21, [vR o, vR (o + 2 + x.toNat), vR (o + 2 + y.toNat), vI start, vI 1, vI start, vI 0], [], aq_h m s F c)) rfl rfl ?_
    have e4 : decide (start < (n : Int)) = true := decide_eq_true (show start < (n : Int) by omega)
    have e5 : fst_ (n : Int) (tP ((x.toNat : Nat) : Int)) (tP ((y.toNat : Nat) : Int)) start = ldr (n : Int) (tP ((x.toNat : Nat) : Int)) (tP ((y.toNat : Nat) : Int)) 5 true start := by unfold fst_; rw [e4]
    rw [e4]
    by_cases hn : n = 1
    · subst hn
      have hx := ld_ex1 hfi hgi h0 (by omega)
      rw [decide_eq_true (show start < 1 by omega)] at hx
      exact qz_follow_l ⟨hm, hn1, hn4, hK, hFo, hFd, hFs⟩ hSs ⟨hPg, hPr, hPt⟩ hx0 hxK hy0 hyK hfi hgi 3 true start 0 w c aq_sm0 hw h0 h1 (by omega) (by omega) hx (by rw [e5]; exact (ldr_le 3 2 true start hx).symm) (fv_le 3 2 true start w hx).symm
    · have hx := ld_ex (n := (n : Int)) (by omega) hfi hgi h0 h1
      rw [e4] at hx
      exact qz_follow_l ⟨hm, hn1, hn4, hK, hFo, hFd, hFs⟩ hSs ⟨hPg, hPr, hPt⟩ hx0 hxK hy0 hyK hfi hgi 5 true start 0 w c aq_sm0 hw h0 h1 (by omega) (by omega) hx e5.symm rfl

theorem qz_across {m s : Nat} {F : aq_F} {c : aq_C} {o n K : Nat} (hB : bx_0 m F o n K) {p : Int} (h0 : 0 ≤ p) (h1 : p < 2 * (n : Int)) : am_E ac_X0_across (0, [vR o, vI p], [], aq_h m s F c) (aq_P m s F c (fun r => r = some (vI (ac_ (n : Int) p)))) := by
  obtain ⟨hm, hn1, hn4, hK, hFo, hFd, hFs⟩ := hB
  refine am_E.go (t2 := (1, [vR o, vI p], [vI p], aq_h m s F c)) rfl rfl ?_
  refine am_E.go (t2 := (2, [vR o, vI p], [vR o, vI p], aq_h m s F c)) rfl rfl ?_
  refine aq_gf (v := vI (n : Int)) rfl (by omega) hFo (by decide) rfl ?_
  show am_E _ (5, [vR o, vI p], [vI (n : Int), vI p], aq_h m s F c) _
  refine ae_icmp rfl (fun (q_1 : (n : Int) ≤ p) => ?_) (fun (q_1 : p < (n : Int)) => ?_)
  · refine am_E.go (t2 := (18, [vR o, vI p], [vI p], aq_h m s F c)) rfl rfl ?_
    refine am_E.go (t2 := (19, [vR o, vI p], [vR o, vI p], aq_h m s F c)) rfl rfl ?_
    refine aq_gf (v := vI (n : Int)) rfl (by omega) hFo (by decide) rfl ?_
    show am_E _ (22, [vR o, vI p], [vI (n : Int), vI p], aq_h m s F c) _
    refine ae_sub rfl (am_ri (by omega) (by omega)) ?_
    show am_E _ (23, [vR o, vI p], [vI (p - (n : Int))], aq_h m s F c) _
    refine am_E.ret rfl rfl ?_
    refine ⟨rfl, ?_⟩
    have e9 : ac_ (n : Int) p = (p - (n : Int)) := by unfold ac_; first | rw [if_pos (by omega)] | rw [if_neg (by omega)]
    rw [e9]
  · refine am_E.go (t2 := (9, [vR o, vI p], [vI p], aq_h m s F c)) rfl rfl ?_
    refine am_E.go (t2 := (10, [vR o, vI p], [vR o, vI p], aq_h m s F c)) rfl rfl ?_
    refine aq_gf (v := vI (n : Int)) rfl (by omega) hFo (by decide) rfl ?_
    show am_E _ (13, [vR o, vI p], [vI (n : Int), vI p], aq_h m s F c) _
    refine ae_add rfl (am_ri (by omega) (by omega)) ?_
    show am_E _ (14, [vR o, vI p], [vI (p + (n : Int))], aq_h m s F c) _
    refine am_E.go (t2 := (23, [vR o, vI p], [vI (p + (n : Int))], aq_h m s F c)) rfl rfl ?_
    refine am_E.ret rfl rfl ?_
    refine ⟨rfl, ?_⟩
    have e9 : ac_ (n : Int) p = (p + (n : Int)) := by unfold ac_; first | rw [if_pos (by omega)] | rw [if_neg (by omega)]
    rw [e9]

theorem ac_r {n i : Int} (h0 : 0 ≤ i) (h1 : i < 2 * n) : 0 ≤ ac_ n i ∧ ac_ n i < 2 * n := by
  unfold ac_
  split <;> omega

theorem qz_inner_i {m s : Nat} {F : aq_F} {c0 : aq_C} {S : Nat → Prop} {o n K : Nat} (hB : bx_0 m F o n K) (hSs : S (o + 7 + 3 * K)) {tP : Int → Int → Int} (hP : bx_p F o n K tP) {x : Int} (hx0 : 0 ≤ x) (hxK : x < (K : Int)) {y : Int} (hy0 : 0 ≤ y) (hyK : y < (K : Int)) {f m2 T : Int} {Wd : Int → Int} : ∀ (d : Nat) (w : Int → Int) (a : Int) (k : Int) (c : aq_C) (hs : aq_sm S c0 c) (h0 : 0 ≤ a) (h1 : a < 2 * (n : Int)) (h2 : 0 ≤ k) (h3 : k ≤ (n : Int)) (hw : ∀ q, 0 ≤ q → q < 2 * (n : Int) → c (o + 7 + 3 * K) q = w q) (ht : ci_ (n : Int) (tP ((x.toNat : Nat) : Int)) (tP ((y.toNat : Nat) : Int)) d k a w = Wd) (hd : (n : Int) - k < (d : Int)) (K0 : ∀ (a2 : Int) (k2 : Int) (c2 : aq_C) (hs2 : aq_sm S c0 c2) (hw2 : ∀ q, 0 ≤ q → q < 2 * (n : Int) → c2 (o + 7 + 3 * K) q = Wd q), am_E ac_X0_countInnerRings (95, [vR o, vR (o + 2 + x.toNat), vR (o + 2 + y.toNat), vI f, vI m2, vI a2, vI k2], [], aq_h m s F c2) (aq_Z m s F S c0 (fun r _ => r = some (vI T)))), am_E ac_X0_countInnerRings (34, [vR o, vR (o + 2 + x.toNat), vR (o + 2 + y.toNat), vI f, vI m2, vI a, vI k], [], aq_h m s F c) (aq_Z m s F S c0 (fun r _ => r = some (vI T)))
  | 0, w, a, k, c, hs, h0, h1, h2, h3, hw, ht, hd, K0 => by exfalso; omega
  | d + 1, w, a, k, c, hs, h0, h1, h2, h3, hw, ht, hd, K0 => by
    obtain ⟨hm, hn1, hn4, hK, hFo, hFd, hFs⟩ := hB
    obtain ⟨hPg, hPr, hPt⟩ := hP
    refine am_E.go (t2 := (36, [vR o, vR (o + 2 + x.toNat), vR (o + 2 + y.toNat), vI f, vI m2, vI a, vI k], [vI k], aq_h m s F c)) rfl rfl ?_
    refine am_E.go (t2 := (37, [vR o, vR (o + 2 + x.toNat), vR (o + 2 + y.toNat), vI f, vI m2, vI a, vI k], [vR o, vI k], aq_h m s F c)) rfl rfl ?_
    refine aq_gf (v := vI (n : Int)) rfl (by omega) hFo (by decide) rfl ?_
    show am_E _ (40, [vR o, vR (o + 2 + x.toNat), vR (o + 2 + y.toNat), vI f, vI m2, vI a, vI k], [vI (n : Int), vI k], aq_h m s F c) _
    refine ae_icmp rfl (fun (q_1 : (n : Int) ≤ k) => ?_) (fun (q_1 : k < (n : Int)) => ?_)
    · exact K0 a k c hs (by rw [← ht, ci_, if_neg (by omega)]; exact hw)
    · refine am_E.go (t2 := (44, [vR o, vR (o + 2 + x.toNat), vR (o + 2 + y.toNat), vI f, vI m2, vI a, vI k], [vR o], aq_h m s F c)) rfl rfl ?_
      refine aq_gf (v := vR (o + 7 + 3 * K)) rfl (by omega) hFo (by decide) rfl ?_
      show am_E _ (47, [vR o, vR (o + 2 + x.toNat), vR (o + 2 + y.toNat), vI f, vI m2, vI a, vI k], [vR (o + 7 + 3 * K)], aq_h m s F c) _
      refine am_E.go (t2 := (49, [vR o, vR (o + 2 + x.toNat), vR (o + 2 + y.toNat), vI f, vI m2, vI a, vI k], [vI a, vR (o + 7 + 3 * K)], aq_h m s F c)) rfl rfl ?_
      refine aq_al (ok := fun k => k == 1) (v := vI (c (o + 7 + 3 * K) a)) rfl rfl (by omega) hFs rfl (by omega) (by omega) rfl ?_
      show am_E _ (50, [vR o, vR (o + 2 + x.toNat), vR (o + 2 + y.toNat), vI f, vI m2, vI a, vI k], [vI (c (o + 7 + 3 * K) a)], aq_h m s F c) _
      have f_2 := hw a (by omega) (by omega)
      refine ae_if0 rfl (fun (q_3 : (c (o + 7 + 3 * K) a) ≠ 0) => ?_) (fun (q_3 : (c (o + 7 + 3 * K) a) = 0) => ?_)
      · exact K0 a k c hs (by rw [← ht, ci_, if_neg (by omega)]; exact hw)
      · refine am_E.go (t2 := (54, [vR o, vR (o + 2 + x.toNat), vR (o + 2 + y.toNat), vI f, vI m2, vI a, vI k], [vR o], aq_h m s F c)) rfl rfl ?_
        refine aq_gf (v := vR (o + 7 + 3 * K)) rfl (by omega) hFo (by decide) rfl ?_
        show am_E _ (57, [vR o, vR (o + 2 + x.toNat), vR (o + 2 + y.toNat), vI f, vI m2, vI a, vI k], [vR (o + 7 + 3 * K)], aq_h m s F c) _
        refine am_E.go (t2 := (59, [vR o, vR (o + 2 + x.toNat), vR (o + 2 + y.toNat), vI f, vI m2, vI a, vI k], [vI a, vR (o + 7 + 3 * K)], aq_h m s F c)) rfl rfl ?_
        refine am_E.go (t2 := (60, [vR o, vR (o + 2 + x.toNat), vR (o + 2 + y.toNat), vI f, vI m2, vI a, vI k], [vI 1, vI a, vR (o + 7 + 3 * K)], aq_h m s F c)) rfl rfl ?_
        refine aq_as (kd := 1) rfl rfl (by omega) hFs (by omega) (by omega) rfl rfl ?_
        show am_E _ (61, [vR o, vR (o + 2 + x.toNat), vR (o + 2 + y.toNat), vI f, vI m2, vI a, vI k], [], aq_h m s F (aq_u c (o + 7 + 3 * K) a 1)) _
        generalize hdc_4 : aq_u c (o + 7 + 3 * K) a 1 = c_4
        have sc_4 := aq_smu hs hdc_4 hSs
        have wc_4 := dc_ac2 hw hdc_4
        refine am_E.go (t2 := (62, [vR o, vR (o + 2 + x.toNat), vR (o + 2 + y.toNat), vI f, vI m2, vI a, vI k], [vR o], aq_h m s F c_4)) rfl rfl ?_
        refine am_E.go (t2 := (63, [vR o, vR (o + 2 + x.toNat), vR (o + 2 + y.toNat), vI f, vI m2, vI a, vI k], [vR (o + 2 + x.toNat), vR o], aq_h m s F c_4)) rfl rfl ?_
        refine am_E.go (t2 := (64, [vR o, vR (o + 2 + x.toNat), vR (o + 2 + y.toNat), vI f, vI m2, vI a, vI k], [vR o, vR (o + 2 + x.toNat), vR o], aq_h m s F c_4)) rfl rfl ?_
        refine am_E.go (t2 := (66, [vR o, vR (o + 2 + x.toNat), vR (o + 2 + y.toNat), vI f, vI m2, vI a, vI k], [vI a, vR o, vR (o + 2 + x.toNat), vR o], aq_h m s F c_4)) rfl rfl ?_
        refine aq_callv (y := 2) (as2 := [vI a]) (rest := [vR (o + 2 + x.toNat), vR o]) rfl rfl (by decide) (Nat.le_of_ble_eq_true rfl) rfl rfl (Nat.le_of_ble_eq_true rfl) (by omega) hFo rfl (Nat.le_of_ble_eq_true rfl) (qz_across ⟨hm, hn1, hn4, hK, hFo, hFd, hFs⟩ (by omega) (by omega)) ?_
        rintro r5 h5 ⟨rfl, rfl⟩
        show am_E _ (69, [vR o, vR (o + 2 + x.toNat), vR (o + 2 + y.toNat), vI f, vI m2, vI a, vI k], [vI (ac_ (n : Int) a), vR (o + 2 + x.toNat), vR o], aq_h m s F c_4) _
        have ha_5 := ac_r (n := (n : Int)) (i := a) (by omega) (by omega)
        refine aq_alt (ok := fun k => k == 0) rfl rfl (by omega) (hPr _ (by omega)) rfl (by omega) (by omega) ?_
        show am_E _ (70, [vR o, vR (o + 2 + x.toNat), vR (o + 2 + y.toNat), vI f, vI m2, vI a, vI k], [vI (tP ((x.toNat : Nat) : Int) (ac_ (n : Int) a)), vR o], aq_h m s F c_4) _
        have f_6 := hPt ((x.toNat : Nat) : Int) (ac_ (n : Int) a) (by omega) (by omega) (by omega) (by omega)
        refine aq_callv (y := 2) (as2 := [vI (tP ((x.toNat : Nat) : Int) (ac_ (n : Int) a))]) (rest := []) rfl rfl (by decide) (Nat.le_of_ble_eq_true rfl) rfl rfl (Nat.le_of_ble_eq_true rfl) (by omega) hFo rfl (Nat.le_of_ble_eq_true rfl) (qz_across ⟨hm, hn1, hn4, hK, hFo, hFd, hFs⟩ (by omega) (by omega)) ?_
        rintro r5 h5 ⟨rfl, rfl⟩
        show am_E _ (73, [vR o, vR (o + 2 + x.toNat), vR (o + 2 + y.toNat), vI f, vI m2, vI a, vI k], [vI (ac_ (n : Int) (tP ((x.toNat : Nat) : Int) (ac_ (n : Int) a)))], aq_h m s F c_4) _
        have ha_7 := ac_r (n := (n : Int)) (i := (tP ((x.toNat : Nat) : Int) (ac_ (n : Int) a))) (by omega) (by omega)
        refine am_E.go (t2 := (75, [vR o, vR (o + 2 + x.toNat), vR (o + 2 + y.toNat), vI f, vI m2, vI (ac_ (n : Int) (tP ((x.toNat : Nat) : Int) (ac_ (n : Int) a))), vI k], [], aq_h m s F c_4)) rfl rfl ?_
        refine am_E.go (t2 := (76, [vR o, vR (o + 2 + x.toNat), vR (o + 2 + y.toNat), vI f, vI m2, vI (ac_ (n : Int) (tP ((x.toNat : Nat) : Int) (ac_ (n : Int) a))), vI k], [vR o], aq_h m s F c_4)) rfl rfl ?_
        refine aq_gf (v := vR (o + 7 + 3 * K)) rfl (by omega) hFo (by decide) rfl ?_
        show am_E _ (79, [vR o, vR (o + 2 + x.toNat), vR (o + 2 + y.toNat), vI f, vI m2, vI (ac_ (n : Int) (tP ((x.toNat : Nat) : Int) (ac_ (n : Int) a))), vI k], [vR (o + 7 + 3 * K)], aq_h m s F c_4) _
        refine am_E.go (t2 := (81, [vR o, vR (o + 2 + x.toNat), vR (o + 2 + y.toNat), vI f, vI m2, vI (ac_ (n : Int) (tP ((x.toNat : Nat) : Int) (ac_ (n : Int) a))), vI k], [vI (ac_ (n : Int) (tP ((x.toNat : Nat) : Int) (ac_ (n : Int) a))), vR (o + 7 + 3 * K)], aq_h m s F c_4)) rfl rfl ?_
        refine am_E.go (t2 := (82, [vR o, vR (o + 2 + x.toNat), vR (o + 2 + y.toNat), vI f, vI m2, vI (ac_ (n : Int) (tP ((x.toNat : Nat) : Int) (ac_ (n : Int) a))), vI k], [vI 1, vI (ac_ (n : Int) (tP ((x.toNat : Nat) : Int) (ac_ (n : Int) a))), vR (o + 7 + 3 * K)], aq_h m s F c_4)) rfl rfl ?_
        refine aq_as (kd := 1) rfl rfl (by omega) hFs (by omega) (by omega) rfl rfl ?_
        show am_E _ (83, [vR o, vR (o + 2 + x.toNat), vR (o + 2 + y.toNat), vI f, vI m2, vI (ac_ (n : Int) (tP ((x.toNat : Nat) : Int) (ac_ (n : Int) a))), vI k], [], aq_h m s F (aq_u c_4 (o + 7 + 3 * K) (ac_ (n : Int) (tP ((x.toNat : Nat) : Int) (ac_ (n : Int) a))) 1)) _
        generalize hdc_8 : aq_u c_4 (o + 7 + 3 * K) (ac_ (n : Int) (tP ((x.toNat : Nat) : Int) (ac_ (n : Int) a))) 1 = c_8
        have sc_8 := aq_smu sc_4 hdc_8 hSs
        have wc_8 := dc_ac2 wc_4 hdc_8
        refine am_E.go (t2 := (84, [vR o, vR (o + 2 + x.toNat), vR (o + 2 + y.toNat), vI f, vI m2, vI (ac_ (n : Int) (tP ((x.toNat : Nat) : Int) (ac_ (n : Int) a))), vI k], [vR (o + 2 + y.toNat)], aq_h m s F c_8)) rfl rfl ?_
        refine am_E.go (t2 := (86, [vR o, vR (o + 2 + x.toNat), vR (o + 2 + y.toNat), vI f, vI m2, vI (ac_ (n : Int) (tP ((x.toNat : Nat) : Int) (ac_ (n : Int) a))), vI k], [vI (ac_ (n : Int) (tP ((x.toNat : Nat) : Int) (ac_ (n : Int) a))), vR (o + 2 + y.toNat)], aq_h m s F c_8)) rfl rfl ?_
        refine aq_alt (ok := fun k => k == 0) rfl rfl (by omega) (hPr _ (by omega)) rfl (by omega) (by omega) ?_
        show am_E _ (87, [vR o, vR (o + 2 + x.toNat), vR (o + 2 + y.toNat), vI f, vI m2, vI (ac_ (n : Int) (tP ((x.toNat : Nat) : Int) (ac_ (n : Int) a))), vI k], [vI (tP ((y.toNat : Nat) : Int) (ac_ (n : Int) (tP ((x.toNat : Nat) : Int) (ac_ (n : Int) a))))], aq_h m s F c_8) _
        have f_9 := hPt ((y.toNat : Nat) : Int) (ac_ (n : Int) (tP ((x.toNat : Nat) : Int) (ac_ (n : Int) a))) (by omega) (by omega) (by omega) (by omega)
        refine am_E.go (t2 := (89, [vR o, vR (o + 2 + x.toNat), vR (o + 2 + y.toNat), vI f, vI m2, vI (tP ((y.toNat : Nat) : Int) (ac_ (n : Int) (tP ((x.toNat : Nat) : Int) (ac_ (n : Int) a)))), vI k], [], aq_h m s F c_8)) rfl rfl ?_
        refine ae_iinc rfl rfl (am_ri (by omega) (by omega)) ?_
        show am_E _ (92, [vR o, vR (o + 2 + x.toNat), vR (o + 2 + y.toNat), vI f, vI m2, vI (tP ((y.toNat : Nat) : Int) (ac_ (n : Int) (tP ((x.toNat : Nat) : Int) (ac_ (n : Int) a)))), vI (k + 1)], [], aq_h m s F c_8) _
        refine am_E.go (t2 := (34, [vR o, vR (o + 2 + x.toNat), vR (o + 2 + y.toNat), vI f, vI m2, vI (tP ((y.toNat : Nat) : Int) (ac_ (n : Int) (tP ((x.toNat : Nat) : Int) (ac_ (n : Int) a)))), vI (k + 1)], [], aq_h m s F c_8)) rfl rfl ?_
        exact qz_inner_i ⟨hm, hn1, hn4, hK, hFo, hFd, hFs⟩ hSs ⟨hPg, hPr, hPt⟩ hx0 hxK hy0 hyK d (dc_u (dc_u w a) (ac_ (n : Int) (tP ((x.toNat : Nat) : Int) (ac_ (n : Int) a)))) (tP ((y.toNat : Nat) : Int) (ac_ (n : Int) (tP ((x.toNat : Nat) : Int) (ac_ (n : Int) a)))) (k + 1) c_8 sc_8 (by omega) (by omega) (by omega) (by omega) wc_8 (by rw [← ht, ci_, if_pos (by omega)]) (by omega) K0

theorem qz_inner_o {m s : Nat} {F : aq_F} {c0 : aq_C} {S : Nat → Prop} {o n K : Nat} (hB : bx_0 m F o n K) (hSs : S (o + 7 + 3 * K)) {tP : Int → Int → Int} (hP : bx_p F o n K tP) {x : Int} (hx0 : 0 ≤ x) (hxK : x < (K : Int)) {y : Int} (hy0 : 0 ≤ y) (hyK : y < (K : Int)) {T : Int} : ∀ (d : Nat) (w : Int → Int) (f : Int) (p : Int) (v5 : am_V) (v6 : am_V) (c : aq_C) (hs : aq_sm S c0 c) (h0 : 0 ≤ p) (h1 : p ≤ (n : Int)) (h2 : 0 ≤ f) (h3 : f ≤ p) (hw : ∀ q, 0 ≤ q → q < 2 * (n : Int) → c (o + 7 + 3 * K) q = w q) (ht : co_ (n : Int) (tP ((x.toNat : Nat) : Int)) (tP ((y.toNat : Nat) : Int)) d p f w = T) (hd : (n : Int) - p < (d : Int)), am_E ac_X0_countInnerRings (5, [vR o, vR (o + 2 + x.toNat), vR (o + 2 + y.toNat), vI f, vI p, v5, v6], [], aq_h m s F c) (aq_Z m s F S c0 (fun r _ => r = some (vI T)))
  | 0, w, f, p, v5, v6, c, hs, h0, h1, h2, h3, hw, ht, hd => by exfalso; omega
  | d + 1, w, f, p, v5, v6, c, hs, h0, h1, h2, h3, hw, ht, hd => by
    obtain ⟨hm, hn1, hn4, hK, hFo, hFd, hFs⟩ := hB
    obtain ⟨hPg, hPr, hPt⟩ := hP
    refine am_E.go (t2 := (7, [vR o, vR (o + 2 + x.toNat), vR (o + 2 + y.toNat), vI f, vI p, v5, v6], [vI p], aq_h m s F c)) rfl rfl ?_
    refine am_E.go (t2 := (8, [vR o, vR (o + 2 + x.toNat), vR (o + 2 + y.toNat), vI f, vI p, v5, v6], [vR o, vI p], aq_h m s F c)) rfl rfl ?_
    refine aq_gf (v := vI (n : Int)) rfl (by omega) hFo (by decide) rfl ?_
    show am_E _ (11, [vR o, vR (o + 2 + x.toNat), vR (o + 2 + y.toNat), vI f, vI p, v5, v6], [vI (n : Int), vI p], aq_h m s F c) _
    refine ae_icmp rfl (fun (q_1 : (n : Int) ≤ p) => ?_) (fun (q_1 : p < (n : Int)) => ?_)
    · refine am_E.go (t2 := (102, [vR o, vR (o + 2 + x.toNat), vR (o + 2 + y.toNat), vI f, vI p, v5, v6], [vI f], aq_h m s F c)) rfl rfl ?_
      refine am_E.ret rfl rfl ?_
      refine ⟨_, rfl, hs, ?_⟩
      rw [← ht, co_, if_neg (by omega)]
    · refine am_E.go (t2 := (15, [vR o, vR (o + 2 + x.toNat), vR (o + 2 + y.toNat), vI f, vI p, v5, v6], [vR o], aq_h m s F c)) rfl rfl ?_
      refine aq_gf (v := vR (o + 7 + 3 * K)) rfl (by omega) hFo (by decide) rfl ?_
      show am_E _ (18, [vR o, vR (o + 2 + x.toNat), vR (o + 2 + y.toNat), vI f, vI p, v5, v6], [vR (o + 7 + 3 * K)], aq_h m s F c) _
      refine am_E.go (t2 := (20, [vR o, vR (o + 2 + x.toNat), vR (o + 2 + y.toNat), vI f, vI p, v5, v6], [vI p, vR (o + 7 + 3 * K)], aq_h m s F c)) rfl rfl ?_
      refine aq_al (ok := fun k => k == 1) (v := vI (c (o + 7 + 3 * K) p)) rfl rfl (by omega) hFs rfl (by omega) (by omega) rfl ?_
      show am_E _ (21, [vR o, vR (o + 2 + x.toNat), vR (o + 2 + y.toNat), vI f, vI p, v5, v6], [vI (c (o + 7 + 3 * K) p)], aq_h m s F c) _
      have f_2 := hw p (by omega) (by omega)
      refine ae_if0 rfl (fun (q_3 : (c (o + 7 + 3 * K) p) ≠ 0) => ?_) (fun (q_3 : (c (o + 7 + 3 * K) p) = 0) => ?_)
      · refine ae_iinc rfl rfl (am_ri (by omega) (by omega)) ?_
        show am_E _ (98, [vR o, vR (o + 2 + x.toNat), vR (o + 2 + y.toNat), vI f, vI (p + 1), v5, v6], [], aq_h m s F c) _
        refine am_E.go (t2 := (5, [vR o, vR (o + 2 + x.toNat), vR (o + 2 + y.toNat), vI f, vI (p + 1), v5, v6], [], aq_h m s F c)) rfl rfl ?_
        exact qz_inner_o ⟨hm, hn1, hn4, hK, hFo, hFd, hFs⟩ hSs ⟨hPg, hPr, hPt⟩ hx0 hxK hy0 hyK d w f (p + 1) (v5) (v6) c hs (by omega) (by omega) (by omega) (by omega) hw (by rw [← ht, co_, if_pos (by omega)]; first | rw [if_pos (by omega)] | rw [if_neg (by omega)]) (by omega)
      · refine ae_iinc rfl rfl (am_ri (by omega) (by omega)) ?_
        show am_E _ (27, [vR o, vR (o + 2 + x.toNat), vR (o + 2 + y.toNat), vI (f + 1), vI p, v5, v6], [], aq_h m s F c) _
        refine am_E.go (t2 := (29, [vR o, vR (o + 2 + x.toNat), vR (o + 2 + y.toNat), vI (f + 1), vI p, v5, v6], [vI p], aq_h m s F c)) rfl rfl ?_
        refine am_E.go (t2 := (31, [vR o, vR (o + 2 + x.toNat), vR (o + 2 + y.toNat), vI (f + 1), vI p, vI p, v6], [], aq_h m s F c)) rfl rfl ?_
        refine am_E.go (t2 := (32, [vR o, vR (o + 2 + x.toNat), vR (o + 2 + y.toNat), vI (f + 1), vI p, vI p, v6], [vI 0], aq_h m s F c)) rfl rfl ?_
        refine am_E.go (t2 := (34, [vR o, vR (o + 2 + x.toNat), vR (o + 2 + y.toNat), vI (f + 1), vI p, vI p, vI 0], [], aq_h m s F c)) rfl rfl ?_
        refine qz_inner_i ⟨hm, hn1, hn4, hK, hFo, hFd, hFs⟩ hSs ⟨hPg, hPr, hPt⟩ hx0 hxK hy0 hyK 9 w p 0 c hs (by omega) (by omega) (by omega) (by omega) hw rfl (by omega) ?_
        · intro a2_34 k2_34 c_4 sc_4 hw2_34
          refine ae_iinc rfl rfl (am_ri (by omega) (by omega)) ?_
          show am_E _ (98, [vR o, vR (o + 2 + x.toNat), vR (o + 2 + y.toNat), vI (f + 1), vI (p + 1), vI a2_34, vI k2_34], [], aq_h m s F c_4) _
          refine am_E.go (t2 := (5, [vR o, vR (o + 2 + x.toNat), vR (o + 2 + y.toNat), vI (f + 1), vI (p + 1), vI a2_34, vI k2_34], [], aq_h m s F c_4)) rfl rfl ?_
          exact qz_inner_o ⟨hm, hn1, hn4, hK, hFo, hFd, hFs⟩ hSs ⟨hPg, hPr, hPt⟩ hx0 hxK hy0 hyK d (ci_ (n : Int) (tP ((x.toNat : Nat) : Int)) (tP ((y.toNat : Nat) : Int)) 9 0 p w) (f + 1) (p + 1) (vI a2_34) (vI k2_34) c_4 sc_4 (by omega) (by omega) (by omega) (by omega) hw2_34 (by rw [← ht, co_, if_pos (by omega)]; first | rw [if_pos (by omega)] | rw [if_neg (by omega)]) (by omega)

theorem qz_countInnerRings {m s : Nat} {F : aq_F} {c : aq_C} {S : Nat → Prop} {o n K : Nat} (hB : bx_0 m F o n K) (hSs : S (o + 7 + 3 * K)) {tP : Int → Int → Int} (hP : bx_p F o n K tP) {x : Int} (hx0 : 0 ≤ x) (hxK : x < (K : Int)) {y : Int} (hy0 : 0 ≤ y) (hyK : y < (K : Int)) {w : Int → Int} (hw : ∀ q, 0 ≤ q → q < 2 * (n : Int) → c (o + 7 + 3 * K) q = w q) : am_E ac_X0_countInnerRings (0, [vR o, vR (o + 2 + x.toNat), vR (o + 2 + y.toNat), vU, vU, vU, vU], [], aq_h m s F c) (aq_Z m s F S c (fun r _ => r = some (vI (co_ (n : Int) (tP ((x.toNat : Nat) : Int)) (tP ((y.toNat : Nat) : Int)) 9 0 0 w)))) := by
  obtain ⟨hm, hn1, hn4, hK, hFo, hFd, hFs⟩ := hB
  obtain ⟨hPg, hPr, hPt⟩ := hP
  refine am_E.go (t2 := (1, [vR o, vR (o + 2 + x.toNat), vR (o + 2 + y.toNat), vU, vU, vU, vU], [vI 0], aq_h m s F c)) rfl rfl ?_
  refine am_E.go (t2 := (2, [vR o, vR (o + 2 + x.toNat), vR (o + 2 + y.toNat), vI 0, vU, vU, vU], [], aq_h m s F c)) rfl rfl ?_
  refine am_E.go (t2 := (3, [vR o, vR (o + 2 + x.toNat), vR (o + 2 + y.toNat), vI 0, vU, vU, vU], [vI 0], aq_h m s F c)) rfl rfl ?_
  refine am_E.go (t2 := (5, [vR o, vR (o + 2 + x.toNat), vR (o + 2 + y.toNat), vI 0, vI 0, vU, vU], [], aq_h m s F c)) rfl rfl ?_
  exact qz_inner_o ⟨hm, hn1, hn4, hK, hFo, hFd, hFs⟩ hSs ⟨hPg, hPr, hPt⟩ hx0 hxK hy0 hyK 9 w 0 0 (vU) (vU) c aq_sm0 (by omega) (by omega) (by omega) (by omega) hw rfl (by omega)

theorem co_b {n : Int} {f g : Int → Int} : ∀ (d : Nat) (p x : Int) (w : Int → Int), 0 ≤ x → x ≤ p → p ≤ n → 0 ≤ co_ n f g d p x w ∧ co_ n f g d p x w ≤ n
  | 0, p, x, w, h0, h1, h2 => by
    rw [co_]
    omega
  | d + 1, p, x, w, h0, h1, h2 => by
    rw [co_]
    (repeat' split)
    · exact co_b d (p + 1) (x + 1) _ (by omega) (by omega) (by omega)
    · exact co_b d (p + 1) x _ (by omega) (by omega) (by omega)
    · omega

theorem qz_join_l {m s : Nat} {F : aq_F} {c0 : aq_C} {S : Nat → Prop} {o n K : Nat} (hB : bx_0 m F o n K) (hSd : S (o + 6 + 3 * K)) (hSs : S (o + 7 + 3 * K)) {tP : Int → Int → Int} (hP : bx_p F o n K tP) {x : Int} (hx0 : 0 ≤ x) (hxK : x < (K : Int)) {y : Int} (hy0 : 0 ≤ y) (hyK : y < (K : Int)) (hfi : fi (n : Int) (tP ((x.toNat : Nat) : Int))) (hgi : fi (n : Int) (tP ((y.toNat : Nat) : Int))) (hKn : (K : Int) = bx_K (n : Int)) {Wm : Int → Int} : ∀ (d : Nat) (w : Int → Int) (p : Int) (c : aq_C) (hs : aq_sm S c0 c) (h0 : 0 ≤ p) (h1 : p ≤ 2 * (n : Int)) (hr : aq_rg (o + 6 + 3 * K) (2 * (n : Int)) 0 (2 * (n : Int)) c) (hz : ∀ i, 0 ≤ i → i < p → c (o + 6 + 3 * K) i = (fst_ (n : Int) (tP ((x.toNat : Nat) : Int)) (tP ((y.toNat : Nat) : Int))) i) (hw : ∀ q, 0 ≤ q → q < 2 * (n : Int) → c (o + 7 + 3 * K) q = w q) (hm_ : mj_ (n : Int) (tP ((x.toNat : Nat) : Int)) (tP ((y.toNat : Nat) : Int)) d p w = Wm) (hd : 2 * (n : Int) - p < (d : Int)), am_E ac_X0_join (6, [vR o, vR (o + 2 + x.toNat), vR (o + 2 + y.toNat), vI p], [], aq_h m s F c) (aq_Z m s F S c0 (fun r d => aq_rg (o + 6 + 3 * K) (2 * (n : Int)) 0 (2 * (n : Int)) d ∧ r = some (vI (nu_o (fst_ (n : Int) (tP ((x.toNat : Nat) : Int)) (tP ((y.toNat : Nat) : Int))) (2 * (n : Int)) 9 0 0 (2 * (n : Int) - 1) + 1000 * co_ (n : Int) (tP ((x.toNat : Nat) : Int)) (tP ((y.toNat : Nat) : Int)) 9 0 0 Wm))))
  | 0, w, p, c, hs, h0, h1, hr, hz, hw, hm_, hd => by exfalso; omega
  | d + 1, w, p, c, hs, h0, h1, hr, hz, hw, hm_, hd => by
    obtain ⟨hm, hn1, hn4, hK, hFo, hFd, hFs⟩ := hB
    obtain ⟨hPg, hPr, hPt⟩ := hP
    refine am_E.go (t2 := (7, [vR o, vR (o + 2 + x.toNat), vR (o + 2 + y.toNat), vI p], [vI p], aq_h m s F c)) rfl rfl ?_
    refine am_E.go (t2 := (8, [vR o, vR (o + 2 + x.toNat), vR (o + 2 + y.toNat), vI p], [vR o, vI p], aq_h m s F c)) rfl rfl ?_
    refine aq_gf (v := vI (2 * (n : Int))) rfl (by omega) hFo (by decide) rfl ?_
    show am_E _ (11, [vR o, vR (o + 2 + x.toNat), vR (o + 2 + y.toNat), vI p], [vI (2 * (n : Int)), vI p], aq_h m s F c) _
    refine ae_icmp rfl (fun (q_1 : (2 * (n : Int)) ≤ p) => ?_) (fun (q_1 : p < (2 * (n : Int))) => ?_)
    · refine am_E.go (t2 := (34, [vR o, vR (o + 2 + x.toNat), vR (o + 2 + y.toNat), vI p], [vR o], aq_h m s F c)) rfl rfl ?_
      refine am_E.go (t2 := (35, [vR o, vR (o + 2 + x.toNat), vR (o + 2 + y.toNat), vI p], [vR o, vR o], aq_h m s F c)) rfl rfl ?_
      refine aq_gf (v := vR (o + 6 + 3 * K)) rfl (by omega) hFo (by decide) rfl ?_
      show am_E _ (38, [vR o, vR (o + 2 + x.toNat), vR (o + 2 + y.toNat), vI p], [vR (o + 6 + 3 * K), vR o], aq_h m s F c) _
      refine aq_callv (y := 2) (as2 := [vR (o + 6 + 3 * K)]) (rest := []) rfl rfl (by decide) (Nat.le_of_ble_eq_true rfl) rfl rfl (Nat.le_of_ble_eq_true rfl) (by omega) hFo rfl (Nat.le_of_ble_eq_true rfl) (qn_X0_numberOf ⟨hm, hn1, hn4, hK, hFo, hFd, hFs⟩ hr) ?_
      rintro r5 h5 ⟨rfl, rfl⟩
      show am_E _ (41, [vR o, vR (o + 2 + x.toNat), vR (o + 2 + y.toNat), vI p], [vI (nu_o (c (o + 6 + 3 * K)) (2 * (n : Int)) 9 0 0 (2 * (n : Int) - 1))], aq_h m s F c) _
      have enu := nu_oc (N := 2 * (n : Int)) (fun i k0 k1 => hz i k0 (by omega)) (fun i k0 k1 => by have := hr i k0 k1; omega) 9 0 0 (2 * (n : Int) - 1) (by omega)
      have hnu := nu_fi (n := (n : Int)) (by omega) (by omega) (fi_st (n := (n : Int)) (by omega) hfi hgi)
      rw [← enu, ← hKn] at hnu
      refine am_E.go (t2 := (44, [vR o, vR (o + 2 + x.toNat), vR (o + 2 + y.toNat), vI p], [vI 1000, vI (nu_o (c (o + 6 + 3 * K)) (2 * (n : Int)) 9 0 0 (2 * (n : Int) - 1))], aq_h m s F c)) rfl rfl ?_
      refine am_E.go (t2 := (45, [vR o, vR (o + 2 + x.toNat), vR (o + 2 + y.toNat), vI p], [vR o, vI 1000, vI (nu_o (c (o + 6 + 3 * K)) (2 * (n : Int)) 9 0 0 (2 * (n : Int) - 1))], aq_h m s F c)) rfl rfl ?_
      refine am_E.go (t2 := (46, [vR o, vR (o + 2 + x.toNat), vR (o + 2 + y.toNat), vI p], [vR (o + 2 + x.toNat), vR o, vI 1000, vI (nu_o (c (o + 6 + 3 * K)) (2 * (n : Int)) 9 0 0 (2 * (n : Int) - 1))], aq_h m s F c)) rfl rfl ?_
      refine am_E.go (t2 := (47, [vR o, vR (o + 2 + x.toNat), vR (o + 2 + y.toNat), vI p], [vR (o + 2 + y.toNat), vR (o + 2 + x.toNat), vR o, vI 1000, vI (nu_o (c (o + 6 + 3 * K)) (2 * (n : Int)) 9 0 0 (2 * (n : Int) - 1))], aq_h m s F c)) rfl rfl ?_
      refine aq_callv (y := 3) (as2 := [vR (o + 2 + x.toNat), vR (o + 2 + y.toNat)]) (rest := [vI 1000, vI (nu_o (c (o + 6 + 3 * K)) (2 * (n : Int)) 9 0 0 (2 * (n : Int) - 1))]) rfl rfl (by decide) (Nat.le_of_ble_eq_true rfl) rfl rfl (Nat.le_of_ble_eq_true rfl) (by omega) hFo rfl (Nat.le_of_ble_eq_true rfl) (qz_countInnerRings (S := (fun a => a = o + 7 + 3 * K)) ⟨hm, hn1, hn4, hK, hFo, hFd, hFs⟩ rfl ⟨hPg, hPr, hPt⟩ hx0 hxK hy0 hyK (w := Wm) (by rw [← hm_, mj_, if_neg (by omega)]; exact hw)) ?_
      rintro r5 h5 ⟨c_i, rfl, s_i, rfl⟩
      show am_E _ (50, [vR o, vR (o + 2 + x.toNat), vR (o + 2 + y.toNat), vI p], [vI (co_ (n : Int) (tP ((x.toNat : Nat) : Int)) (tP ((y.toNat : Nat) : Int)) 9 0 0 Wm), vI 1000, vI (nu_o (c (o + 6 + 3 * K)) (2 * (n : Int)) 9 0 0 (2 * (n : Int) - 1))], aq_h m s F c_i) _
      have hco := co_b (n := (n : Int)) (f := (tP ((x.toNat : Nat) : Int))) (g := (tP ((y.toNat : Nat) : Int))) 9 0 0 Wm (by omega) (by omega) (by omega)
      refine ae_mul rfl (am_ri (by omega) (by omega)) ?_
      show am_E _ (51, [vR o, vR (o + 2 + x.toNat), vR (o + 2 + y.toNat), vI p], [vI (1000 * (co_ (n : Int) (tP ((x.toNat : Nat) : Int)) (tP ((y.toNat : Nat) : Int)) 9 0 0 Wm)), vI (nu_o (c (o + 6 + 3 * K)) (2 * (n : Int)) 9 0 0 (2 * (n : Int) - 1))], aq_h m s F c_i) _
      refine ae_add rfl (am_ri (by omega) (by omega)) ?_
      show am_E _ (52, [vR o, vR (o + 2 + x.toNat), vR (o + 2 + y.toNat), vI p], [vI ((nu_o (c (o + 6 + 3 * K)) (2 * (n : Int)) 9 0 0 (2 * (n : Int) - 1)) + (1000 * (co_ (n : Int) (tP ((x.toNat : Nat) : Int)) (tP ((y.toNat : Nat) : Int)) 9 0 0 Wm)))], aq_h m s F c_i) _
      refine am_E.ret rfl rfl ?_
      refine ⟨_, rfl, (aq_smt hs (aq_smi s_i (fun a h => by rw [h]; exact hSs))), (aq_rgs hr s_i (by omega)), ?_⟩
      rw [enu]
    · refine am_E.go (t2 := (15, [vR o, vR (o + 2 + x.toNat), vR (o + 2 + y.toNat), vI p], [vR o], aq_h m s F c)) rfl rfl ?_
      refine aq_gf (v := vR (o + 6 + 3 * K)) rfl (by omega) hFo (by decide) rfl ?_
      show am_E _ (18, [vR o, vR (o + 2 + x.toNat), vR (o + 2 + y.toNat), vI p], [vR (o + 6 + 3 * K)], aq_h m s F c) _
      refine am_E.go (t2 := (19, [vR o, vR (o + 2 + x.toNat), vR (o + 2 + y.toNat), vI p], [vI p, vR (o + 6 + 3 * K)], aq_h m s F c)) rfl rfl ?_
      refine am_E.go (t2 := (20, [vR o, vR (o + 2 + x.toNat), vR (o + 2 + y.toNat), vI p], [vR o, vI p, vR (o + 6 + 3 * K)], aq_h m s F c)) rfl rfl ?_
      refine am_E.go (t2 := (21, [vR o, vR (o + 2 + x.toNat), vR (o + 2 + y.toNat), vI p], [vR (o + 2 + x.toNat), vR o, vI p, vR (o + 6 + 3 * K)], aq_h m s F c)) rfl rfl ?_
      refine am_E.go (t2 := (22, [vR o, vR (o + 2 + x.toNat), vR (o + 2 + y.toNat), vI p], [vR (o + 2 + y.toNat), vR (o + 2 + x.toNat), vR o, vI p, vR (o + 6 + 3 * K)], aq_h m s F c)) rfl rfl ?_
      refine am_E.go (t2 := (23, [vR o, vR (o + 2 + x.toNat), vR (o + 2 + y.toNat), vI p], [vI p, vR (o + 2 + y.toNat), vR (o + 2 + x.toNat), vR o, vI p, vR (o + 6 + 3 * K)], aq_h m s F c)) rfl rfl ?_
      refine aq_callv (y := 4) (as2 := [vR (o + 2 + x.toNat), vR (o + 2 + y.toNat), vI p]) (rest := [vI p, vR (o + 6 + 3 * K)]) rfl rfl (by decide) (Nat.le_of_ble_eq_true rfl) rfl rfl (Nat.le_of_ble_eq_true rfl) (by omega) hFo rfl (Nat.le_of_ble_eq_true rfl) (qz_follow (S := (fun a => a = o + 7 + 3 * K)) ⟨hm, hn1, hn4, hK, hFo, hFd, hFs⟩ rfl ⟨hPg, hPr, hPt⟩ hx0 hxK hy0 hyK hfi hgi (start := p) hw (by omega) (by omega)) ?_
      rintro r5 h5 ⟨c_f, rfl, s_f, rfl, hw_f⟩
      show am_E _ (26, [vR o, vR (o + 2 + x.toNat), vR (o + 2 + y.toNat), vI p], [vI (fst_ (n : Int) (tP ((x.toNat : Nat) : Int)) (tP ((y.toNat : Nat) : Int)) p), vI p, vR (o + 6 + 3 * K)], aq_h m s F c_f) _
      have fp := fi_st (n := (n : Int)) (by omega) hfi hgi p (by omega) (by omega)
      refine aq_as (kd := 0) rfl rfl (by omega) hFd (by omega) (by omega) rfl rfl ?_
      show am_E _ (27, [vR o, vR (o + 2 + x.toNat), vR (o + 2 + y.toNat), vI p], [], aq_h m s F (aq_u c_f (o + 6 + 3 * K) p (fst_ (n : Int) (tP ((x.toNat : Nat) : Int)) (tP ((y.toNat : Nat) : Int)) p))) _
      generalize hdc_2 : aq_u c_f (o + 6 + 3 * K) p (fst_ (n : Int) (tP ((x.toNat : Nat) : Int)) (tP ((y.toNat : Nat) : Int)) p) = c_2
      have sc_2 := aq_smu (aq_smt hs (aq_smi s_f (fun a h => by rw [h]; exact hSs))) hdc_2 hSd
      have hdrc_2 := aq_rgu (aq_rgs hr s_f (by omega)) hdc_2 (by omega) (by omega)
      refine ae_iinc rfl rfl (am_ri (by omega) (by omega)) ?_
      show am_E _ (30, [vR o, vR (o + 2 + x.toNat), vR (o + 2 + y.toNat), vI (p + 1)], [], aq_h m s F c_2) _
      refine am_E.go (t2 := (6, [vR o, vR (o + 2 + x.toNat), vR (o + 2 + y.toNat), vI (p + 1)], [], aq_h m s F c_2)) rfl rfl ?_
      exact qz_join_l ⟨hm, hn1, hn4, hK, hFo, hFd, hFs⟩ hSd hSs ⟨hPg, hPr, hPt⟩ hx0 hxK hy0 hyK hfi hgi hKn d (fv_ (n : Int) (tP ((x.toNat : Nat) : Int)) (tP ((y.toNat : Nat) : Int)) 5 (decide (p < (n : Int))) p w) (p + 1) c_2 sc_2 (by omega) (by omega) hdrc_2 (aq_fl (g := (fst_ (n : Int) (tP ((x.toNat : Nat) : Int)) (tP ((y.toNat : Nat) : Int)))) (fun i h5 h6 => by rw [s_f _ (by omega)]; exact hz i h5 h6) hdc_2 rfl) (fun q q0 q1 => by rw [← hdc_2, aq_un (Or.inl (by omega))]; exact hw_f q q0 q1) (by rw [← hm_, mj_, if_pos (by omega)]) (by omega)

theorem qz_join {m s : Nat} {F : aq_F} {c : aq_C} {S : Nat → Prop} {o n K : Nat} (hB : bx_0 m F o n K) (hSd : S (o + 6 + 3 * K)) (hSs : S (o + 7 + 3 * K)) {tP : Int → Int → Int} (hP : bx_p F o n K tP) {x : Int} (hx0 : 0 ≤ x) (hxK : x < (K : Int)) {y : Int} (hy0 : 0 ≤ y) (hyK : y < (K : Int)) (hfi : fi (n : Int) (tP ((x.toNat : Nat) : Int))) (hgi : fi (n : Int) (tP ((y.toNat : Nat) : Int))) (hKn : (K : Int) = bx_K (n : Int)) (hr : aq_rg (o + 6 + 3 * K) (2 * (n : Int)) 0 (2 * (n : Int)) c) : am_E ac_X0_join (0, [vR o, vR (o + 2 + x.toNat), vR (o + 2 + y.toNat), vU], [], aq_h m s F c) (aq_Z m s F S c (fun r d => aq_rg (o + 6 + 3 * K) (2 * (n : Int)) 0 (2 * (n : Int)) d ∧ r = some (vI (jn_ (n : Int) (tP ((x.toNat : Nat) : Int)) (tP ((y.toNat : Nat) : Int)))))) := by
  obtain ⟨hm, hn1, hn4, hK, hFo, hFd, hFs⟩ := hB
  obtain ⟨hPg, hPr, hPt⟩ := hP
  refine am_E.go (t2 := (1, [vR o, vR (o + 2 + x.toNat), vR (o + 2 + y.toNat), vU], [vR o], aq_h m s F c)) rfl rfl ?_
  refine aq_callv (y := 1) (as2 := []) (rest := []) rfl rfl (by decide) (Nat.le_of_ble_eq_true rfl) rfl rfl (Nat.le_of_ble_eq_true rfl) (by omega) hFo rfl (Nat.le_of_ble_eq_true rfl) (qn_X0_forgetSeen ⟨hm, hn1, hn4, hK, hFo, hFd, hFs⟩) ?_
  rintro r5 h5 ⟨c_z, rfl, s_z, rfl, hz_z⟩
  show am_E _ (4, [vR o, vR (o + 2 + x.toNat), vR (o + 2 + y.toNat), vU], [], aq_h m s F c_z) _
  refine am_E.go (t2 := (5, [vR o, vR (o + 2 + x.toNat), vR (o + 2 + y.toNat), vU], [vI 0], aq_h m s F c_z)) rfl rfl ?_
  refine am_E.go (t2 := (6, [vR o, vR (o + 2 + x.toNat), vR (o + 2 + y.toNat), vI 0], [], aq_h m s F c_z)) rfl rfl ?_
  exact qz_join_l ⟨hm, hn1, hn4, hK, hFo, hFd, hFs⟩ hSd hSs ⟨hPg, hPr, hPt⟩ hx0 hxK hy0 hyK hfi hgi hKn 9 (fun _ => 0) 0 c_z (aq_smt aq_sm0 (aq_smi s_z (fun a h => by rw [h]; exact hSs))) (by omega) (by omega) (aq_rgs hr s_z (by omega)) (fun i h5 h6 => absurd h6 (by omega)) hz_z rfl (by omega)

theorem ol_1 : ∀ l : Nat, l < 14 → (l = 0 ∨ ((1 ≤ l ∧ l < 1) ∨ (11 ≤ l ∧ l < 10 + 1))) → 0 ≤ nu_o (bx_ol 1 (l : Int)) 2 9 0 0 1 ∧ nu_o (bx_ol 1 (l : Int)) 2 9 0 0 1 < 1 := by decide +kernel
theorem ol_2 : ∀ l : Nat, l < 14 → (l = 0 ∨ ((1 ≤ l ∧ l < 2) ∨ (11 ≤ l ∧ l < 10 + 2))) → 0 ≤ nu_o (bx_ol 2 (l : Int)) 4 9 0 0 3 ∧ nu_o (bx_ol 2 (l : Int)) 4 9 0 0 3 < 3 := by decide +kernel
theorem ol_3 : ∀ l : Nat, l < 14 → (l = 0 ∨ ((1 ≤ l ∧ l < 3) ∨ (11 ≤ l ∧ l < 10 + 3))) → 0 ≤ nu_o (bx_ol 3 (l : Int)) 6 9 0 0 5 ∧ nu_o (bx_ol 3 (l : Int)) 6 9 0 0 5 < 15 := by decide +kernel
theorem ol_4 : ∀ l : Nat, l < 14 → (l = 0 ∨ ((1 ≤ l ∧ l < 4) ∨ (11 ≤ l ∧ l < 10 + 4))) → 0 ≤ nu_o (bx_ol 4 (l : Int)) 8 9 0 0 7 ∧ nu_o (bx_ol 4 (l : Int)) 8 9 0 0 7 < 105 := by decide +kernel
theorem ol_n {n : Nat} {l : Int} (h1 : 1 ≤ n) (h4 : n ≤ 4) (hl : l = 0 ∨ ((1 ≤ l ∧ l < (n : Int)) ∨ (11 ≤ l ∧ l < 10 + (n : Int)))) : 0 ≤ nu_o (bx_ol n l) (2 * (n : Int)) 9 0 0 (2 * (n : Int) - 1) ∧ nu_o (bx_ol n l) (2 * (n : Int)) 9 0 0 (2 * (n : Int) - 1) < bx_K (n : Int) := by
  have el : ((l.toNat : Nat) : Int) = l := Int.toNat_of_nonneg (by omega)
  have h : n = 1 ∨ n = 2 ∨ n = 3 ∨ n = 4 := by omega
  rcases h with h | h | h | h <;> subst h
  · have := ol_1 l.toNat (by omega) (by omega)
    rw [el] at this
    exact this
  · have := ol_2 l.toNat (by omega) (by omega)
    rw [el] at this
    exact this
  · have := ol_3 l.toNat (by omega) (by omega)
    rw [el] at this
    exact this
  · have := ol_4 l.toNat (by omega) (by omega)
    rw [el] at this
    exact this
theorem fi_c {n : Int} {f g : Int → Int} (h : fi n g) (e : ∀ i, 0 ≤ i → i < 2 * n → f i = g i) : fi n f := by
  intro p h0 h1
  obtain ⟨k1, k2, k3, k4⟩ := h p h0 h1
  rw [e p h0 h1]
  exact ⟨k1, k2, k3, by rw [e _ k1 k2]; exact k4⟩

theorem ldr_c {n : Int} {f g f2 g2 : Int → Int} (hf : ∀ i, 0 ≤ i → i < 2 * n → f i = f2 i) (hg : ∀ i, 0 ≤ i → i < 2 * n → g i = g2 i) (rf : fi n f2) (rg : fi n g2) : ∀ (d : Nat) (u : Bool) (p : Int), 0 ≤ p → p < 2 * n → ldr n f g d u p = ldr n f2 g2 d u p
  | 0, _, _, _, _ => rfl
  | d + 1, true, p, h0, h1 => by
    rw [ldr, ldr, hf p h0 h1]
    have r := rf p h0 h1
    by_cases e : n ≤ f2 p
    · rw [if_pos e, if_pos e, ldr_c hf hg rf rg d false _ (by omega) (by omega)]
    · rw [if_neg e, if_neg e]
  | d + 1, false, p, h0, h1 => by
    rw [ldr, ldr, hg p h0 h1]
    have r := rg p h0 h1
    by_cases e : g2 p < n
    · rw [if_pos e, if_pos e, ldr_c hf hg rf rg d true _ (by omega) (by omega)]
    · rw [if_neg e, if_neg e]
theorem fv_c {n : Int} {f g f2 g2 : Int → Int} (hf : ∀ i, 0 ≤ i → i < 2 * n → f i = f2 i) (hg : ∀ i, 0 ≤ i → i < 2 * n → g i = g2 i) (rf : fi n f2) (rg : fi n g2) : ∀ (d : Nat) (u : Bool) (p : Int) (w : Int → Int), 0 ≤ p → p < 2 * n → fv_ n f g d u p w = fv_ n f2 g2 d u p w
  | 0, _, _, _, _, _ => rfl
  | d + 1, true, p, w, h0, h1 => by
    rw [fv_, fv_, hf p h0 h1]
    have r := rf p h0 h1
    by_cases e : n ≤ f2 p
    · rw [if_pos e, if_pos e, fv_c hf hg rf rg d false _ _ (by omega) (by omega)]
    · rw [if_neg e, if_neg e]
  | d + 1, false, p, w, h0, h1 => by
    rw [fv_, fv_, hg p h0 h1]
    have r := rg p h0 h1
    by_cases e : g2 p < n
    · rw [if_pos e, if_pos e, fv_c hf hg rf rg d true _ _ (by omega) (by omega)]
    · rw [if_neg e, if_neg e]
theorem mj_c {n : Int} {f g f2 g2 : Int → Int} (hf : ∀ i, 0 ≤ i → i < 2 * n → f i = f2 i) (hg : ∀ i, 0 ≤ i → i < 2 * n → g i = g2 i) (rf : fi n f2) (rg : fi n g2) : ∀ (d : Nat) (p : Int) (w : Int → Int), 0 ≤ p → mj_ n f g d p w = mj_ n f2 g2 d p w
  | 0, _, _, _ => rfl
  | d + 1, p, w, h0 => by
    rw [mj_, mj_]
    by_cases e : p < 2 * n
    · rw [if_pos e, if_pos e, fv_c hf hg rf rg 5 _ p w h0 e, mj_c hf hg rf rg d (p + 1) _ (by omega)]
    · rw [if_neg e, if_neg e]
theorem ci_c {n : Int} {f g f2 g2 : Int → Int} (hf : ∀ i, 0 ≤ i → i < 2 * n → f i = f2 i) (hg : ∀ i, 0 ≤ i → i < 2 * n → g i = g2 i) (rf : fi n f2) (rg : fi n g2) : ∀ (d : Nat) (k a : Int) (w : Int → Int), 0 ≤ a → a < 2 * n → ci_ n f g d k a w = ci_ n f2 g2 d k a w
  | 0, _, _, _, _, _ => rfl
  | d + 1, k, a, w, h0, h1 => by
    rw [ci_, ci_]
    by_cases e : k < n ∧ w a = 0
    · have r1 := ac_r (n := n) h0 h1
      have r2 := rf _ r1.1 r1.2
      have r3 := ac_r (n := n) r2.1 r2.2.1
      have r4 := rg _ r3.1 r3.2
      rw [if_pos e, if_pos e, hf _ r1.1 r1.2, hg _ r3.1 r3.2, ci_c hf hg rf rg d (k + 1) _ _ r4.1 r4.2.1]
    · rw [if_neg e, if_neg e]
theorem co_c {n : Int} {f g f2 g2 : Int → Int} (hf : ∀ i, 0 ≤ i → i < 2 * n → f i = f2 i) (hg : ∀ i, 0 ≤ i → i < 2 * n → g i = g2 i) (rf : fi n f2) (rg : fi n g2) : ∀ (d : Nat) (p x : Int) (w : Int → Int), 0 ≤ p → co_ n f g d p x w = co_ n f2 g2 d p x w
  | 0, _, _, _, _ => rfl
  | d + 1, p, x, w, h0 => by
    rw [co_, co_]
    by_cases e : p < n
    · rw [if_pos e, if_pos e, ci_c hf hg rf rg 9 0 p w h0 (by omega), co_c hf hg rf rg d (p + 1) _ _ (by omega), co_c hf hg rf rg d (p + 1) _ _ (by omega)]
    · rw [if_neg e, if_neg e]
theorem jn_c {n : Int} {f g f2 g2 : Int → Int} (h1 : 1 ≤ n) (h4 : n ≤ 4) (hf : ∀ i, 0 ≤ i → i < 2 * n → f i = f2 i) (hg : ∀ i, 0 ≤ i → i < 2 * n → g i = g2 i) (rf : fi n f2) (rg : fi n g2) : jn_ n f g = jn_ n f2 g2 := by
  unfold jn_
  have e : ∀ i, 0 ≤ i → i < 2 * n → fst_ n f g i = fst_ n f2 g2 i := fun i i0 i1 => by
    unfold fst_
    exact ldr_c hf hg rf rg 5 _ i i0 i1
  have r := fi_st h4 rf rg
  rw [mj_c hf hg rf rg 9 0 _ (by omega), co_c hf hg rf rg 9 0 0 _ (by omega), nu_oc (N := 2 * n) e (fun i i0 i1 => by rw [e i i0 i1]; have := r i i0 i1; omega) 9 0 0 (2 * n - 1) (by omega)]
/-- the letter at a place; its box -/
def lt_ (n k : Int) : Int := if k < n - 1 then k + 1 else k - (n - 1) + 11
def lb_ (n k : Int) : Int := nu_o (bx_ol n.toNat (lt_ n k)) (2 * n) 9 0 0 (2 * n - 1)

theorem qz_letterAt {m s : Nat} {F : aq_F} {c : aq_C} {o n K : Nat} (hB : bx_0 m F o n K) {p : Int} (h0 : 0 ≤ p) (h1 : p < 2 * (n : Int) - 2) : am_E ac_X0_letterAt (0, [vR o, vI p], [], aq_h m s F c) (aq_P m s F c (fun r => r = some (vI (lt_ (n : Int) p)))) := by
  obtain ⟨hm, hn1, hn4, hK, hFo, hFd, hFs⟩ := hB
  refine am_E.go (t2 := (1, [vR o, vI p], [vI p], aq_h m s F c)) rfl rfl ?_
  refine am_E.go (t2 := (2, [vR o, vI p], [vR o, vI p], aq_h m s F c)) rfl rfl ?_
  refine aq_gf (v := vI (n : Int)) rfl (by omega) hFo (by decide) rfl ?_
  show am_E _ (5, [vR o, vI p], [vI (n : Int), vI p], aq_h m s F c) _
  refine am_E.go (t2 := (6, [vR o, vI p], [vI 1, vI (n : Int), vI p], aq_h m s F c)) rfl rfl ?_
  refine ae_sub rfl (am_ri (by omega) (by omega)) ?_
  show am_E _ (7, [vR o, vI p], [vI ((n : Int) - 1), vI p], aq_h m s F c) _
  refine ae_icmp rfl (fun (q_1 : ((n : Int) - 1) ≤ p) => ?_) (fun (q_1 : p < ((n : Int) - 1)) => ?_)
  · refine am_E.go (t2 := (17, [vR o, vI p], [vI p], aq_h m s F c)) rfl rfl ?_
    refine am_E.go (t2 := (18, [vR o, vI p], [vR o, vI p], aq_h m s F c)) rfl rfl ?_
    refine aq_gf (v := vI (n : Int)) rfl (by omega) hFo (by decide) rfl ?_
    show am_E _ (21, [vR o, vI p], [vI (n : Int), vI p], aq_h m s F c) _
    refine am_E.go (t2 := (22, [vR o, vI p], [vI 1, vI (n : Int), vI p], aq_h m s F c)) rfl rfl ?_
    refine ae_sub rfl (am_ri (by omega) (by omega)) ?_
    show am_E _ (23, [vR o, vI p], [vI ((n : Int) - 1), vI p], aq_h m s F c) _
    refine ae_sub rfl (am_ri (by omega) (by omega)) ?_
    show am_E _ (24, [vR o, vI p], [vI (p - ((n : Int) - 1))], aq_h m s F c) _
    refine am_E.go (t2 := (26, [vR o, vI p], [vI 11, vI (p - ((n : Int) - 1))], aq_h m s F c)) rfl rfl ?_
    refine ae_add rfl (am_ri (by omega) (by omega)) ?_
    show am_E _ (27, [vR o, vI p], [vI ((p - ((n : Int) - 1)) + 11)], aq_h m s F c) _
    refine am_E.ret rfl rfl ?_
    refine ⟨rfl, ?_⟩
    have e9 : lt_ (n : Int) p = ((p - ((n : Int) - 1)) + 11) := by unfold lt_; first | rw [if_pos (by omega)] | rw [if_neg (by omega)]
    rw [e9]
  · refine am_E.go (t2 := (11, [vR o, vI p], [vI p], aq_h m s F c)) rfl rfl ?_
    refine am_E.go (t2 := (12, [vR o, vI p], [vI 1, vI p], aq_h m s F c)) rfl rfl ?_
    refine ae_add rfl (am_ri (by omega) (by omega)) ?_
    show am_E _ (13, [vR o, vI p], [vI (p + 1)], aq_h m s F c) _
    refine am_E.go (t2 := (27, [vR o, vI p], [vI (p + 1)], aq_h m s F c)) rfl rfl ?_
    refine am_E.ret rfl rfl ?_
    refine ⟨rfl, ?_⟩
    have e9 : lt_ (n : Int) p = (p + 1) := by unfold lt_; first | rw [if_pos (by omega)] | rw [if_neg (by omega)]
    rw [e9]

theorem lt_v {n k : Int} (h0 : 0 ≤ k) (h1 : k < 2 * n - 2) : lt_ n k = 0 ∨ ((1 ≤ lt_ n k ∧ lt_ n k < n) ∨ (11 ≤ lt_ n k ∧ lt_ n k < 10 + n)) := by
  unfold lt_
  split <;> omega
theorem qz_ofLetter {m s : Nat} {F : aq_F} {c : aq_C} {o n K : Nat} (hB : bx_0 m F o n K) {l : Int} (hl : l = 0 ∨ ((1 ≤ l ∧ l < (n : Int)) ∨ (11 ≤ l ∧ l < 10 + (n : Int)))) (hr : aq_rg (o + 6 + 3 * K) (2 * (n : Int)) 0 (2 * (n : Int)) c) : am_E ac_X0_ofLetter (0, [vR o, vI l, vU], [], aq_h m s F c) (aq_Z m s F (fun a => a = o + 6 + 3 * K ∨ a = o + 7 + 3 * K) c (fun r d => aq_rg (o + 6 + 3 * K) (2 * (n : Int)) 0 (2 * (n : Int)) d ∧ r = some (vI (nu_o (bx_ol n l) (2 * (n : Int)) 9 0 0 (2 * (n : Int) - 1))))) := by
  refine (qn_X0_ofLetter (S := fun a => a = o + 6 + 3 * K ∨ a = o + 7 + 3 * K) hB (Or.inl rfl) (Or.inr rfl) hr).imp ?_
  rintro r h2 ⟨d, e1, e2, e3, e4⟩
  rcases e4 with e4 | ⟨-, e5, e6⟩
  · exact absurd hl e4.1
  · have en := nu_oc (N := 2 * (n : Int)) e5 (fun i k0 k1 => by have := e3 i k0 k1; omega) 9 0 0 (2 * (n : Int) - 1) (by omega)
    exact ⟨d, e1, e2, e3, by rw [e6, en]⟩
theorem lb_r {n k : Int} (h1 : 1 ≤ n) (h4 : n ≤ 4) (h0 : 0 ≤ k) (hk : k < 2 * n - 2) : 0 ≤ lb_ n k ∧ lb_ n k < bx_K n := by
  have e : ((n.toNat : Nat) : Int) = n := Int.toNat_of_nonneg (by omega)
  have := ol_n (n := n.toNat) (l := lt_ n k) (by omega) (by omega) (by rw [e]; exact lt_v h0 hk)
  rw [e] at this
  exact this

theorem qz_stack_i {m s : Nat} {F : aq_F} {c0 : aq_C} {S : Nat → Prop} {o n K : Nat} (hB : bx_0 m F o n K) (hSd : S (o + 6 + 3 * K)) (hSs : S (o + 7 + 3 * K)) {tP : Int → Int → Int} (hP : bx_p F o n K tP) (hNg : F (o + 5 + 2 * K) = (3, K, fun j => aq_g K j (o + 6 + 2 * K + j))) (hNr : ∀ b, b < K → F (o + 6 + 2 * K + b) = (0, 2 * n - 2, fun _ => .inl 0)) (hSn : ∀ b, b < K → S (o + 6 + 2 * K + b)) (hKn : (K : Int) = bx_K (n : Int)) (hfi : ∀ x : Int, 0 ≤ x → x < (K : Int) → fi (n : Int) (tP ((x.toNat : Nat) : Int))) {k lo : Int} (hk0 : 0 ≤ k) (hk1 : k < 2 * (n : Int) - 2) (hl0 : 0 ≤ lo) (hl1 : lo < (K : Int)) : ∀ (d : Nat) (b : Int) (c : aq_C) (hs : aq_sm S c0 c) (h0 : 0 ≤ b) (h1 : b ≤ (K : Int)) (hr : aq_rg (o + 6 + 3 * K) (2 * (n : Int)) 0 (2 * (n : Int)) c) (hcur : ∀ b2 : Int, 0 ≤ b2 → b2 < b → c (o + 6 + 2 * K + b2.toNat) k = jn_ (n : Int) (tP ((b2.toNat : Nat) : Int)) (tP ((lo.toNat : Nat) : Int))) (hold : ∀ b2 k2 : Int, 0 ≤ b2 → b2 < (K : Int) → 0 ≤ k2 → k2 < k → c (o + 6 + 2 * K + b2.toNat) k2 = jn_ (n : Int) (tP ((b2.toNat : Nat) : Int)) (tP (((lb_ (n : Int) k2).toNat : Nat) : Int))) (hd : (K : Int) - b < (d : Int)) (K0 : ∀ (b2 : Int) (c2 : aq_C) (hs2 : aq_sm S c0 c2) (hr2 : aq_rg (o + 6 + 3 * K) (2 * (n : Int)) 0 (2 * (n : Int)) c2) (hcur2 : ∀ b2 : Int, 0 ≤ b2 → b2 < (K : Int) → c2 (o + 6 + 2 * K + b2.toNat) k = jn_ (n : Int) (tP ((b2.toNat : Nat) : Int)) (tP ((lo.toNat : Nat) : Int))) (hold2 : ∀ b2 k2 : Int, 0 ≤ b2 → b2 < (K : Int) → 0 ≤ k2 → k2 < k → c2 (o + 6 + 2 * K + b2.toNat) k2 = jn_ (n : Int) (tP ((b2.toNat : Nat) : Int)) (tP (((lb_ (n : Int) k2).toNat : Nat) : Int))), am_E ac_X0_stackLetters (60, [vR o, vI k, vI lo, vI b2], [], aq_h m s F c2) (aq_Z m s F S c0 (fun r d => r = none ∧ aq_rg (o + 6 + 3 * K) (2 * (n : Int)) 0 (2 * (n : Int)) d ∧ ∀ b k : Int, 0 ≤ b → b < (K : Int) → 0 ≤ k → k < 2 * (n : Int) - 2 → d (o + 6 + 2 * K + b.toNat) k = jn_ (n : Int) (tP ((b.toNat : Nat) : Int)) (tP (((lb_ (n : Int) k).toNat : Nat) : Int))))), am_E ac_X0_stackLetters (22, [vR o, vI k, vI lo, vI b], [], aq_h m s F c) (aq_Z m s F S c0 (fun r d => r = none ∧ aq_rg (o + 6 + 3 * K) (2 * (n : Int)) 0 (2 * (n : Int)) d ∧ ∀ b k : Int, 0 ≤ b → b < (K : Int) → 0 ≤ k → k < 2 * (n : Int) - 2 → d (o + 6 + 2 * K + b.toNat) k = jn_ (n : Int) (tP ((b.toNat : Nat) : Int)) (tP (((lb_ (n : Int) k).toNat : Nat) : Int))))
  | 0, b, c, hs, h0, h1, hr, hcur, hold, hd, K0 => by exfalso; omega
  | d + 1, b, c, hs, h0, h1, hr, hcur, hold, hd, K0 => by
    obtain ⟨hm, hn1, hn4, hK, hFo, hFd, hFs⟩ := hB
    obtain ⟨hPg, hPr, hPt⟩ := hP
    refine am_E.go (t2 := (23, [vR o, vI k, vI lo, vI b], [vI b], aq_h m s F c)) rfl rfl ?_
    refine am_E.go (t2 := (24, [vR o, vI k, vI lo, vI b], [vR o, vI b], aq_h m s F c)) rfl rfl ?_
    refine aq_gf (v := vI (K : Int)) rfl (by omega) hFo (by decide) rfl ?_
    show am_E _ (27, [vR o, vI k, vI lo, vI b], [vI (K : Int), vI b], aq_h m s F c) _
    refine ae_icmp rfl (fun (q_1 : (K : Int) ≤ b) => ?_) (fun (q_1 : b < (K : Int)) => ?_)
    · exact K0 b c hs hr (fun b2 k0 k1 => hcur b2 k0 (by omega)) hold
    · refine am_E.go (t2 := (31, [vR o, vI k, vI lo, vI b], [vR o], aq_h m s F c)) rfl rfl ?_
      refine aq_gf (v := vR (o + 5 + 2 * K)) rfl (by omega) hFo (by decide) rfl ?_
      show am_E _ (34, [vR o, vI k, vI lo, vI b], [vR (o + 5 + 2 * K)], aq_h m s F c) _
      refine am_E.go (t2 := (35, [vR o, vI k, vI lo, vI b], [vI b, vR (o + 5 + 2 * K)], aq_h m s F c)) rfl rfl ?_
      refine aq_al (ok := fun k => decide (3 ≤ k) && decide (k < 7)) (v := vR (o + 6 + 2 * K + b.toNat)) rfl rfl (by omega) hNg rfl (by omega) (by omega) (aq_gi (by omega)) ?_
      show am_E _ (36, [vR o, vI k, vI lo, vI b], [vR (o + 6 + 2 * K + b.toNat)], aq_h m s F c) _
      refine am_E.go (t2 := (37, [vR o, vI k, vI lo, vI b], [vI k, vR (o + 6 + 2 * K + b.toNat)], aq_h m s F c)) rfl rfl ?_
      refine am_E.go (t2 := (38, [vR o, vI k, vI lo, vI b], [vR o, vI k, vR (o + 6 + 2 * K + b.toNat)], aq_h m s F c)) rfl rfl ?_
      refine am_E.go (t2 := (39, [vR o, vI k, vI lo, vI b], [vR o, vR o, vI k, vR (o + 6 + 2 * K + b.toNat)], aq_h m s F c)) rfl rfl ?_
      refine aq_gf (v := vR (o + 1)) rfl (by omega) hFo (by decide) rfl ?_
      show am_E _ (42, [vR o, vI k, vI lo, vI b], [vR (o + 1), vR o, vI k, vR (o + 6 + 2 * K + b.toNat)], aq_h m s F c) _
      refine am_E.go (t2 := (43, [vR o, vI k, vI lo, vI b], [vI b, vR (o + 1), vR o, vI k, vR (o + 6 + 2 * K + b.toNat)], aq_h m s F c)) rfl rfl ?_
      refine aq_al (ok := fun k => decide (3 ≤ k) && decide (k < 7)) (v := vR (o + 2 + b.toNat)) rfl rfl (by omega) hPg rfl (by omega) (by omega) (aq_gi (by omega)) ?_
      show am_E _ (44, [vR o, vI k, vI lo, vI b], [vR (o + 2 + b.toNat), vR o, vI k, vR (o + 6 + 2 * K + b.toNat)], aq_h m s F c) _
      refine am_E.go (t2 := (45, [vR o, vI k, vI lo, vI b], [vR o, vR (o + 2 + b.toNat), vR o, vI k, vR (o + 6 + 2 * K + b.toNat)], aq_h m s F c)) rfl rfl ?_
      refine aq_gf (v := vR (o + 1)) rfl (by omega) hFo (by decide) rfl ?_
      show am_E _ (48, [vR o, vI k, vI lo, vI b], [vR (o + 1), vR (o + 2 + b.toNat), vR o, vI k, vR (o + 6 + 2 * K + b.toNat)], aq_h m s F c) _
      refine am_E.go (t2 := (49, [vR o, vI k, vI lo, vI b], [vI lo, vR (o + 1), vR (o + 2 + b.toNat), vR o, vI k, vR (o + 6 + 2 * K + b.toNat)], aq_h m s F c)) rfl rfl ?_
      refine aq_al (ok := fun k => decide (3 ≤ k) && decide (k < 7)) (v := vR (o + 2 + lo.toNat)) rfl rfl (by omega) hPg rfl (by omega) (by omega) (aq_gi (by omega)) ?_
      show am_E _ (50, [vR o, vI k, vI lo, vI b], [vR (o + 2 + lo.toNat), vR (o + 2 + b.toNat), vR o, vI k, vR (o + 6 + 2 * K + b.toNat)], aq_h m s F c) _
      refine aq_callv (y := 3) (as2 := [vR (o + 2 + b.toNat), vR (o + 2 + lo.toNat)]) (rest := [vI k, vR (o + 6 + 2 * K + b.toNat)]) rfl rfl (by decide) (Nat.le_of_ble_eq_true rfl) rfl rfl (Nat.le_of_ble_eq_true rfl) (by omega) hFo rfl (Nat.le_of_ble_eq_true rfl) (qz_join (S := (fun a => a = o + 6 + 3 * K ∨ a = o + 7 + 3 * K)) ⟨hm, hn1, hn4, hK, hFo, hFd, hFs⟩ (Or.inl rfl) (Or.inr rfl) ⟨hPg, hPr, hPt⟩ (x := b) (y := lo) (by omega) (by omega) (by omega) (by omega) (hfi b (by omega) (by omega)) (hfi lo (by omega) (by omega)) hKn hr) ?_
      rintro r5 h5 ⟨c_2, rfl, sc_2, hrc_2, rfl⟩
      show am_E _ (53, [vR o, vI k, vI lo, vI b], [vI (jn_ (n : Int) (tP ((b.toNat : Nat) : Int)) (tP ((lo.toNat : Nat) : Int))), vI k, vR (o + 6 + 2 * K + b.toNat)], aq_h m s F c_2) _
      refine aq_as (kd := 0) rfl rfl (by omega) (hNr _ (by omega)) (by omega) (by omega) rfl rfl ?_
      show am_E _ (54, [vR o, vI k, vI lo, vI b], [], aq_h m s F (aq_u c_2 (o + 6 + 2 * K + b.toNat) k (jn_ (n : Int) (tP ((b.toNat : Nat) : Int)) (tP ((lo.toNat : Nat) : Int))))) _
      generalize hdc_3 : aq_u c_2 (o + 6 + 2 * K + b.toNat) k (jn_ (n : Int) (tP ((b.toNat : Nat) : Int)) (tP ((lo.toNat : Nat) : Int))) = c_3
      have sc_3 := aq_smu (aq_smt hs (aq_smi sc_2 (fun a h => by rcases h with h | h <;> (rw [h]; assumption)))) hdc_3 (hSn _ (by omega))
      have hdrc_3 := aq_rgn hrc_2 hdc_3 (by omega)
      refine ae_iinc rfl rfl (am_ri (by omega) (by omega)) ?_
      show am_E _ (57, [vR o, vI k, vI lo, vI (b + 1)], [], aq_h m s F c_3) _
      refine am_E.go (t2 := (22, [vR o, vI k, vI lo, vI (b + 1)], [], aq_h m s F c_3)) rfl rfl ?_
      exact qz_stack_i ⟨hm, hn1, hn4, hK, hFo, hFd, hFs⟩ hSd hSs ⟨hPg, hPr, hPt⟩ hNg hNr hSn hKn hfi hk0 hk1 hl0 hl1 d (b + 1) c_3 sc_3 (by omega) (by omega) hdrc_3 (fun b2 k0 k1 => by rw [← hdc_3]; by_cases e : b2 = b; (rw [e, aq_us]); (rw [aq_un (Or.inl (by omega)), sc_2 _ (by omega)]; exact hcur b2 k0 (by omega))) (fun b2 k2 g0 g1 g2 g3 => by rw [← hdc_3, aq_un (Or.inr (by omega)), sc_2 _ (by omega)]; exact hold b2 k2 g0 g1 g2 g3) (by omega) K0

theorem qz_stack_o {m s : Nat} {F : aq_F} {c0 : aq_C} {S : Nat → Prop} {o n K : Nat} (hB : bx_0 m F o n K) (hSd : S (o + 6 + 3 * K)) (hSs : S (o + 7 + 3 * K)) {tP : Int → Int → Int} (hP : bx_p F o n K tP) (hNg : F (o + 5 + 2 * K) = (3, K, fun j => aq_g K j (o + 6 + 2 * K + j))) (hNr : ∀ b, b < K → F (o + 6 + 2 * K + b) = (0, 2 * n - 2, fun _ => .inl 0)) (hSn : ∀ b, b < K → S (o + 6 + 2 * K + b)) (hKn : (K : Int) = bx_K (n : Int)) (hfi : ∀ x : Int, 0 ≤ x → x < (K : Int) → fi (n : Int) (tP ((x.toNat : Nat) : Int))) : ∀ (d : Nat) (k : Int) (v2 : am_V) (v3 : am_V) (c : aq_C) (hs : aq_sm S c0 c) (h0 : 0 ≤ k) (h1 : k ≤ 2 * (n : Int) - 2) (hr : aq_rg (o + 6 + 3 * K) (2 * (n : Int)) 0 (2 * (n : Int)) c) (hall : ∀ b2 k2 : Int, 0 ≤ b2 → b2 < (K : Int) → 0 ≤ k2 → k2 < k → c (o + 6 + 2 * K + b2.toNat) k2 = jn_ (n : Int) (tP ((b2.toNat : Nat) : Int)) (tP (((lb_ (n : Int) k2).toNat : Nat) : Int))) (hd : 2 * (n : Int) - 2 - k < (d : Int)), am_E ac_X0_stackLetters (2, [vR o, vI k, v2, v3], [], aq_h m s F c) (aq_Z m s F S c0 (fun r d => r = none ∧ aq_rg (o + 6 + 3 * K) (2 * (n : Int)) 0 (2 * (n : Int)) d ∧ ∀ b k : Int, 0 ≤ b → b < (K : Int) → 0 ≤ k → k < 2 * (n : Int) - 2 → d (o + 6 + 2 * K + b.toNat) k = jn_ (n : Int) (tP ((b.toNat : Nat) : Int)) (tP (((lb_ (n : Int) k).toNat : Nat) : Int))))
  | 0, k, v2, v3, c, hs, h0, h1, hr, hall, hd => by exfalso; omega
  | d + 1, k, v2, v3, c, hs, h0, h1, hr, hall, hd => by
    obtain ⟨hm, hn1, hn4, hK, hFo, hFd, hFs⟩ := hB
    obtain ⟨hPg, hPr, hPt⟩ := hP
    refine am_E.go (t2 := (3, [vR o, vI k, v2, v3], [vI k], aq_h m s F c)) rfl rfl ?_
    refine am_E.go (t2 := (4, [vR o, vI k, v2, v3], [vR o, vI k], aq_h m s F c)) rfl rfl ?_
    refine aq_gf (v := vI (2 * (n : Int) - 2)) rfl (by omega) hFo (by decide) rfl ?_
    show am_E _ (7, [vR o, vI k, v2, v3], [vI (2 * (n : Int) - 2), vI k], aq_h m s F c) _
    refine ae_icmp rfl (fun (q_1 : (2 * (n : Int) - 2) ≤ k) => ?_) (fun (q_1 : k < (2 * (n : Int) - 2)) => ?_)
    · refine am_E.ret rfl rfl ?_
      exact ⟨_, rfl, hs, rfl, hr, fun b2 k2 g0 g1 g2 g3 => hall b2 k2 g0 g1 g2 (by omega)⟩
    · refine am_E.go (t2 := (11, [vR o, vI k, v2, v3], [vR o], aq_h m s F c)) rfl rfl ?_
      refine am_E.go (t2 := (12, [vR o, vI k, v2, v3], [vR o, vR o], aq_h m s F c)) rfl rfl ?_
      refine am_E.go (t2 := (13, [vR o, vI k, v2, v3], [vI k, vR o, vR o], aq_h m s F c)) rfl rfl ?_
      refine aq_callv (y := 2) (as2 := [vI k]) (rest := [vR o]) rfl rfl (by decide) (Nat.le_of_ble_eq_true rfl) rfl rfl (Nat.le_of_ble_eq_true rfl) (by omega) hFo rfl (Nat.le_of_ble_eq_true rfl) (qz_letterAt ⟨hm, hn1, hn4, hK, hFo, hFd, hFs⟩ (by omega) (by omega)) ?_
      rintro r5 h5 ⟨rfl, rfl⟩
      show am_E _ (16, [vR o, vI k, v2, v3], [vI (lt_ (n : Int) k), vR o], aq_h m s F c) _
      have hlt := lt_v (n := (n : Int)) (k := k) (by omega) (by omega)
      refine aq_callv (y := 2) (as2 := [vI (lt_ (n : Int) k)]) (rest := []) rfl rfl (by decide) (Nat.le_of_ble_eq_true rfl) rfl rfl (Nat.le_of_ble_eq_true rfl) (by omega) hFo rfl (Nat.le_of_ble_eq_true rfl) (qz_ofLetter ⟨hm, hn1, hn4, hK, hFo, hFd, hFs⟩ hlt hr) ?_
      rintro r5 h5 ⟨c_2, rfl, sc_2, hrc_2, rfl⟩
      show am_E _ (19, [vR o, vI k, v2, v3], [vI (lb_ (n : Int) k)], aq_h m s F c_2) _
      have hlb := lb_r (n := (n : Int)) (k := k) (by omega) (by omega) (by omega) (by omega)
      refine am_E.go (t2 := (20, [vR o, vI k, vI (lb_ (n : Int) k), v3], [], aq_h m s F c_2)) rfl rfl ?_
      refine am_E.go (t2 := (21, [vR o, vI k, vI (lb_ (n : Int) k), v3], [vI 0], aq_h m s F c_2)) rfl rfl ?_
      refine am_E.go (t2 := (22, [vR o, vI k, vI (lb_ (n : Int) k), vI 0], [], aq_h m s F c_2)) rfl rfl ?_
      refine qz_stack_i ⟨hm, hn1, hn4, hK, hFo, hFd, hFs⟩ hSd hSs ⟨hPg, hPr, hPt⟩ hNg hNr hSn hKn hfi (by omega) (by omega) (by omega) (by omega) 106 0 c_2 (aq_smt hs (aq_smi sc_2 (fun a h => by rcases h with h | h <;> (rw [h]; assumption)))) (by omega) (by omega) hrc_2 (fun b2 k0 k1 => absurd k1 (by omega)) (fun b2 k2 g0 g1 g2 g3 => by rw [sc_2 _ (by omega)]; exact hall b2 k2 g0 g1 g2 g3) (by omega) ?_
      · intro b2_22 c_3 sc_3 hr2_22 hcur2_22 hold2_22
        refine ae_iinc rfl rfl (am_ri (by omega) (by omega)) ?_
        show am_E _ (63, [vR o, vI (k + 1), vI (lb_ (n : Int) k), vI b2_22], [], aq_h m s F c_3) _
        refine am_E.go (t2 := (2, [vR o, vI (k + 1), vI (lb_ (n : Int) k), vI b2_22], [], aq_h m s F c_3)) rfl rfl ?_
        exact qz_stack_o ⟨hm, hn1, hn4, hK, hFo, hFd, hFs⟩ hSd hSs ⟨hPg, hPr, hPt⟩ hNg hNr hSn hKn hfi d (k + 1) (vI (lb_ (n : Int) k)) (vI b2_22) c_3 sc_3 (by omega) (by omega) hr2_22 (fun b2 k2 g0 g1 g2 g3 => by by_cases e : k2 = k; (rw [e]; exact hcur2_22 b2 g0 g1); exact hold2_22 b2 k2 g0 g1 g2 (by omega)) (by omega)

theorem qz_stackLetters {m s : Nat} {F : aq_F} {c : aq_C} {S : Nat → Prop} {o n K : Nat} (hB : bx_0 m F o n K) (hSd : S (o + 6 + 3 * K)) (hSs : S (o + 7 + 3 * K)) {tP : Int → Int → Int} (hP : bx_p F o n K tP) (hNg : F (o + 5 + 2 * K) = (3, K, fun j => aq_g K j (o + 6 + 2 * K + j))) (hNr : ∀ b, b < K → F (o + 6 + 2 * K + b) = (0, 2 * n - 2, fun _ => .inl 0)) (hSn : ∀ b, b < K → S (o + 6 + 2 * K + b)) (hKn : (K : Int) = bx_K (n : Int)) (hfi : ∀ x : Int, 0 ≤ x → x < (K : Int) → fi (n : Int) (tP ((x.toNat : Nat) : Int))) (hr : aq_rg (o + 6 + 3 * K) (2 * (n : Int)) 0 (2 * (n : Int)) c) : am_E ac_X0_stackLetters (0, [vR o, vU, vU, vU], [], aq_h m s F c) (aq_Z m s F S c (fun r d => r = none ∧ aq_rg (o + 6 + 3 * K) (2 * (n : Int)) 0 (2 * (n : Int)) d ∧ ∀ b k : Int, 0 ≤ b → b < (K : Int) → 0 ≤ k → k < 2 * (n : Int) - 2 → d (o + 6 + 2 * K + b.toNat) k = jn_ (n : Int) (tP ((b.toNat : Nat) : Int)) (tP (((lb_ (n : Int) k).toNat : Nat) : Int)))) := by
  obtain ⟨hm, hn1, hn4, hK, hFo, hFd, hFs⟩ := hB
  obtain ⟨hPg, hPr, hPt⟩ := hP
  refine am_E.go (t2 := (1, [vR o, vU, vU, vU], [vI 0], aq_h m s F c)) rfl rfl ?_
  refine am_E.go (t2 := (2, [vR o, vI 0, vU, vU], [], aq_h m s F c)) rfl rfl ?_
  exact qz_stack_o ⟨hm, hn1, hn4, hK, hFo, hFd, hFs⟩ hSd hSs ⟨hPg, hPr, hPt⟩ hNg hNr hSn hKn hfi 9 0 (vU) (vU) c aq_sm0 (by omega) (by omega) hr (fun b2 k2 g0 g1 g2 g3 => absurd g3 (by omega)) (by omega)
theorem bn_2 : ∀ b : Nat, b < 3 → ∀ k : Nat, k < 2 → jn_ 2 (prt 2 b) (prt 2 (lb_ 2 k)) = bn_ 2 b k := by decide +kernel
theorem bn_3 : ∀ b : Nat, b < 15 → ∀ k : Nat, k < 4 → jn_ 3 (prt 3 b) (prt 3 (lb_ 3 k)) = bn_ 3 b k := by decide +kernel
theorem bn_4 : ∀ b : Nat, b < 105 → ∀ k : Nat, k < 6 → jn_ 4 (prt 4 b) (prt 4 (lb_ 4 k)) = bn_ 4 b k := by decide +kernel
