/-! Boxes: freeBehind, stackLetters' inner part. Printed by wip/p20/sx/gBC4.py. -/

/-- freeBehind: the free point behind p, with l free ones passed over -/
def fb_ (N : Int) (w : Int → Int) : Nat → Int → Int → Int
  | 0, _, q => q
  | d + 1, l, q => if q < N - 1 ∧ (w q ≠ 0 ∨ 0 < l) then fb_ N w d (l - if w q = 0 then 1 else 0) (q + 1) else q
theorem fb_r {N : Int} {w : Int → Int} : ∀ (d : Nat) (l q : Int), q ≤ N - 1 → q ≤ fb_ N w d l q ∧ fb_ N w d l q ≤ N - 1
  | 0, l, q, h => ⟨Int.le_refl q, h⟩
  | d + 1, l, q, h => by
    rw [fb_]
    split
    · rename_i e
      have := fb_r (N := N) (w := w) d (l - if w q = 0 then 1 else 0) (q + 1) (by omega)
      omega
    · exact ⟨Int.le_refl q, h⟩

theorem qb_free_l {m s : Nat} {F : aq_F} {c : aq_C} {o n K : Nat} (hB : bx_0 m F o n K) {p l0 T : Int} : ∀ (d : Nat) (l : Int) (q : Int) (h0 : 0 ≤ q) (h1 : q ≤ 2 * (n : Int) - 1) (h2 : l ≤ 100) (h3 : -100 ≤ l + q) (ht : fb_ (2 * (n : Int)) (c (o + 7 + 3 * K)) d l q = T) (hd : 2 * (n : Int) - 1 - q < (d : Int)), am_E ac_X0_freeBehind (7, [vR o, vI p, vI l0, vI l, vI q], [], aq_h m s F c) (aq_P m s F c (fun r => r = some (vI T)))
  | 0, l, q, h0, h1, h2, h3, ht, hd => by exfalso; omega
  | d + 1, l, q, h0, h1, h2, h3, ht, hd => by
    obtain ⟨hm, hn1, hn4, hK, hFo, hFd, hFs⟩ := hB
    refine am_E.go (t2 := (9, [vR o, vI p, vI l0, vI l, vI q], [vI q], aq_h m s F c)) rfl rfl ?_
    refine am_E.go (t2 := (10, [vR o, vI p, vI l0, vI l, vI q], [vR o, vI q], aq_h m s F c)) rfl rfl ?_
    refine aq_gf (v := vI (2 * (n : Int))) rfl (by omega) hFo (by decide) rfl ?_
    show am_E _ (13, [vR o, vI p, vI l0, vI l, vI q], [vI (2 * (n : Int)), vI q], aq_h m s F c) _
    refine am_E.go (t2 := (14, [vR o, vI p, vI l0, vI l, vI q], [vI 1, vI (2 * (n : Int)), vI q], aq_h m s F c)) rfl rfl ?_
    refine ae_sub rfl (am_ri (by omega) (by omega)) ?_
    show am_E _ (15, [vR o, vI p, vI l0, vI l, vI q], [vI ((2 * (n : Int)) - 1), vI q], aq_h m s F c) _
    refine ae_icmp rfl (fun (q_1 : ((2 * (n : Int)) - 1) ≤ q) => ?_) (fun (q_1 : q < ((2 * (n : Int)) - 1)) => ?_)
    · refine am_E.go (t2 := (58, [vR o, vI p, vI l0, vI l, vI q], [vI q], aq_h m s F c)) rfl rfl ?_
      refine am_E.ret rfl rfl ?_
      refine ⟨rfl, ?_⟩
      rw [← ht, fb_, if_neg (by omega)]
    · refine am_E.go (t2 := (19, [vR o, vI p, vI l0, vI l, vI q], [vR o], aq_h m s F c)) rfl rfl ?_
      refine aq_gf (v := vR (o + 7 + 3 * K)) rfl (by omega) hFo (by decide) rfl ?_
      show am_E _ (22, [vR o, vI p, vI l0, vI l, vI q], [vR (o + 7 + 3 * K)], aq_h m s F c) _
      refine am_E.go (t2 := (24, [vR o, vI p, vI l0, vI l, vI q], [vI q, vR (o + 7 + 3 * K)], aq_h m s F c)) rfl rfl ?_
      refine aq_al (ok := fun k => k == 1) (v := vI (c (o + 7 + 3 * K) q)) rfl rfl (by omega) hFs rfl (by omega) (by omega) rfl ?_
      show am_E _ (25, [vR o, vI p, vI l0, vI l, vI q], [vI (c (o + 7 + 3 * K) q)], aq_h m s F c) _
      refine ae_if0 rfl (fun (q_2 : (c (o + 7 + 3 * K) q) ≠ 0) => ?_) (fun (q_2 : (c (o + 7 + 3 * K) q) = 0) => ?_)
      · refine am_E.go (t2 := (33, [vR o, vI p, vI l0, vI l, vI q], [vI l], aq_h m s F c)) rfl rfl ?_
        refine am_E.go (t2 := (34, [vR o, vI p, vI l0, vI l, vI q], [vR o, vI l], aq_h m s F c)) rfl rfl ?_
        refine aq_gf (v := vR (o + 7 + 3 * K)) rfl (by omega) hFo (by decide) rfl ?_
        show am_E _ (37, [vR o, vI p, vI l0, vI l, vI q], [vR (o + 7 + 3 * K), vI l], aq_h m s F c) _
        refine am_E.go (t2 := (39, [vR o, vI p, vI l0, vI l, vI q], [vI q, vR (o + 7 + 3 * K), vI l], aq_h m s F c)) rfl rfl ?_
        refine aq_al (ok := fun k => k == 1) (v := vI (c (o + 7 + 3 * K) q)) rfl rfl (by omega) hFs rfl (by omega) (by omega) rfl ?_
        show am_E _ (40, [vR o, vI p, vI l0, vI l, vI q], [vI (c (o + 7 + 3 * K) q), vI l], aq_h m s F c) _
        refine ae_if0 rfl (fun (q_3 : (c (o + 7 + 3 * K) q) = 0) => ?_) (fun (q_3 : (c (o + 7 + 3 * K) q) ≠ 0) => ?_)
        · refine am_E.go (t2 := (48, [vR o, vI p, vI l0, vI l, vI q], [vI 1, vI l], aq_h m s F c)) rfl rfl ?_
          refine ae_sub rfl (am_ri (by omega) (by omega)) ?_
          show am_E _ (49, [vR o, vI p, vI l0, vI l, vI q], [vI (l - 1)], aq_h m s F c) _
          refine am_E.go (t2 := (50, [vR o, vI p, vI l0, vI (l - 1), vI q], [], aq_h m s F c)) rfl rfl ?_
          refine ae_iinc rfl rfl (am_ri (by omega) (by omega)) ?_
          show am_E _ (53, [vR o, vI p, vI l0, vI (l - 1), vI (q + 1)], [], aq_h m s F c) _
          refine am_E.go (t2 := (7, [vR o, vI p, vI l0, vI (l - 1), vI (q + 1)], [], aq_h m s F c)) rfl rfl ?_
          exact qb_free_l ⟨hm, hn1, hn4, hK, hFo, hFd, hFs⟩ d (l - 1) (q + 1) (by omega) (by omega) (by omega) (by omega) (by first | (exfalso; omega) | (rw [← ht, fb_, if_pos (by omega)]; first | rw [if_pos (by omega)] | rw [if_neg (by omega)])) (by omega)
        · refine am_E.go (t2 := (44, [vR o, vI p, vI l0, vI l, vI q], [vI 0, vI l], aq_h m s F c)) rfl rfl ?_
          refine am_E.go (t2 := (48, [vR o, vI p, vI l0, vI l, vI q], [vI 0, vI l], aq_h m s F c)) rfl rfl ?_
          refine ae_sub rfl (am_ri (by omega) (by omega)) ?_
          show am_E _ (49, [vR o, vI p, vI l0, vI l, vI q], [vI (l - 0)], aq_h m s F c) _
          refine am_E.go (t2 := (50, [vR o, vI p, vI l0, vI (l - 0), vI q], [], aq_h m s F c)) rfl rfl ?_
          refine ae_iinc rfl rfl (am_ri (by omega) (by omega)) ?_
          show am_E _ (53, [vR o, vI p, vI l0, vI (l - 0), vI (q + 1)], [], aq_h m s F c) _
          refine am_E.go (t2 := (7, [vR o, vI p, vI l0, vI (l - 0), vI (q + 1)], [], aq_h m s F c)) rfl rfl ?_
          exact qb_free_l ⟨hm, hn1, hn4, hK, hFo, hFd, hFs⟩ d (l - 0) (q + 1) (by omega) (by omega) (by omega) (by omega) (by first | (exfalso; omega) | (rw [← ht, fb_, if_pos (by omega)]; first | rw [if_pos (by omega)] | rw [if_neg (by omega)])) (by omega)
      · refine am_E.go (t2 := (29, [vR o, vI p, vI l0, vI l, vI q], [vI l], aq_h m s F c)) rfl rfl ?_
        refine ae_if0 rfl (fun (q_4 : l ≤ 0) => ?_) (fun (q_4 : 0 < l) => ?_)
        · refine am_E.go (t2 := (58, [vR o, vI p, vI l0, vI l, vI q], [vI q], aq_h m s F c)) rfl rfl ?_
          refine am_E.ret rfl rfl ?_
          refine ⟨rfl, ?_⟩
          rw [← ht, fb_, if_neg (by omega)]
        · refine am_E.go (t2 := (33, [vR o, vI p, vI l0, vI l, vI q], [vI l], aq_h m s F c)) rfl rfl ?_
          refine am_E.go (t2 := (34, [vR o, vI p, vI l0, vI l, vI q], [vR o, vI l], aq_h m s F c)) rfl rfl ?_
          refine aq_gf (v := vR (o + 7 + 3 * K)) rfl (by omega) hFo (by decide) rfl ?_
          show am_E _ (37, [vR o, vI p, vI l0, vI l, vI q], [vR (o + 7 + 3 * K), vI l], aq_h m s F c) _
          refine am_E.go (t2 := (39, [vR o, vI p, vI l0, vI l, vI q], [vI q, vR (o + 7 + 3 * K), vI l], aq_h m s F c)) rfl rfl ?_
          refine aq_al (ok := fun k => k == 1) (v := vI (c (o + 7 + 3 * K) q)) rfl rfl (by omega) hFs rfl (by omega) (by omega) rfl ?_
          show am_E _ (40, [vR o, vI p, vI l0, vI l, vI q], [vI (c (o + 7 + 3 * K) q), vI l], aq_h m s F c) _
          refine ae_if0 rfl (fun (q_5 : (c (o + 7 + 3 * K) q) = 0) => ?_) (fun (q_5 : (c (o + 7 + 3 * K) q) ≠ 0) => ?_)
          · refine am_E.go (t2 := (48, [vR o, vI p, vI l0, vI l, vI q], [vI 1, vI l], aq_h m s F c)) rfl rfl ?_
            refine ae_sub rfl (am_ri (by omega) (by omega)) ?_
            show am_E _ (49, [vR o, vI p, vI l0, vI l, vI q], [vI (l - 1)], aq_h m s F c) _
            refine am_E.go (t2 := (50, [vR o, vI p, vI l0, vI (l - 1), vI q], [], aq_h m s F c)) rfl rfl ?_
            refine ae_iinc rfl rfl (am_ri (by omega) (by omega)) ?_
            show am_E _ (53, [vR o, vI p, vI l0, vI (l - 1), vI (q + 1)], [], aq_h m s F c) _
            refine am_E.go (t2 := (7, [vR o, vI p, vI l0, vI (l - 1), vI (q + 1)], [], aq_h m s F c)) rfl rfl ?_
            exact qb_free_l ⟨hm, hn1, hn4, hK, hFo, hFd, hFs⟩ d (l - 1) (q + 1) (by omega) (by omega) (by omega) (by omega) (by first | (exfalso; omega) | (rw [← ht, fb_, if_pos (by omega)]; first | rw [if_pos (by omega)] | rw [if_neg (by omega)])) (by omega)
          · refine am_E.go (t2 := (44, [vR o, vI p, vI l0, vI l, vI q], [vI 0, vI l], aq_h m s F c)) rfl rfl ?_
            refine am_E.go (t2 := (48, [vR o, vI p, vI l0, vI l, vI q], [vI 0, vI l], aq_h m s F c)) rfl rfl ?_
            refine ae_sub rfl (am_ri (by omega) (by omega)) ?_
            show am_E _ (49, [vR o, vI p, vI l0, vI l, vI q], [vI (l - 0)], aq_h m s F c) _
            refine am_E.go (t2 := (50, [vR o, vI p, vI l0, vI (l - 0), vI q], [], aq_h m s F c)) rfl rfl ?_
            refine ae_iinc rfl rfl (am_ri (by omega) (by omega)) ?_
            show am_E _ (53, [vR o, vI p, vI l0, vI (l - 0), vI (q + 1)], [], aq_h m s F c) _
            refine am_E.go (t2 := (7, [vR o, vI p, vI l0, vI (l - 0), vI (q + 1)], [], aq_h m s F c)) rfl rfl ?_
            exact qb_free_l ⟨hm, hn1, hn4, hK, hFo, hFd, hFs⟩ d (l - 0) (q + 1) (by omega) (by omega) (by omega) (by omega) (by first | (exfalso; omega) | (rw [← ht, fb_, if_pos (by omega)]; first | rw [if_pos (by omega)] | rw [if_neg (by omega)])) (by omega)

theorem qb_freeBehind {m s : Nat} {F : aq_F} {c : aq_C} {o n K : Nat} (hB : bx_0 m F o n K) {p l : Int} (h0 : 0 ≤ p) (h1 : p < 2 * (n : Int) - 1) (h2 : 0 ≤ l) (h3 : l ≤ 100) : am_E ac_X0_freeBehind (0, [vR o, vI p, vI l, vU, vU], [], aq_h m s F c) (aq_P m s F c (fun r => r = some (vI (fb_ (2 * (n : Int)) (c (o + 7 + 3 * K)) 9 l (p + 1))))) := by
  obtain ⟨hm, hn1, hn4, hK, hFo, hFd, hFs⟩ := hB
  refine am_E.go (t2 := (1, [vR o, vI p, vI l, vU, vU], [vI l], aq_h m s F c)) rfl rfl ?_
  refine am_E.go (t2 := (2, [vR o, vI p, vI l, vI l, vU], [], aq_h m s F c)) rfl rfl ?_
  refine am_E.go (t2 := (3, [vR o, vI p, vI l, vI l, vU], [vI p], aq_h m s F c)) rfl rfl ?_
  refine am_E.go (t2 := (4, [vR o, vI p, vI l, vI l, vU], [vI 1, vI p], aq_h m s F c)) rfl rfl ?_
  refine ae_add rfl (am_ri (by omega) (by omega)) ?_
  show am_E _ (5, [vR o, vI p, vI l, vI l, vU], [vI (p + 1)], aq_h m s F c) _
  refine am_E.go (t2 := (7, [vR o, vI p, vI l, vI l, vI (p + 1)], [], aq_h m s F c)) rfl rfl ?_
  exact qb_free_l ⟨hm, hn1, hn4, hK, hFo, hFd, hFs⟩ 9 l (p + 1) (by omega) (by omega) (by omega) (by omega) rfl (by omega)
