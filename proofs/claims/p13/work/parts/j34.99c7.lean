/-! The class: the answers of many. Printed by wip/p20/sx/gEP.py. -/

/-- the place going round; between two places; a box is plane -/
def rd_ (n x : Int) : Int := if x < n then x else 3 * n - 1 - x
def bt_ (n a z x : Int) : Int := if a < rd_ n x ∧ rd_ n x < z then 1 else 0
def pi_ (n : Int) (f : Int → Int) (p : Int) : Nat → Int → Int
  | 0, _ => 1
  | d + 1, r => if r < 2 * n then (if bt_ n (rd_ n p) (rd_ n (f p)) r ≠ 0 ∧ bt_ n (rd_ n p) (rd_ n (f p)) (f r) = 0 then 0 else pi_ n f p d (r + 1)) else 1
def po_ (n : Int) (f : Int → Int) : Nat → Int → Int
  | 0, _ => 1
  | d + 1, p => if p < 2 * n then (if pi_ n f p 9 0 = 0 then 0 else po_ n f d (p + 1)) else 1
/-- how many of the boxes from b on are plane -/
def pc_ (K : Int) (g : Int → Int) : Nat → Int → Int → Int
  | 0, _, x => x
  | d + 1, b, x => if b < K then pc_ K g d (b + 1) (x + g b) else x
theorem bt_b (n a z x : Int) : bt_ n a z x = 0 ∨ bt_ n a z x = 1 := by
  unfold bt_
  split
  · exact Or.inr rfl
  · exact Or.inl rfl
theorem pi_b {n : Int} {f : Int → Int} {p : Int} : ∀ (d : Nat) (r : Int), pi_ n f p d r = 0 ∨ pi_ n f p d r = 1
  | 0, _ => Or.inr rfl
  | d + 1, r => by
    rw [pi_]
    split
    · split
      · exact Or.inl rfl
      · exact pi_b d (r + 1)
    · exact Or.inr rfl
theorem po_b {n : Int} {f : Int → Int} : ∀ (d : Nat) (p : Int), po_ n f d p = 0 ∨ po_ n f d p = 1
  | 0, _ => Or.inr rfl
  | d + 1, p => by
    rw [po_]
    split
    · split
      · exact Or.inl rfl
      · exact po_b d (p + 1)
    · exact Or.inr rfl
theorem pi_c {n : Int} {f g : Int → Int} (h : ∀ i, 0 ≤ i → i < 2 * n → f i = g i) {p : Int} (hp : 0 ≤ p) (hp2 : p < 2 * n) : ∀ (d : Nat) (r : Int), 0 ≤ r → pi_ n f p d r = pi_ n g p d r
  | 0, _, _ => rfl
  | d + 1, r, hr => by
    rw [pi_, pi_]
    by_cases e : r < 2 * n
    · rw [if_pos e, if_pos e, h p hp hp2, h r hr e, pi_c h hp hp2 d (r + 1) (by omega)]
    · rw [if_neg e, if_neg e]
theorem po_c {n : Int} {f g : Int → Int} (h : ∀ i, 0 ≤ i → i < 2 * n → f i = g i) : ∀ (d : Nat) (p : Int), 0 ≤ p → po_ n f d p = po_ n g d p
  | 0, _, _ => rfl
  | d + 1, p, hp => by
    rw [po_, po_]
    by_cases e : p < 2 * n
    · rw [if_pos e, if_pos e, pi_c h hp e 9 0 (by omega), po_c h d (p + 1) (by omega)]
    · rw [if_neg e, if_neg e]
theorem pc_c {K : Int} {f g : Int → Int} (h : ∀ i, 0 ≤ i → i < K → f i = g i) : ∀ (d : Nat) (b x : Int), 0 ≤ b → pc_ K f d b x = pc_ K g d b x
  | 0, _, _, _ => rfl
  | d + 1, b, x, hb => by
    rw [pc_, pc_]
    by_cases e : b < K
    · rw [if_pos e, if_pos e, h b hb e, pc_c h d (b + 1) _ (by omega)]
    · rw [if_neg e, if_neg e]
/-- how many boxes are plane -/
def mq_c (n : Int) : Int := if n = 1 then 1 else if n = 2 then 2 else if n = 3 then 5 else 14
theorem mq_1 : pc_ 1 (fun b => po_ 1 (prt 1 b) 9 0) 106 0 0 = 1 := by decide +kernel
theorem mq_2 : pc_ 3 (fun b => po_ 2 (prt 2 b) 9 0) 106 0 0 = 2 := by decide +kernel
theorem mq_3 : pc_ 15 (fun b => po_ 3 (prt 3 b) 9 0) 106 0 0 = 5 := by decide +kernel
theorem mq_4 : pc_ 105 (fun b => po_ 4 (prt 4 b) 9 0) 106 0 0 = 14 := by decide +kernel
theorem mq_n {n : Int} (h1 : 1 ≤ n) (h4 : n ≤ 4) : pc_ (bx_K n) (fun b => po_ n (prt n b) 9 0) 106 0 0 = mq_c n := by
  have hn : n = 1 ∨ n = 2 ∨ n = 3 ∨ n = 4 := by omega
  rcases hn with hn | hn | hn | hn <;> subst hn
  · exact mq_1
  · exact mq_2
  · exact mq_3
  · exact mq_4
/-- the answer of many -/
def mq_a (n q : Int) : Int := if (1 ≤ n ∧ n ≤ 4) ∧ 0 ≤ q ∧ q ≤ 1 then (if q = 0 then bx_K n else mq_c n) else -1

theorem qz_placeRound {m s : Nat} {F : aq_F} {c : aq_C} {o n K : Nat} (hB : bx_0 m F o n K) {p : Int} (h0 : 0 ≤ p) (h1 : p < 2 * (n : Int)) : am_E ac_X0_placeRound (0, [vR o, vI p], [], aq_h m s F c) (aq_P m s F c (fun r => r = some (vI (rd_ (n : Int) p)))) := by
  obtain ⟨hm, hn1, hn4, hK, hFo, hFd, hFs⟩ := hB
  refine am_E.go (t2 := (1, [vR o, vI p], [vI p], aq_h m s F c)) rfl rfl ?_
  refine am_E.go (t2 := (2, [vR o, vI p], [vR o, vI p], aq_h m s F c)) rfl rfl ?_
  refine aq_gf (v := vI (n : Int)) rfl (by omega) hFo (by decide) rfl ?_
  show am_E _ (5, [vR o, vI p], [vI (n : Int), vI p], aq_h m s F c) _
  refine ae_icmp rfl (fun (q_1 : (n : Int) ≤ p) => ?_) (fun (q_1 : p < (n : Int)) => ?_)
  · refine am_E.go (t2 := (13, [vR o, vI p], [vR o], aq_h m s F c)) rfl rfl ?_
    refine aq_gf (v := vI (n : Int)) rfl (by omega) hFo (by decide) rfl ?_
    show am_E _ (16, [vR o, vI p], [vI (n : Int)], aq_h m s F c) _
    refine am_E.go (t2 := (17, [vR o, vI p], [vR o, vI (n : Int)], aq_h m s F c)) rfl rfl ?_
    refine aq_gf (v := vI (2 * (n : Int))) rfl (by omega) hFo (by decide) rfl ?_
    show am_E _ (20, [vR o, vI p], [vI (2 * (n : Int)), vI (n : Int)], aq_h m s F c) _
    refine ae_add rfl (am_ri (by omega) (by omega)) ?_
    show am_E _ (21, [vR o, vI p], [vI ((n : Int) + (2 * (n : Int)))], aq_h m s F c) _
    refine am_E.go (t2 := (22, [vR o, vI p], [vI 1, vI ((n : Int) + (2 * (n : Int)))], aq_h m s F c)) rfl rfl ?_
    refine ae_sub rfl (am_ri (by omega) (by omega)) ?_
    show am_E _ (23, [vR o, vI p], [vI (((n : Int) + (2 * (n : Int))) - 1)], aq_h m s F c) _
    refine am_E.go (t2 := (24, [vR o, vI p], [vI p, vI (((n : Int) + (2 * (n : Int))) - 1)], aq_h m s F c)) rfl rfl ?_
    refine ae_sub rfl (am_ri (by omega) (by omega)) ?_
    show am_E _ (25, [vR o, vI p], [vI ((((n : Int) + (2 * (n : Int))) - 1) - p)], aq_h m s F c) _
    refine am_E.ret rfl rfl ?_
    refine ⟨rfl, ?_⟩
    have e9 : rd_ (n : Int) p = ((((n : Int) + (2 * (n : Int))) - 1) - p) := by unfold rd_; first | rw [if_pos (by omega)] | (rw [if_neg (by omega)]; omega)
    rw [e9]
  · refine am_E.go (t2 := (9, [vR o, vI p], [vI p], aq_h m s F c)) rfl rfl ?_
    refine am_E.go (t2 := (25, [vR o, vI p], [vI p], aq_h m s F c)) rfl rfl ?_
    refine am_E.ret rfl rfl ?_
    refine ⟨rfl, ?_⟩
    have e9 : rd_ (n : Int) p = p := by unfold rd_; first | rw [if_pos (by omega)] | (rw [if_neg (by omega)]; omega)
    rw [e9]

theorem qz_isBetween {m s : Nat} {F : aq_F} {c : aq_C} {o n K : Nat} (hB : bx_0 m F o n K) {a z x : Int} (h0 : 0 ≤ x) (h1 : x < 2 * (n : Int)) : am_E ac_X0_isBetween (0, [vR o, vI a, vI z, vI x, vU], [], aq_h m s F c) (aq_P m s F c (fun r => r = some (vI (bt_ (n : Int) a z x)))) := by
  obtain ⟨hm, hn1, hn4, hK, hFo, hFd, hFs⟩ := hB
  refine am_E.go (t2 := (1, [vR o, vI a, vI z, vI x, vU], [vR o], aq_h m s F c)) rfl rfl ?_
  refine am_E.go (t2 := (2, [vR o, vI a, vI z, vI x, vU], [vI x, vR o], aq_h m s F c)) rfl rfl ?_
  refine aq_callv (y := 2) (as2 := [vI x]) (rest := []) rfl rfl (by decide) (Nat.le_of_ble_eq_true rfl) rfl rfl (Nat.le_of_ble_eq_true rfl) (by omega) hFo rfl (Nat.le_of_ble_eq_true rfl) (qz_placeRound ⟨hm, hn1, hn4, hK, hFo, hFd, hFs⟩ (by omega) (by omega)) ?_
  rintro r5 h5 ⟨rfl, rfl⟩
  show am_E _ (5, [vR o, vI a, vI z, vI x, vU], [vI (rd_ (n : Int) x)], aq_h m s F c) _
  refine am_E.go (t2 := (7, [vR o, vI a, vI z, vI x, vI (rd_ (n : Int) x)], [], aq_h m s F c)) rfl rfl ?_
  refine am_E.go (t2 := (8, [vR o, vI a, vI z, vI x, vI (rd_ (n : Int) x)], [vI a], aq_h m s F c)) rfl rfl ?_
  refine am_E.go (t2 := (10, [vR o, vI a, vI z, vI x, vI (rd_ (n : Int) x)], [vI (rd_ (n : Int) x), vI a], aq_h m s F c)) rfl rfl ?_
  refine ae_icmp rfl (fun (q_1 : (rd_ (n : Int) x) ≤ a) => ?_) (fun (q_1 : a < (rd_ (n : Int) x)) => ?_)
  · refine am_E.go (t2 := (24, [vR o, vI a, vI z, vI x, vI (rd_ (n : Int) x)], [vI 0], aq_h m s F c)) rfl rfl ?_
    refine am_E.ret rfl rfl ?_
    refine ⟨rfl, ?_⟩
    unfold bt_
    first | rw [if_pos (by omega)] | rw [if_neg (by omega)]
  · refine am_E.go (t2 := (15, [vR o, vI a, vI z, vI x, vI (rd_ (n : Int) x)], [vI (rd_ (n : Int) x)], aq_h m s F c)) rfl rfl ?_
    refine am_E.go (t2 := (16, [vR o, vI a, vI z, vI x, vI (rd_ (n : Int) x)], [vI z, vI (rd_ (n : Int) x)], aq_h m s F c)) rfl rfl ?_
    refine ae_icmp rfl (fun (q_2 : z ≤ (rd_ (n : Int) x)) => ?_) (fun (q_2 : (rd_ (n : Int) x) < z) => ?_)
    · refine am_E.go (t2 := (24, [vR o, vI a, vI z, vI x, vI (rd_ (n : Int) x)], [vI 0], aq_h m s F c)) rfl rfl ?_
      refine am_E.ret rfl rfl ?_
      refine ⟨rfl, ?_⟩
      unfold bt_
      first | rw [if_pos (by omega)] | rw [if_neg (by omega)]
    · refine am_E.go (t2 := (20, [vR o, vI a, vI z, vI x, vI (rd_ (n : Int) x)], [vI 1], aq_h m s F c)) rfl rfl ?_
      refine am_E.go (t2 := (24, [vR o, vI a, vI z, vI x, vI (rd_ (n : Int) x)], [vI 1], aq_h m s F c)) rfl rfl ?_
      refine am_E.ret rfl rfl ?_
      refine ⟨rfl, ?_⟩
      unfold bt_
      first | rw [if_pos (by omega)] | rw [if_neg (by omega)]

theorem qz_plane_in {m s : Nat} {F : aq_F} {c : aq_C} {o n K : Nat} (hB : bx_0 m F o n K) {tP : Int → Int → Int} (hP : bx_p F o n K tP) {b : Int} (hb0 : 0 ≤ b) (hbK : b < (K : Int)) {p T T2 : Int} (hp0 : 0 ≤ p) (hp1 : p < 2 * (n : Int)) (hT0 : T2 = 0 → T = 0) : ∀ (d : Nat) (r : Int) (h0 : 0 ≤ r) (h1 : r ≤ 2 * (n : Int)) (ht : pi_ (n : Int) (tP ((b.toNat : Nat) : Int)) p d r = T2) (hd : 2 * (n : Int) - r < (d : Int)) (K0 : ∀ (v6 : Int) (hT1 : T2 = 1), am_E ac_X0_isPlane (81, [vR o, vI b, vR (o + 2 + b.toNat), vI p, vI (rd_ (n : Int) p), vI (rd_ (n : Int) (tP ((b.toNat : Nat) : Int) p)), vI v6], [], aq_h m s F c) (aq_P m s F c (fun r => r = some (vI T)))), am_E ac_X0_isPlane (36, [vR o, vI b, vR (o + 2 + b.toNat), vI p, vI (rd_ (n : Int) p), vI (rd_ (n : Int) (tP ((b.toNat : Nat) : Int) p)), vI r], [], aq_h m s F c) (aq_P m s F c (fun r => r = some (vI T)))
  | 0, r, h0, h1, ht, hd, K0 => by exfalso; omega
  | d + 1, r, h0, h1, ht, hd, K0 => by
    obtain ⟨hm, hn1, hn4, hK, hFo, hFd, hFs⟩ := hB
    obtain ⟨hPg, hPr, hPt⟩ := hP
    refine am_E.go (t2 := (38, [vR o, vI b, vR (o + 2 + b.toNat), vI p, vI (rd_ (n : Int) p), vI (rd_ (n : Int) (tP ((b.toNat : Nat) : Int) p)), vI r], [vI r], aq_h m s F c)) rfl rfl ?_
    refine am_E.go (t2 := (39, [vR o, vI b, vR (o + 2 + b.toNat), vI p, vI (rd_ (n : Int) p), vI (rd_ (n : Int) (tP ((b.toNat : Nat) : Int) p)), vI r], [vR o, vI r], aq_h m s F c)) rfl rfl ?_
    refine aq_gf (v := vI (2 * (n : Int))) rfl (by omega) hFo (by decide) rfl ?_
    show am_E _ (42, [vR o, vI b, vR (o + 2 + b.toNat), vI p, vI (rd_ (n : Int) p), vI (rd_ (n : Int) (tP ((b.toNat : Nat) : Int) p)), vI r], [vI (2 * (n : Int)), vI r], aq_h m s F c) _
    refine ae_icmp rfl (fun (q_1 : (2 * (n : Int)) ≤ r) => ?_) (fun (q_1 : r < (2 * (n : Int))) => ?_)
    · exact K0 r (by rw [← ht, pi_, if_neg (by omega)])
    · refine am_E.go (t2 := (46, [vR o, vI b, vR (o + 2 + b.toNat), vI p, vI (rd_ (n : Int) p), vI (rd_ (n : Int) (tP ((b.toNat : Nat) : Int) p)), vI r], [vR o], aq_h m s F c)) rfl rfl ?_
      refine am_E.go (t2 := (48, [vR o, vI b, vR (o + 2 + b.toNat), vI p, vI (rd_ (n : Int) p), vI (rd_ (n : Int) (tP ((b.toNat : Nat) : Int) p)), vI r], [vI (rd_ (n : Int) p), vR o], aq_h m s F c)) rfl rfl ?_
      refine am_E.go (t2 := (50, [vR o, vI b, vR (o + 2 + b.toNat), vI p, vI (rd_ (n : Int) p), vI (rd_ (n : Int) (tP ((b.toNat : Nat) : Int) p)), vI r], [vI (rd_ (n : Int) (tP ((b.toNat : Nat) : Int) p)), vI (rd_ (n : Int) p), vR o], aq_h m s F c)) rfl rfl ?_
      refine am_E.go (t2 := (52, [vR o, vI b, vR (o + 2 + b.toNat), vI p, vI (rd_ (n : Int) p), vI (rd_ (n : Int) (tP ((b.toNat : Nat) : Int) p)), vI r], [vI r, vI (rd_ (n : Int) (tP ((b.toNat : Nat) : Int) p)), vI (rd_ (n : Int) p), vR o], aq_h m s F c)) rfl rfl ?_
      refine aq_callv (y := 4) (as2 := [vI (rd_ (n : Int) p), vI (rd_ (n : Int) (tP ((b.toNat : Nat) : Int) p)), vI r]) (rest := []) rfl rfl (by decide) (Nat.le_of_ble_eq_true rfl) rfl rfl (Nat.le_of_ble_eq_true rfl) (by omega) hFo rfl (Nat.le_of_ble_eq_true rfl) (qz_isBetween ⟨hm, hn1, hn4, hK, hFo, hFd, hFs⟩ (by omega) (by omega)) ?_
      rintro r5 h5 ⟨rfl, rfl⟩
      show am_E _ (55, [vR o, vI b, vR (o + 2 + b.toNat), vI p, vI (rd_ (n : Int) p), vI (rd_ (n : Int) (tP ((b.toNat : Nat) : Int) p)), vI r], [vI (bt_ (n : Int) (rd_ (n : Int) p) (rd_ (n : Int) (tP ((b.toNat : Nat) : Int) p)) r)], aq_h m s F c) _
      have hb_2 := bt_b (n : Int) (rd_ (n : Int) p) (rd_ (n : Int) (tP ((b.toNat : Nat) : Int) p)) r
      refine ae_if0 rfl (fun (q_3 : (bt_ (n : Int) (rd_ (n : Int) p) (rd_ (n : Int) (tP ((b.toNat : Nat) : Int) p)) r) = 0) => ?_) (fun (q_3 : (bt_ (n : Int) (rd_ (n : Int) p) (rd_ (n : Int) (tP ((b.toNat : Nat) : Int) p)) r) ≠ 0) => ?_)
      · refine ae_iinc rfl rfl (am_ri (by omega) (by omega)) ?_
        show am_E _ (78, [vR o, vI b, vR (o + 2 + b.toNat), vI p, vI (rd_ (n : Int) p), vI (rd_ (n : Int) (tP ((b.toNat : Nat) : Int) p)), vI (r + 1)], [], aq_h m s F c) _
        refine am_E.go (t2 := (36, [vR o, vI b, vR (o + 2 + b.toNat), vI p, vI (rd_ (n : Int) p), vI (rd_ (n : Int) (tP ((b.toNat : Nat) : Int) p)), vI (r + 1)], [], aq_h m s F c)) rfl rfl ?_
        exact qz_plane_in ⟨hm, hn1, hn4, hK, hFo, hFd, hFs⟩ ⟨hPg, hPr, hPt⟩ hb0 hbK hp0 hp1 hT0 d (r + 1) (by omega) (by omega) (by rw [← ht, pi_, if_pos (by omega), if_neg (by omega)]) (by omega) K0
      · refine am_E.go (t2 := (59, [vR o, vI b, vR (o + 2 + b.toNat), vI p, vI (rd_ (n : Int) p), vI (rd_ (n : Int) (tP ((b.toNat : Nat) : Int) p)), vI r], [vR o], aq_h m s F c)) rfl rfl ?_
        refine am_E.go (t2 := (61, [vR o, vI b, vR (o + 2 + b.toNat), vI p, vI (rd_ (n : Int) p), vI (rd_ (n : Int) (tP ((b.toNat : Nat) : Int) p)), vI r], [vI (rd_ (n : Int) p), vR o], aq_h m s F c)) rfl rfl ?_
        refine am_E.go (t2 := (63, [vR o, vI b, vR (o + 2 + b.toNat), vI p, vI (rd_ (n : Int) p), vI (rd_ (n : Int) (tP ((b.toNat : Nat) : Int) p)), vI r], [vI (rd_ (n : Int) (tP ((b.toNat : Nat) : Int) p)), vI (rd_ (n : Int) p), vR o], aq_h m s F c)) rfl rfl ?_
        refine am_E.go (t2 := (64, [vR o, vI b, vR (o + 2 + b.toNat), vI p, vI (rd_ (n : Int) p), vI (rd_ (n : Int) (tP ((b.toNat : Nat) : Int) p)), vI r], [vR (o + 2 + b.toNat), vI (rd_ (n : Int) (tP ((b.toNat : Nat) : Int) p)), vI (rd_ (n : Int) p), vR o], aq_h m s F c)) rfl rfl ?_
        refine am_E.go (t2 := (66, [vR o, vI b, vR (o + 2 + b.toNat), vI p, vI (rd_ (n : Int) p), vI (rd_ (n : Int) (tP ((b.toNat : Nat) : Int) p)), vI r], [vI r, vR (o + 2 + b.toNat), vI (rd_ (n : Int) (tP ((b.toNat : Nat) : Int) p)), vI (rd_ (n : Int) p), vR o], aq_h m s F c)) rfl rfl ?_
        refine aq_alt (ok := fun k => k == 0) rfl rfl (by omega) (hPr _ (by omega)) rfl (by omega) (by omega) ?_
        show am_E _ (67, [vR o, vI b, vR (o + 2 + b.toNat), vI p, vI (rd_ (n : Int) p), vI (rd_ (n : Int) (tP ((b.toNat : Nat) : Int) p)), vI r], [vI (tP ((b.toNat : Nat) : Int) r), vI (rd_ (n : Int) (tP ((b.toNat : Nat) : Int) p)), vI (rd_ (n : Int) p), vR o], aq_h m s F c) _
        have f_4 := hPt ((b.toNat : Nat) : Int) r (by omega) (by omega) (by omega) (by omega)
        refine aq_callv (y := 4) (as2 := [vI (rd_ (n : Int) p), vI (rd_ (n : Int) (tP ((b.toNat : Nat) : Int) p)), vI (tP ((b.toNat : Nat) : Int) r)]) (rest := []) rfl rfl (by decide) (Nat.le_of_ble_eq_true rfl) rfl rfl (Nat.le_of_ble_eq_true rfl) (by omega) hFo rfl (Nat.le_of_ble_eq_true rfl) (qz_isBetween ⟨hm, hn1, hn4, hK, hFo, hFd, hFs⟩ (by omega) (by omega)) ?_
        rintro r5 h5 ⟨rfl, rfl⟩
        show am_E _ (70, [vR o, vI b, vR (o + 2 + b.toNat), vI p, vI (rd_ (n : Int) p), vI (rd_ (n : Int) (tP ((b.toNat : Nat) : Int) p)), vI r], [vI (bt_ (n : Int) (rd_ (n : Int) p) (rd_ (n : Int) (tP ((b.toNat : Nat) : Int) p)) (tP ((b.toNat : Nat) : Int) r))], aq_h m s F c) _
        have hb_5 := bt_b (n : Int) (rd_ (n : Int) p) (rd_ (n : Int) (tP ((b.toNat : Nat) : Int) p)) (tP ((b.toNat : Nat) : Int) r)
        refine ae_if0 rfl (fun (q_6 : (bt_ (n : Int) (rd_ (n : Int) p) (rd_ (n : Int) (tP ((b.toNat : Nat) : Int) p)) (tP ((b.toNat : Nat) : Int) r)) ≠ 0) => ?_) (fun (q_6 : (bt_ (n : Int) (rd_ (n : Int) p) (rd_ (n : Int) (tP ((b.toNat : Nat) : Int) p)) (tP ((b.toNat : Nat) : Int) r)) = 0) => ?_)
        · refine ae_iinc rfl rfl (am_ri (by omega) (by omega)) ?_
          show am_E _ (78, [vR o, vI b, vR (o + 2 + b.toNat), vI p, vI (rd_ (n : Int) p), vI (rd_ (n : Int) (tP ((b.toNat : Nat) : Int) p)), vI (r + 1)], [], aq_h m s F c) _
          refine am_E.go (t2 := (36, [vR o, vI b, vR (o + 2 + b.toNat), vI p, vI (rd_ (n : Int) p), vI (rd_ (n : Int) (tP ((b.toNat : Nat) : Int) p)), vI (r + 1)], [], aq_h m s F c)) rfl rfl ?_
          exact qz_plane_in ⟨hm, hn1, hn4, hK, hFo, hFd, hFs⟩ ⟨hPg, hPr, hPt⟩ hb0 hbK hp0 hp1 hT0 d (r + 1) (by omega) (by omega) (by rw [← ht, pi_, if_pos (by omega), if_neg (by omega)]) (by omega) K0
        · refine am_E.go (t2 := (74, [vR o, vI b, vR (o + 2 + b.toNat), vI p, vI (rd_ (n : Int) p), vI (rd_ (n : Int) (tP ((b.toNat : Nat) : Int) p)), vI r], [vI 0], aq_h m s F c)) rfl rfl ?_
          refine am_E.ret rfl rfl ?_
          refine ⟨rfl, ?_⟩
          rw [hT0 (by rw [← ht, pi_, if_pos (by omega), if_pos (by omega)])]

theorem qz_plane_out {m s : Nat} {F : aq_F} {c : aq_C} {o n K : Nat} (hB : bx_0 m F o n K) {tP : Int → Int → Int} (hP : bx_p F o n K tP) {b : Int} (hb0 : 0 ≤ b) (hbK : b < (K : Int)) {T : Int} : ∀ (d : Nat) (p : Int) (v4 : am_V) (v5 : am_V) (v6 : am_V) (h0 : 0 ≤ p) (h1 : p ≤ 2 * (n : Int)) (ht : po_ (n : Int) (tP ((b.toNat : Nat) : Int)) d p = T) (hd : 2 * (n : Int) - p < (d : Int)), am_E ac_X0_isPlane (9, [vR o, vI b, vR (o + 2 + b.toNat), vI p, v4, v5, v6], [], aq_h m s F c) (aq_P m s F c (fun r => r = some (vI T)))
  | 0, p, v4, v5, v6, h0, h1, ht, hd => by exfalso; omega
  | d + 1, p, v4, v5, v6, h0, h1, ht, hd => by
    obtain ⟨hm, hn1, hn4, hK, hFo, hFd, hFs⟩ := hB
    obtain ⟨hPg, hPr, hPt⟩ := hP
    refine am_E.go (t2 := (10, [vR o, vI b, vR (o + 2 + b.toNat), vI p, v4, v5, v6], [vI p], aq_h m s F c)) rfl rfl ?_
    refine am_E.go (t2 := (11, [vR o, vI b, vR (o + 2 + b.toNat), vI p, v4, v5, v6], [vR o, vI p], aq_h m s F c)) rfl rfl ?_
    refine aq_gf (v := vI (2 * (n : Int))) rfl (by omega) hFo (by decide) rfl ?_
    show am_E _ (14, [vR o, vI b, vR (o + 2 + b.toNat), vI p, v4, v5, v6], [vI (2 * (n : Int)), vI p], aq_h m s F c) _
    refine ae_icmp rfl (fun (q_1 : (2 * (n : Int)) ≤ p) => ?_) (fun (q_1 : p < (2 * (n : Int))) => ?_)
    · refine am_E.go (t2 := (88, [vR o, vI b, vR (o + 2 + b.toNat), vI p, v4, v5, v6], [vI 1], aq_h m s F c)) rfl rfl ?_
      refine am_E.ret rfl rfl ?_
      refine ⟨rfl, ?_⟩
      rw [← ht, po_, if_neg (by omega)]
    · refine am_E.go (t2 := (18, [vR o, vI b, vR (o + 2 + b.toNat), vI p, v4, v5, v6], [vR o], aq_h m s F c)) rfl rfl ?_
      refine am_E.go (t2 := (19, [vR o, vI b, vR (o + 2 + b.toNat), vI p, v4, v5, v6], [vI p, vR o], aq_h m s F c)) rfl rfl ?_
      refine aq_callv (y := 2) (as2 := [vI p]) (rest := []) rfl rfl (by decide) (Nat.le_of_ble_eq_true rfl) rfl rfl (Nat.le_of_ble_eq_true rfl) (by omega) hFo rfl (Nat.le_of_ble_eq_true rfl) (qz_placeRound ⟨hm, hn1, hn4, hK, hFo, hFd, hFs⟩ (by omega) (by omega)) ?_
      rintro r5 h5 ⟨rfl, rfl⟩
      show am_E _ (22, [vR o, vI b, vR (o + 2 + b.toNat), vI p, v4, v5, v6], [vI (rd_ (n : Int) p)], aq_h m s F c) _
      refine am_E.go (t2 := (24, [vR o, vI b, vR (o + 2 + b.toNat), vI p, vI (rd_ (n : Int) p), v5, v6], [], aq_h m s F c)) rfl rfl ?_
      refine am_E.go (t2 := (25, [vR o, vI b, vR (o + 2 + b.toNat), vI p, vI (rd_ (n : Int) p), v5, v6], [vR o], aq_h m s F c)) rfl rfl ?_
      refine am_E.go (t2 := (26, [vR o, vI b, vR (o + 2 + b.toNat), vI p, vI (rd_ (n : Int) p), v5, v6], [vR (o + 2 + b.toNat), vR o], aq_h m s F c)) rfl rfl ?_
      refine am_E.go (t2 := (27, [vR o, vI b, vR (o + 2 + b.toNat), vI p, vI (rd_ (n : Int) p), v5, v6], [vI p, vR (o + 2 + b.toNat), vR o], aq_h m s F c)) rfl rfl ?_
      refine aq_alt (ok := fun k => k == 0) rfl rfl (by omega) (hPr _ (by omega)) rfl (by omega) (by omega) ?_
      show am_E _ (28, [vR o, vI b, vR (o + 2 + b.toNat), vI p, vI (rd_ (n : Int) p), v5, v6], [vI (tP ((b.toNat : Nat) : Int) p), vR o], aq_h m s F c) _
      have f_2 := hPt ((b.toNat : Nat) : Int) p (by omega) (by omega) (by omega) (by omega)
      refine aq_callv (y := 2) (as2 := [vI (tP ((b.toNat : Nat) : Int) p)]) (rest := []) rfl rfl (by decide) (Nat.le_of_ble_eq_true rfl) rfl rfl (Nat.le_of_ble_eq_true rfl) (by omega) hFo rfl (Nat.le_of_ble_eq_true rfl) (qz_placeRound ⟨hm, hn1, hn4, hK, hFo, hFd, hFs⟩ (by omega) (by omega)) ?_
      rintro r5 h5 ⟨rfl, rfl⟩
      show am_E _ (31, [vR o, vI b, vR (o + 2 + b.toNat), vI p, vI (rd_ (n : Int) p), v5, v6], [vI (rd_ (n : Int) (tP ((b.toNat : Nat) : Int) p))], aq_h m s F c) _
      refine am_E.go (t2 := (33, [vR o, vI b, vR (o + 2 + b.toNat), vI p, vI (rd_ (n : Int) p), vI (rd_ (n : Int) (tP ((b.toNat : Nat) : Int) p)), v6], [], aq_h m s F c)) rfl rfl ?_
      refine am_E.go (t2 := (34, [vR o, vI b, vR (o + 2 + b.toNat), vI p, vI (rd_ (n : Int) p), vI (rd_ (n : Int) (tP ((b.toNat : Nat) : Int) p)), v6], [vI 0], aq_h m s F c)) rfl rfl ?_
      refine am_E.go (t2 := (36, [vR o, vI b, vR (o + 2 + b.toNat), vI p, vI (rd_ (n : Int) p), vI (rd_ (n : Int) (tP ((b.toNat : Nat) : Int) p)), vI 0], [], aq_h m s F c)) rfl rfl ?_
      refine qz_plane_in ⟨hm, hn1, hn4, hK, hFo, hFd, hFs⟩ ⟨hPg, hPr, hPt⟩ hb0 hbK (by omega) (by omega) (fun q => by rw [← ht, po_, if_pos (by omega), if_pos q]) 9 0 (by omega) (by omega) rfl (by omega) ?_
      · intro v6_36 hT1_36
        refine ae_iinc rfl rfl (am_ri (by omega) (by omega)) ?_
        show am_E _ (84, [vR o, vI b, vR (o + 2 + b.toNat), vI (p + 1), vI (rd_ (n : Int) p), vI (rd_ (n : Int) (tP ((b.toNat : Nat) : Int) p)), vI v6_36], [], aq_h m s F c) _
        refine am_E.go (t2 := (9, [vR o, vI b, vR (o + 2 + b.toNat), vI (p + 1), vI (rd_ (n : Int) p), vI (rd_ (n : Int) (tP ((b.toNat : Nat) : Int) p)), vI v6_36], [], aq_h m s F c)) rfl rfl ?_
        exact qz_plane_out ⟨hm, hn1, hn4, hK, hFo, hFd, hFs⟩ ⟨hPg, hPr, hPt⟩ hb0 hbK d (p + 1) (vI (rd_ (n : Int) p)) (vI (rd_ (n : Int) (tP ((b.toNat : Nat) : Int) p))) (vI v6_36) (by omega) (by omega) (by rw [← ht, po_, if_pos (by omega), if_neg (by omega)]) (by omega)

theorem qz_isPlane {m s : Nat} {F : aq_F} {c : aq_C} {o n K : Nat} (hB : bx_0 m F o n K) {tP : Int → Int → Int} (hP : bx_p F o n K tP) {b : Int} (hb0 : 0 ≤ b) (hbK : b < (K : Int)) : am_E ac_X0_isPlane (0, [vR o, vI b, vU, vU, vU, vU, vU], [], aq_h m s F c) (aq_P m s F c (fun r => r = some (vI (po_ (n : Int) (tP ((b.toNat : Nat) : Int)) 9 0)))) := by
  obtain ⟨hm, hn1, hn4, hK, hFo, hFd, hFs⟩ := hB
  obtain ⟨hPg, hPr, hPt⟩ := hP
  refine am_E.go (t2 := (1, [vR o, vI b, vU, vU, vU, vU, vU], [vR o], aq_h m s F c)) rfl rfl ?_
  refine aq_gf (v := vR (o + 1)) rfl (by omega) hFo (by decide) rfl ?_
  show am_E _ (4, [vR o, vI b, vU, vU, vU, vU, vU], [vR (o + 1)], aq_h m s F c) _
  refine am_E.go (t2 := (5, [vR o, vI b, vU, vU, vU, vU, vU], [vI b, vR (o + 1)], aq_h m s F c)) rfl rfl ?_
  refine aq_al (ok := fun k => decide (3 ≤ k) && decide (k < 7)) (v := vR (o + 2 + b.toNat)) rfl rfl (by omega) hPg rfl (by omega) (by omega) (aq_gi (by omega)) ?_
  show am_E _ (6, [vR o, vI b, vU, vU, vU, vU, vU], [vR (o + 2 + b.toNat)], aq_h m s F c) _
  refine am_E.go (t2 := (7, [vR o, vI b, vR (o + 2 + b.toNat), vU, vU, vU, vU], [], aq_h m s F c)) rfl rfl ?_
  refine am_E.go (t2 := (8, [vR o, vI b, vR (o + 2 + b.toNat), vU, vU, vU, vU], [vI 0], aq_h m s F c)) rfl rfl ?_
  refine am_E.go (t2 := (9, [vR o, vI b, vR (o + 2 + b.toNat), vI 0, vU, vU, vU], [], aq_h m s F c)) rfl rfl ?_
  exact qz_plane_out ⟨hm, hn1, hn4, hK, hFo, hFd, hFs⟩ ⟨hPg, hPr, hPt⟩ hb0 hbK 9 0 (vU) (vU) (vU) (by omega) (by omega) rfl (by omega)

theorem qz_count_l {m s : Nat} {F : aq_F} {c : aq_C} {o n K : Nat} (hB : bx_0 m F o n K) {tP : Int → Int → Int} (hP : bx_p F o n K tP) {T : Int} : ∀ (d : Nat) (x : Int) (b : Int) (h0 : 0 ≤ b) (h1 : b ≤ (K : Int)) (h2 : 0 ≤ x) (h3 : x ≤ b) (ht : pc_ (K : Int) (fun b => po_ (n : Int) (tP ((b.toNat : Nat) : Int)) 9 0) d b x = T) (hd : (K : Int) - b < (d : Int)), am_E ac_X0_countPlane (4, [vR o, vI x, vI b], [], aq_h m s F c) (aq_P m s F c (fun r => r = some (vI T)))
  | 0, x, b, h0, h1, h2, h3, ht, hd => by exfalso; omega
  | d + 1, x, b, h0, h1, h2, h3, ht, hd => by
    obtain ⟨hm, hn1, hn4, hK, hFo, hFd, hFs⟩ := hB
    obtain ⟨hPg, hPr, hPt⟩ := hP
    refine am_E.go (t2 := (5, [vR o, vI x, vI b], [vI b], aq_h m s F c)) rfl rfl ?_
    refine am_E.go (t2 := (6, [vR o, vI x, vI b], [vR o, vI b], aq_h m s F c)) rfl rfl ?_
    refine aq_gf (v := vI (K : Int)) rfl (by omega) hFo (by decide) rfl ?_
    show am_E _ (9, [vR o, vI x, vI b], [vI (K : Int), vI b], aq_h m s F c) _
    refine ae_icmp rfl (fun (q_1 : (K : Int) ≤ b) => ?_) (fun (q_1 : b < (K : Int)) => ?_)
    · refine am_E.go (t2 := (35, [vR o, vI x, vI b], [vI x], aq_h m s F c)) rfl rfl ?_
      refine am_E.ret rfl rfl ?_
      refine ⟨rfl, ?_⟩
      rw [← ht, pc_, if_neg (by omega)]
    · refine am_E.go (t2 := (13, [vR o, vI x, vI b], [vI x], aq_h m s F c)) rfl rfl ?_
      refine am_E.go (t2 := (14, [vR o, vI x, vI b], [vR o, vI x], aq_h m s F c)) rfl rfl ?_
      refine am_E.go (t2 := (15, [vR o, vI x, vI b], [vI b, vR o, vI x], aq_h m s F c)) rfl rfl ?_
      refine aq_callv (y := 2) (as2 := [vI b]) (rest := [vI x]) rfl rfl (by decide) (Nat.le_of_ble_eq_true rfl) rfl rfl (Nat.le_of_ble_eq_true rfl) (by omega) hFo rfl (Nat.le_of_ble_eq_true rfl) (qz_isPlane ⟨hm, hn1, hn4, hK, hFo, hFd, hFs⟩ ⟨hPg, hPr, hPt⟩ (by omega) (by omega)) ?_
      rintro r5 h5 ⟨rfl, rfl⟩
      show am_E _ (18, [vR o, vI x, vI b], [vI (po_ (n : Int) (tP ((b.toNat : Nat) : Int)) 9 0), vI x], aq_h m s F c) _
      have hpo := po_b (n := (n : Int)) (f := tP ((b.toNat : Nat) : Int)) 9 0
      refine ae_if0 rfl (fun (q_2 : (po_ (n : Int) (tP ((b.toNat : Nat) : Int)) 9 0) = 0) => ?_) (fun (q_2 : (po_ (n : Int) (tP ((b.toNat : Nat) : Int)) 9 0) ≠ 0) => ?_)
      · refine am_E.go (t2 := (26, [vR o, vI x, vI b], [vI 0, vI x], aq_h m s F c)) rfl rfl ?_
        refine ae_add rfl (am_ri (by omega) (by omega)) ?_
        show am_E _ (27, [vR o, vI x, vI b], [vI (x + 0)], aq_h m s F c) _
        refine am_E.go (t2 := (28, [vR o, vI (x + 0), vI b], [], aq_h m s F c)) rfl rfl ?_
        refine ae_iinc rfl rfl (am_ri (by omega) (by omega)) ?_
        show am_E _ (31, [vR o, vI (x + 0), vI (b + 1)], [], aq_h m s F c) _
        refine am_E.go (t2 := (4, [vR o, vI (x + 0), vI (b + 1)], [], aq_h m s F c)) rfl rfl ?_
        exact qz_count_l ⟨hm, hn1, hn4, hK, hFo, hFd, hFs⟩ ⟨hPg, hPr, hPt⟩ d (x + 0) (b + 1) (by omega) (by omega) (by omega) (by omega) (by rw [← ht, pc_, if_pos (by omega)]; congr 1; omega) (by omega)
      · refine am_E.go (t2 := (22, [vR o, vI x, vI b], [vI 1, vI x], aq_h m s F c)) rfl rfl ?_
        refine am_E.go (t2 := (26, [vR o, vI x, vI b], [vI 1, vI x], aq_h m s F c)) rfl rfl ?_
        refine ae_add rfl (am_ri (by omega) (by omega)) ?_
        show am_E _ (27, [vR o, vI x, vI b], [vI (x + 1)], aq_h m s F c) _
        refine am_E.go (t2 := (28, [vR o, vI (x + 1), vI b], [], aq_h m s F c)) rfl rfl ?_
        refine ae_iinc rfl rfl (am_ri (by omega) (by omega)) ?_
        show am_E _ (31, [vR o, vI (x + 1), vI (b + 1)], [], aq_h m s F c) _
        refine am_E.go (t2 := (4, [vR o, vI (x + 1), vI (b + 1)], [], aq_h m s F c)) rfl rfl ?_
        exact qz_count_l ⟨hm, hn1, hn4, hK, hFo, hFd, hFs⟩ ⟨hPg, hPr, hPt⟩ d (x + 1) (b + 1) (by omega) (by omega) (by omega) (by omega) (by rw [← ht, pc_, if_pos (by omega)]; congr 1; omega) (by omega)

theorem qz_countPlane {m s : Nat} {F : aq_F} {c : aq_C} {o n K : Nat} (hB : bx_0 m F o n K) {tP : Int → Int → Int} (hP : bx_p F o n K tP) : am_E ac_X0_countPlane (0, [vR o, vU, vU], [], aq_h m s F c) (aq_P m s F c (fun r => r = some (vI (pc_ (K : Int) (fun b => po_ (n : Int) (tP ((b.toNat : Nat) : Int)) 9 0) 106 0 0)))) := by
  obtain ⟨hm, hn1, hn4, hK, hFo, hFd, hFs⟩ := hB
  obtain ⟨hPg, hPr, hPt⟩ := hP
  refine am_E.go (t2 := (1, [vR o, vU, vU], [vI 0], aq_h m s F c)) rfl rfl ?_
  refine am_E.go (t2 := (2, [vR o, vI 0, vU], [], aq_h m s F c)) rfl rfl ?_
  refine am_E.go (t2 := (3, [vR o, vI 0, vU], [vI 0], aq_h m s F c)) rfl rfl ?_
  refine am_E.go (t2 := (4, [vR o, vI 0, vI 0], [], aq_h m s F c)) rfl rfl ?_
  exact qz_count_l ⟨hm, hn1, hn4, hK, hFo, hFd, hFs⟩ ⟨hPg, hPr, hPt⟩ 106 0 0 (by omega) (by omega) (by omega) (by omega) rfl (by omega)

theorem qe_X4_many {m s : Nat} {F : aq_F} {c : aq_C} (hC : sb_C m F) (hI : cl_I c) {nn p : Int} : am_E ac_X4_many (0, [vR 0, vI nn, vI p], [], aq_h m s F c) (aq_Z m s F (fun a => a < 527) c (fun r d => r = some (vI (mq_a nn p)) ∧ cl_I d)) := by
  obtain ⟨hCm, hC0, hC1, hC2, hC3, ⟨hma4, hFa4, hFn4, hFp4, hFf4⟩, ⟨hmx, hFx, hFl, hFw⟩, hCs, hCb, hCh⟩ := id hC
  refine am_E.go (t2 := (1, [vR 0, vI nn, vI p], [vI nn], aq_h m s F c)) rfl rfl ?_
  refine am_E.call rfl rfl rfl (Nat.le_of_ble_eq_true rfl) (qn_X4_isStrands) ?_
  rintro r5 h5 ⟨rfl, v_1, rfl, hv_1⟩
  show am_E _ (4, [vR 0, vI nn, vI p], [vI v_1], aq_h m s F c) _
  refine ae_if0 rfl (fun (q_2 : v_1 = 0) => ?_) (fun (q_2 : v_1 ≠ 0) => ?_)
  · refine am_E.go (t2 := (17, [vR 0, vI nn, vI p], [vI (-1)], aq_h m s F c)) rfl rfl ?_
    refine am_E.ret rfl rfl ?_
    exact ⟨_, rfl, (aq_sm0 (S := fun a => a < 527)), by rw [mq_a, if_neg (by omega)], hI⟩
  · refine am_E.go (t2 := (8, [vR 0, vI nn, vI p], [vI p], aq_h m s F c)) rfl rfl ?_
    refine ae_if0 rfl (fun (q_3 : p < 0) => ?_) (fun (q_3 : 0 ≤ p) => ?_)
    · refine am_E.go (t2 := (17, [vR 0, vI nn, vI p], [vI (-1)], aq_h m s F c)) rfl rfl ?_
      refine am_E.ret rfl rfl ?_
      exact ⟨_, rfl, (aq_sm0 (S := fun a => a < 527)), by rw [mq_a, if_neg (by omega)], hI⟩
    · refine am_E.go (t2 := (12, [vR 0, vI nn, vI p], [vI p], aq_h m s F c)) rfl rfl ?_
      refine am_E.go (t2 := (13, [vR 0, vI nn, vI p], [vI 1, vI p], aq_h m s F c)) rfl rfl ?_
      refine ae_icmp rfl (fun (q_4 : p ≤ 1) => ?_) (fun (q_4 : 1 < p) => ?_)
      · refine am_E.go (t2 := (19, [vR 0, vI nn, vI p], [vI p], aq_h m s F c)) rfl rfl ?_
        refine ae_if0 rfl (fun (q_5 : p ≠ 0) => ?_) (fun (q_5 : p = 0) => ?_)
        · refine am_E.go (t2 := (37, [vR 0, vI nn, vI p], [vR 0], aq_h m s F c)) rfl rfl ?_
          refine aq_gf (v := vR 1) rfl (by omega) hC0 (by decide) rfl ?_
          show am_E _ (40, [vR 0, vI nn, vI p], [vR 1], aq_h m s F c) _
          refine am_E.go (t2 := (41, [vR 0, vI nn, vI p], [vI nn, vR 1], aq_h m s F c)) rfl rfl ?_
          refine am_E.go (t2 := (42, [vR 0, vI nn, vI p], [vI 1, vI nn, vR 1], aq_h m s F c)) rfl rfl ?_
          refine ae_sub rfl (am_ri (by omega) (by omega)) ?_
          show am_E _ (43, [vR 0, vI nn, vI p], [vI (nn - 1), vR 1], aq_h m s F c) _
          obtain ⟨o, n, K, e_o, e_n, e_K, e_j, e_k, tP, tG, tN, tR, tL, ⟨hm, hn1, hn4, hK, hFo, hFd, hFs⟩, ⟨hPg, hPr, hPt⟩, ⟨hL, hGg, hGr, hNg, hNr, hLt, hGt, hNt⟩, ⟨hR, hRt⟩, hst, hex⟩ := sb_box hC (i := (nn - 1)) (by omega) (by omega)
          have hb := sb_bnd ((nn - 1)).toNat (by omega)
          rw [e_o, e_k] at hb
          have hbK : (K : Int) = bx_K nn := by rw [e_K]; congr 1; omega
          refine aq_al (ok := fun k => decide (3 ≤ k) && decide (k < 7)) (v := vR o) rfl rfl (by omega) hC1 rfl (by omega) (by omega) (aq_gi2 (by omega) e_o) ?_
          show am_E _ (44, [vR 0, vI nn, vI p], [vR o], aq_h m s F c) _
          refine aq_callv (y := 1) (as2 := []) (rest := []) rfl rfl (by decide) (Nat.le_of_ble_eq_true rfl) rfl rfl (Nat.le_of_ble_eq_true rfl) (by omega) hFo rfl (Nat.le_of_ble_eq_true rfl) (qz_countPlane ⟨hm, hn1, hn4, hK, hFo, hFd, hFs⟩ ⟨hPg, hPr, hPt⟩) ?_
          rintro r5 h5 ⟨rfl, rfl⟩
          show am_E _ (47, [vR 0, vI nn, vI p], [vI (pc_ (K : Int) (fun b => po_ (n : Int) (tP ((b.toNat : Nat) : Int)) 9 0) 106 0 0)], aq_h m s F c) _
          refine am_E.ret rfl rfl ?_
          refine ⟨_, rfl, (aq_sm0 (S := fun a => a < 527)), ?_, hI⟩
          have e2 : (n : Int) = nn := by omega
          have e3 := pc_c (K := (K : Int)) (f := (fun b => po_ (n : Int) (tP ((b.toNat : Nat) : Int)) 9 0)) (g := fun b => po_ (n : Int) (prt (n : Int) b) 9 0) (fun b b0 b1 => po_c (fun p p0 p1 => by have := (hPt ((b.toNat : Nat) : Int) p (by omega) (by omega) p0 p1).2.2; rw [Int.toNat_of_nonneg b0] at this; rw [Int.toNat_of_nonneg b0]; exact this) 9 0 (by omega)) 106 0 0 (by omega)
          rw [mq_a, if_pos (by omega), if_neg (by omega), e3, hbK, e2, mq_n (by omega) (by omega)]
        · refine am_E.go (t2 := (23, [vR 0, vI nn, vI p], [vR 0], aq_h m s F c)) rfl rfl ?_
          refine aq_gf (v := vR 1) rfl (by omega) hC0 (by decide) rfl ?_
          show am_E _ (26, [vR 0, vI nn, vI p], [vR 1], aq_h m s F c) _
          refine am_E.go (t2 := (27, [vR 0, vI nn, vI p], [vI nn, vR 1], aq_h m s F c)) rfl rfl ?_
          refine am_E.go (t2 := (28, [vR 0, vI nn, vI p], [vI 1, vI nn, vR 1], aq_h m s F c)) rfl rfl ?_
          refine ae_sub rfl (am_ri (by omega) (by omega)) ?_
          show am_E _ (29, [vR 0, vI nn, vI p], [vI (nn - 1), vR 1], aq_h m s F c) _
          obtain ⟨o, n, K, e_o, e_n, e_K, e_j, e_k, tP, tG, tN, tR, tL, ⟨hm, hn1, hn4, hK, hFo, hFd, hFs⟩, ⟨hPg, hPr, hPt⟩, ⟨hL, hGg, hGr, hNg, hNr, hLt, hGt, hNt⟩, ⟨hR, hRt⟩, hst, hex⟩ := sb_box hC (i := (nn - 1)) (by omega) (by omega)
          have hb := sb_bnd ((nn - 1)).toNat (by omega)
          rw [e_o, e_k] at hb
          have hbK : (K : Int) = bx_K nn := by rw [e_K]; congr 1; omega
          refine aq_al (ok := fun k => decide (3 ≤ k) && decide (k < 7)) (v := vR o) rfl rfl (by omega) hC1 rfl (by omega) (by omega) (aq_gi2 (by omega) e_o) ?_
          show am_E _ (30, [vR 0, vI nn, vI p], [vR o], aq_h m s F c) _
          refine aq_gf (v := vI (K : Int)) rfl (by omega) hFo (by decide) rfl ?_
          show am_E _ (33, [vR 0, vI nn, vI p], [vI (K : Int)], aq_h m s F c) _
          refine am_E.go (t2 := (47, [vR 0, vI nn, vI p], [vI (K : Int)], aq_h m s F c)) rfl rfl ?_
          refine am_E.ret rfl rfl ?_
          exact ⟨_, rfl, (aq_sm0 (S := fun a => a < 527)), by rw [mq_a, if_pos (by omega), if_pos (by omega), hbK], hI⟩
      · refine am_E.go (t2 := (17, [vR 0, vI nn, vI p], [vI (-1)], aq_h m s F c)) rfl rfl ?_
        refine am_E.ret rfl rfl ?_
        exact ⟨_, rfl, (aq_sm0 (S := fun a => a < 527)), by rw [mq_a, if_neg (by omega)], hI⟩
/-! The reference: the answers of many. Printed by wip/p20/sx/gEPm.py. -/

/-- the reference's test of a plane box -/
def ri_ (n : Int) (f : Int → Int) (p : Int) : Nat → Int → Int → Int
  | 0, _, t => t
  | d + 1, q, t => if q < 2 * n then ri_ n f p d (q + 1) (if t ≠ 0 ∧ ¬ (rd_ n p < rd_ n q ∧ rd_ n q < rd_ n (f p) ∧ rd_ n (f p) < rd_ n (f q)) then 1 else 0) else t
def ro_ (n : Int) (f : Int → Int) : Nat → Int → Int → Int
  | 0, _, t => t
  | d + 1, p, t => if p < 2 * n then ro_ n f d (p + 1) (ri_ n f p 9 0 t) else t
theorem ri_b {n : Int} {f : Int → Int} {p : Int} : ∀ (d : Nat) (q t : Int), (t = 0 ∨ t = 1) → ri_ n f p d q t = 0 ∨ ri_ n f p d q t = 1
  | 0, _, t, h => h
  | d + 1, q, t, h => by
    rw [ri_]
    split
    · refine ri_b d (q + 1) _ ?_
      split
      · exact Or.inr rfl
      · exact Or.inl rfl
    · exact h
theorem ro_b {n : Int} {f : Int → Int} : ∀ (d : Nat) (p t : Int), (t = 0 ∨ t = 1) → ro_ n f d p t = 0 ∨ ro_ n f d p t = 1
  | 0, _, t, h => h
  | d + 1, p, t, h => by
    rw [ro_]
    split
    · exact ro_b d (p + 1) _ (ri_b 9 0 t h)
    · exact h
theorem rp_1 : ∀ b : Nat, b < 1 → ro_ 1 (prt 1 b) 9 0 1 = po_ 1 (prt 1 b) 9 0 := by decide +kernel
theorem rp_2 : ∀ b : Nat, b < 3 → ro_ 2 (prt 2 b) 9 0 1 = po_ 2 (prt 2 b) 9 0 := by decide +kernel
theorem rp_3 : ∀ b : Nat, b < 15 → ro_ 3 (prt 3 b) 9 0 1 = po_ 3 (prt 3 b) 9 0 := by decide +kernel
theorem rp_4 : ∀ b : Nat, b < 105 → ro_ 4 (prt 4 b) 9 0 1 = po_ 4 (prt 4 b) 9 0 := by decide +kernel
theorem rp_n {n b : Int} (h1 : 1 ≤ n) (h4 : n ≤ 4) (h0 : 0 ≤ b) (hb : b < bx_K n) : ro_ n (prt n b) 9 0 1 = po_ n (prt n b) 9 0 := by
  have h : n = 1 ∨ n = 2 ∨ n = 3 ∨ n = 4 := by omega
  have eb : ((b.toNat : Nat) : Int) = b := Int.toNat_of_nonneg h0
  rcases h with h | h | h | h <;> subst h
  · have hk : bx_K 1 = 1 := rfl
    have := rp_1 b.toNat (by omega)
    rw [eb] at this
    exact this
  · have hk : bx_K 2 = 3 := rfl
    have := rp_2 b.toNat (by omega)
    rw [eb] at this
    exact this
  · have hk : bx_K 3 = 15 := rfl
    have := rp_3 b.toNat (by omega)
    rw [eb] at this
    exact this
  · have hk : bx_K 4 = 105 := rfl
    have := rp_4 b.toNat (by omega)
    rw [eb] at this
    exact this
/-- all boxes -/
theorem pc_k {K : Int} : ∀ (d : Nat) (b x : Int), K - b < (d : Int) → b ≤ K → pc_ K (fun _ => 1) d b x = x + (K - b)
  | 0, b, x, h, hb => by omega
  | d + 1, b, x, h, hb => by
    rw [pc_]
    by_cases e : b < K
    · rw [if_pos e, pc_k d (b + 1) _ (by omega) (by omega)]
      omega
    · rw [if_neg e]
      omega

theorem qz_round {m s : Nat} {F : aq_F} {c : aq_C} {n p : Int} (hn1 : 1 ≤ n) (hn4 : n ≤ 4) (h0 : 0 ≤ p) (h1 : p < 2 * n) : am_E ac_X5_round (0, [vI n, vI p], [], aq_h m s F c) (aq_P m s F c (fun r => r = some (vI (rd_ n p)))) := by
  refine am_E.go (t2 := (1, [vI n, vI p], [vI p], aq_h m s F c)) rfl rfl ?_
  refine am_E.go (t2 := (2, [vI n, vI p], [vI n, vI p], aq_h m s F c)) rfl rfl ?_
  refine ae_icmp rfl (fun (q_1 : n ≤ p) => ?_) (fun (q_1 : p < n) => ?_)
  · refine am_E.go (t2 := (10, [vI n, vI p], [vI 3], aq_h m s F c)) rfl rfl ?_
    refine am_E.go (t2 := (11, [vI n, vI p], [vI n, vI 3], aq_h m s F c)) rfl rfl ?_
    refine ae_mul rfl (am_ri (by omega) (by omega)) ?_
    show am_E _ (12, [vI n, vI p], [vI (3 * n)], aq_h m s F c) _
    refine am_E.go (t2 := (13, [vI n, vI p], [vI 1, vI (3 * n)], aq_h m s F c)) rfl rfl ?_
    refine ae_sub rfl (am_ri (by omega) (by omega)) ?_
    show am_E _ (14, [vI n, vI p], [vI ((3 * n) - 1)], aq_h m s F c) _
    refine am_E.go (t2 := (15, [vI n, vI p], [vI p, vI ((3 * n) - 1)], aq_h m s F c)) rfl rfl ?_
    refine ae_sub rfl (am_ri (by omega) (by omega)) ?_
    show am_E _ (16, [vI n, vI p], [vI (((3 * n) - 1) - p)], aq_h m s F c) _
    refine am_E.ret rfl rfl ?_
    refine ⟨rfl, ?_⟩
    have e9 : rd_ n p = (((3 * n) - 1) - p) := by unfold rd_; first | rw [if_pos (by omega)] | rw [if_neg (by omega)]
    rw [e9]
  · refine am_E.go (t2 := (6, [vI n, vI p], [vI p], aq_h m s F c)) rfl rfl ?_
    refine am_E.go (t2 := (16, [vI n, vI p], [vI p], aq_h m s F c)) rfl rfl ?_
    refine am_E.ret rfl rfl ?_
    refine ⟨rfl, ?_⟩
    have e9 : rd_ n p = p := by unfold rd_; first | rw [if_pos (by omega)] | rw [if_neg (by omega)]
    rw [e9]

theorem qz_mplane_in {m s : Nat} {F : aq_F} {c : aq_C} {y : Nat} (hO : mo_0 m F y) {tbl : Int → Int} (hT : mo_T F y tbl) {n bb : Int} (hn1 : 1 ≤ n) (hn4 : n ≤ 4) (hb0 : 0 ≤ bb) (hb1 : bb < bx_K n) {xa : Int} (hxa : xa = 8 * (mo_f n + bb)) {p T T2 : Int} (h2 : 0 ≤ p) (h3 : p < 2 * n) : ∀ (d : Nat) (t : Int) (q : Int) (v7 : am_V) (v8 : am_V) (v9 : am_V) (v10 : am_V) (h0 : 0 ≤ q) (h1 : q ≤ 2 * n) (h4 : t = 0 ∨ t = 1) (ht : ri_ n (prt n bb) p d q t = T2) (hd : 2 * n - q < (d : Int)) (K0 : ∀ (t2 : Int) (q2 : Int) (v72 : am_V) (v82 : am_V) (v92 : am_V) (v102 : am_V) (ht2 : t2 = T2) (hb2 : t2 = 0 ∨ t2 = 1), am_E ac_X5_isPlane (116, [vR y, vI n, vI bb, vI xa, vI t2, vI p, vI q2, v72, v82, v92, v102], [], aq_h m s F c) (aq_P m s F c (fun r => r = some (vI T)))), am_E ac_X5_isPlane (23, [vR y, vI n, vI bb, vI xa, vI t, vI p, vI q, v7, v8, v9, v10], [], aq_h m s F c) (aq_P m s F c (fun r => r = some (vI T)))
  | 0, t, q, v7, v8, v9, v10, h0, h1, h4, ht, hd, K0 => by exfalso; omega
  | d + 1, t, q, v7, v8, v9, v10, h0, h1, h4, ht, hd, K0 => by
    obtain ⟨hm, hFo, hG5, hG6, hG7, hG8, hG9, hG10, hG11, hG12, hG13, hG14, hG15, hG16, hG17, hG18, hG19, hG20, hG21, hG22, hG23⟩ := hO
    obtain ⟨hT1, hTt⟩ := hT
    have hfs := mo_fs n
    have hfi := pr_fi hn1 hn4 hb0 hb1
    refine am_E.go (t2 := (25, [vR y, vI n, vI bb, vI xa, vI t, vI p, vI q, v7, v8, v9, v10], [vI q], aq_h m s F c)) rfl rfl ?_
    refine am_E.go (t2 := (26, [vR y, vI n, vI bb, vI xa, vI t, vI p, vI q, v7, v8, v9, v10], [vI 2, vI q], aq_h m s F c)) rfl rfl ?_
    refine am_E.go (t2 := (27, [vR y, vI n, vI bb, vI xa, vI t, vI p, vI q, v7, v8, v9, v10], [vI n, vI 2, vI q], aq_h m s F c)) rfl rfl ?_
    refine ae_mul rfl (am_ri (by omega) (by omega)) ?_
    show am_E _ (28, [vR y, vI n, vI bb, vI xa, vI t, vI p, vI q, v7, v8, v9, v10], [vI (2 * n), vI q], aq_h m s F c) _
    refine ae_icmp rfl (fun (q_1 : (2 * n) ≤ q) => ?_) (fun (q_1 : q < (2 * n)) => ?_)
    · exact K0 t q (v7) (v8) (v9) (v10) (by rw [← ht, ri_, if_neg (by omega)]) (by omega)
    · refine am_E.go (t2 := (32, [vR y, vI n, vI bb, vI xa, vI t, vI p, vI q, v7, v8, v9, v10], [vI n], aq_h m s F c)) rfl rfl ?_
      refine am_E.go (t2 := (34, [vR y, vI n, vI bb, vI xa, vI t, vI p, vI q, v7, v8, v9, v10], [vI p, vI n], aq_h m s F c)) rfl rfl ?_
      refine am_E.call rfl rfl rfl (Nat.le_of_ble_eq_true rfl) (qz_round hn1 hn4 (by omega) (by omega)) ?_
      rintro r5 h5 ⟨rfl, rfl⟩
      show am_E _ (37, [vR y, vI n, vI bb, vI xa, vI t, vI p, vI q, v7, v8, v9, v10], [vI (rd_ n p)], aq_h m s F c) _
      refine am_E.go (t2 := (39, [vR y, vI n, vI bb, vI xa, vI t, vI p, vI q, vI (rd_ n p), v8, v9, v10], [], aq_h m s F c)) rfl rfl ?_
      refine am_E.go (t2 := (40, [vR y, vI n, vI bb, vI xa, vI t, vI p, vI q, vI (rd_ n p), v8, v9, v10], [vI n], aq_h m s F c)) rfl rfl ?_
      refine am_E.go (t2 := (41, [vR y, vI n, vI bb, vI xa, vI t, vI p, vI q, vI (rd_ n p), v8, v9, v10], [vR y, vI n], aq_h m s F c)) rfl rfl ?_
      refine aq_gf (v := vR (y + 1)) rfl (by omega) hFo (by decide) rfl ?_
      show am_E _ (44, [vR y, vI n, vI bb, vI xa, vI t, vI p, vI q, vI (rd_ n p), v8, v9, v10], [vR (y + 1), vI n], aq_h m s F c) _
      refine am_E.go (t2 := (45, [vR y, vI n, vI bb, vI xa, vI t, vI p, vI q, vI (rd_ n p), v8, v9, v10], [vI xa, vR (y + 1), vI n], aq_h m s F c)) rfl rfl ?_
      refine am_E.go (t2 := (47, [vR y, vI n, vI bb, vI xa, vI t, vI p, vI q, vI (rd_ n p), v8, v9, v10], [vI p, vI xa, vR (y + 1), vI n], aq_h m s F c)) rfl rfl ?_
      refine ae_add rfl (am_ri (by omega) (by omega)) ?_
      show am_E _ (48, [vR y, vI n, vI bb, vI xa, vI t, vI p, vI q, vI (rd_ n p), v8, v9, v10], [vI (xa + p), vR (y + 1), vI n], aq_h m s F c) _
      have e_t := hTt n bb p (by omega) (by omega) (by omega) (by omega) (by omega) (by omega)
      have e_fg_2 := hfi p (by omega) (by omega)
      refine aq_alt (ok := fun k => k == 0) rfl rfl (by omega) hT1 rfl (by omega) (by omega) ?_
      rw [show tbl (xa + p) = prt n bb p by rw [hxa]; exact e_t]
      show am_E _ (49, [vR y, vI n, vI bb, vI xa, vI t, vI p, vI q, vI (rd_ n p), v8, v9, v10], [vI (prt n bb p), vI n], aq_h m s F c) _
      refine am_E.call rfl rfl rfl (Nat.le_of_ble_eq_true rfl) (qz_round hn1 hn4 (by omega) (by omega)) ?_
      rintro r5 h5 ⟨rfl, rfl⟩
      show am_E _ (52, [vR y, vI n, vI bb, vI xa, vI t, vI p, vI q, vI (rd_ n p), v8, v9, v10], [vI (rd_ n (prt n bb p))], aq_h m s F c) _
      refine am_E.go (t2 := (54, [vR y, vI n, vI bb, vI xa, vI t, vI p, vI q, vI (rd_ n p), vI (rd_ n (prt n bb p)), v9, v10], [], aq_h m s F c)) rfl rfl ?_
      refine am_E.go (t2 := (55, [vR y, vI n, vI bb, vI xa, vI t, vI p, vI q, vI (rd_ n p), vI (rd_ n (prt n bb p)), v9, v10], [vI n], aq_h m s F c)) rfl rfl ?_
      refine am_E.go (t2 := (57, [vR y, vI n, vI bb, vI xa, vI t, vI p, vI q, vI (rd_ n p), vI (rd_ n (prt n bb p)), v9, v10], [vI q, vI n], aq_h m s F c)) rfl rfl ?_
      refine am_E.call rfl rfl rfl (Nat.le_of_ble_eq_true rfl) (qz_round hn1 hn4 (by omega) (by omega)) ?_
      rintro r5 h5 ⟨rfl, rfl⟩
      show am_E _ (60, [vR y, vI n, vI bb, vI xa, vI t, vI p, vI q, vI (rd_ n p), vI (rd_ n (prt n bb p)), v9, v10], [vI (rd_ n q)], aq_h m s F c) _
      refine am_E.go (t2 := (62, [vR y, vI n, vI bb, vI xa, vI t, vI p, vI q, vI (rd_ n p), vI (rd_ n (prt n bb p)), vI (rd_ n q), v10], [], aq_h m s F c)) rfl rfl ?_
      refine am_E.go (t2 := (63, [vR y, vI n, vI bb, vI xa, vI t, vI p, vI q, vI (rd_ n p), vI (rd_ n (prt n bb p)), vI (rd_ n q), v10], [vI n], aq_h m s F c)) rfl rfl ?_
      refine am_E.go (t2 := (64, [vR y, vI n, vI bb, vI xa, vI t, vI p, vI q, vI (rd_ n p), vI (rd_ n (prt n bb p)), vI (rd_ n q), v10], [vR y, vI n], aq_h m s F c)) rfl rfl ?_
      refine aq_gf (v := vR (y + 1)) rfl (by omega) hFo (by decide) rfl ?_
      show am_E _ (67, [vR y, vI n, vI bb, vI xa, vI t, vI p, vI q, vI (rd_ n p), vI (rd_ n (prt n bb p)), vI (rd_ n q), v10], [vR (y + 1), vI n], aq_h m s F c) _
      refine am_E.go (t2 := (68, [vR y, vI n, vI bb, vI xa, vI t, vI p, vI q, vI (rd_ n p), vI (rd_ n (prt n bb p)), vI (rd_ n q), v10], [vI xa, vR (y + 1), vI n], aq_h m s F c)) rfl rfl ?_
      refine am_E.go (t2 := (70, [vR y, vI n, vI bb, vI xa, vI t, vI p, vI q, vI (rd_ n p), vI (rd_ n (prt n bb p)), vI (rd_ n q), v10], [vI q, vI xa, vR (y + 1), vI n], aq_h m s F c)) rfl rfl ?_
      refine ae_add rfl (am_ri (by omega) (by omega)) ?_
      show am_E _ (71, [vR y, vI n, vI bb, vI xa, vI t, vI p, vI q, vI (rd_ n p), vI (rd_ n (prt n bb p)), vI (rd_ n q), v10], [vI (xa + q), vR (y + 1), vI n], aq_h m s F c) _
      have e_t := hTt n bb q (by omega) (by omega) (by omega) (by omega) (by omega) (by omega)
      have e_fg_3 := hfi q (by omega) (by omega)
      refine aq_alt (ok := fun k => k == 0) rfl rfl (by omega) hT1 rfl (by omega) (by omega) ?_
      rw [show tbl (xa + q) = prt n bb q by rw [hxa]; exact e_t]
      show am_E _ (72, [vR y, vI n, vI bb, vI xa, vI t, vI p, vI q, vI (rd_ n p), vI (rd_ n (prt n bb p)), vI (rd_ n q), v10], [vI (prt n bb q), vI n], aq_h m s F c) _
      refine am_E.call rfl rfl rfl (Nat.le_of_ble_eq_true rfl) (qz_round hn1 hn4 (by omega) (by omega)) ?_
      rintro r5 h5 ⟨rfl, rfl⟩
      show am_E _ (75, [vR y, vI n, vI bb, vI xa, vI t, vI p, vI q, vI (rd_ n p), vI (rd_ n (prt n bb p)), vI (rd_ n q), v10], [vI (rd_ n (prt n bb q))], aq_h m s F c) _
      refine am_E.go (t2 := (77, [vR y, vI n, vI bb, vI xa, vI t, vI p, vI q, vI (rd_ n p), vI (rd_ n (prt n bb p)), vI (rd_ n q), vI (rd_ n (prt n bb q))], [], aq_h m s F c)) rfl rfl ?_
      refine am_E.go (t2 := (79, [vR y, vI n, vI bb, vI xa, vI t, vI p, vI q, vI (rd_ n p), vI (rd_ n (prt n bb p)), vI (rd_ n q), vI (rd_ n (prt n bb q))], [vI t], aq_h m s F c)) rfl rfl ?_
      refine ae_if0 rfl (fun (q_4 : t = 0) => ?_) (fun (q_4 : t ≠ 0) => ?_)
      · refine am_E.go (t2 := (108, [vR y, vI n, vI bb, vI xa, vI t, vI p, vI q, vI (rd_ n p), vI (rd_ n (prt n bb p)), vI (rd_ n q), vI (rd_ n (prt n bb q))], [vI 0], aq_h m s F c)) rfl rfl ?_
        refine am_E.go (t2 := (110, [vR y, vI n, vI bb, vI xa, vI 0, vI p, vI q, vI (rd_ n p), vI (rd_ n (prt n bb p)), vI (rd_ n q), vI (rd_ n (prt n bb q))], [], aq_h m s F c)) rfl rfl ?_
        refine ae_iinc rfl rfl (am_ri (by omega) (by omega)) ?_
        show am_E _ (113, [vR y, vI n, vI bb, vI xa, vI 0, vI p, vI (q + 1), vI (rd_ n p), vI (rd_ n (prt n bb p)), vI (rd_ n q), vI (rd_ n (prt n bb q))], [], aq_h m s F c) _
        refine am_E.go (t2 := (23, [vR y, vI n, vI bb, vI xa, vI 0, vI p, vI (q + 1), vI (rd_ n p), vI (rd_ n (prt n bb p)), vI (rd_ n q), vI (rd_ n (prt n bb q))], [], aq_h m s F c)) rfl rfl ?_
        exact qz_mplane_in ⟨hm, hFo, hG5, hG6, hG7, hG8, hG9, hG10, hG11, hG12, hG13, hG14, hG15, hG16, hG17, hG18, hG19, hG20, hG21, hG22, hG23⟩ ⟨hT1, hTt⟩ hn1 hn4 hb0 hb1 hxa h2 h3 d 0 (q + 1) (vI (rd_ n p)) (vI (rd_ n (prt n bb p))) (vI (rd_ n q)) (vI (rd_ n (prt n bb q))) (by omega) (by omega) (by omega) (by rw [← ht, ri_, if_pos (by omega)]; first | rw [if_pos (by omega)] | rw [if_neg (by omega)]) (by omega) K0
      · refine am_E.go (t2 := (84, [vR y, vI n, vI bb, vI xa, vI t, vI p, vI q, vI (rd_ n p), vI (rd_ n (prt n bb p)), vI (rd_ n q), vI (rd_ n (prt n bb q))], [vI (rd_ n p)], aq_h m s F c)) rfl rfl ?_
        refine am_E.go (t2 := (86, [vR y, vI n, vI bb, vI xa, vI t, vI p, vI q, vI (rd_ n p), vI (rd_ n (prt n bb p)), vI (rd_ n q), vI (rd_ n (prt n bb q))], [vI (rd_ n q), vI (rd_ n p)], aq_h m s F c)) rfl rfl ?_
        refine ae_icmp rfl (fun (q_5 : (rd_ n q) ≤ (rd_ n p)) => ?_) (fun (q_5 : (rd_ n p) < (rd_ n q)) => ?_)
        · refine am_E.go (t2 := (104, [vR y, vI n, vI bb, vI xa, vI t, vI p, vI q, vI (rd_ n p), vI (rd_ n (prt n bb p)), vI (rd_ n q), vI (rd_ n (prt n bb q))], [vI 1], aq_h m s F c)) rfl rfl ?_
          refine am_E.go (t2 := (108, [vR y, vI n, vI bb, vI xa, vI t, vI p, vI q, vI (rd_ n p), vI (rd_ n (prt n bb p)), vI (rd_ n q), vI (rd_ n (prt n bb q))], [vI 1], aq_h m s F c)) rfl rfl ?_
          refine am_E.go (t2 := (110, [vR y, vI n, vI bb, vI xa, vI 1, vI p, vI q, vI (rd_ n p), vI (rd_ n (prt n bb p)), vI (rd_ n q), vI (rd_ n (prt n bb q))], [], aq_h m s F c)) rfl rfl ?_
          refine ae_iinc rfl rfl (am_ri (by omega) (by omega)) ?_
          show am_E _ (113, [vR y, vI n, vI bb, vI xa, vI 1, vI p, vI (q + 1), vI (rd_ n p), vI (rd_ n (prt n bb p)), vI (rd_ n q), vI (rd_ n (prt n bb q))], [], aq_h m s F c) _
          refine am_E.go (t2 := (23, [vR y, vI n, vI bb, vI xa, vI 1, vI p, vI (q + 1), vI (rd_ n p), vI (rd_ n (prt n bb p)), vI (rd_ n q), vI (rd_ n (prt n bb q))], [], aq_h m s F c)) rfl rfl ?_
          exact qz_mplane_in ⟨hm, hFo, hG5, hG6, hG7, hG8, hG9, hG10, hG11, hG12, hG13, hG14, hG15, hG16, hG17, hG18, hG19, hG20, hG21, hG22, hG23⟩ ⟨hT1, hTt⟩ hn1 hn4 hb0 hb1 hxa h2 h3 d 1 (q + 1) (vI (rd_ n p)) (vI (rd_ n (prt n bb p))) (vI (rd_ n q)) (vI (rd_ n (prt n bb q))) (by omega) (by omega) (by omega) (by rw [← ht, ri_, if_pos (by omega)]; first | rw [if_pos (by omega)] | rw [if_neg (by omega)]) (by omega) K0
        · refine am_E.go (t2 := (91, [vR y, vI n, vI bb, vI xa, vI t, vI p, vI q, vI (rd_ n p), vI (rd_ n (prt n bb p)), vI (rd_ n q), vI (rd_ n (prt n bb q))], [vI (rd_ n q)], aq_h m s F c)) rfl rfl ?_
          refine am_E.go (t2 := (93, [vR y, vI n, vI bb, vI xa, vI t, vI p, vI q, vI (rd_ n p), vI (rd_ n (prt n bb p)), vI (rd_ n q), vI (rd_ n (prt n bb q))], [vI (rd_ n (prt n bb p)), vI (rd_ n q)], aq_h m s F c)) rfl rfl ?_
          refine ae_icmp rfl (fun (q_6 : (rd_ n (prt n bb p)) ≤ (rd_ n q)) => ?_) (fun (q_6 : (rd_ n q) < (rd_ n (prt n bb p))) => ?_)
          · refine am_E.go (t2 := (104, [vR y, vI n, vI bb, vI xa, vI t, vI p, vI q, vI (rd_ n p), vI (rd_ n (prt n bb p)), vI (rd_ n q), vI (rd_ n (prt n bb q))], [vI 1], aq_h m s F c)) rfl rfl ?_
            refine am_E.go (t2 := (108, [vR y, vI n, vI bb, vI xa, vI t, vI p, vI q, vI (rd_ n p), vI (rd_ n (prt n bb p)), vI (rd_ n q), vI (rd_ n (prt n bb q))], [vI 1], aq_h m s F c)) rfl rfl ?_
            refine am_E.go (t2 := (110, [vR y, vI n, vI bb, vI xa, vI 1, vI p, vI q, vI (rd_ n p), vI (rd_ n (prt n bb p)), vI (rd_ n q), vI (rd_ n (prt n bb q))], [], aq_h m s F c)) rfl rfl ?_
            refine ae_iinc rfl rfl (am_ri (by omega) (by omega)) ?_
            show am_E _ (113, [vR y, vI n, vI bb, vI xa, vI 1, vI p, vI (q + 1), vI (rd_ n p), vI (rd_ n (prt n bb p)), vI (rd_ n q), vI (rd_ n (prt n bb q))], [], aq_h m s F c) _
            refine am_E.go (t2 := (23, [vR y, vI n, vI bb, vI xa, vI 1, vI p, vI (q + 1), vI (rd_ n p), vI (rd_ n (prt n bb p)), vI (rd_ n q), vI (rd_ n (prt n bb q))], [], aq_h m s F c)) rfl rfl ?_
            exact qz_mplane_in ⟨hm, hFo, hG5, hG6, hG7, hG8, hG9, hG10, hG11, hG12, hG13, hG14, hG15, hG16, hG17, hG18, hG19, hG20, hG21, hG22, hG23⟩ ⟨hT1, hTt⟩ hn1 hn4 hb0 hb1 hxa h2 h3 d 1 (q + 1) (vI (rd_ n p)) (vI (rd_ n (prt n bb p))) (vI (rd_ n q)) (vI (rd_ n (prt n bb q))) (by omega) (by omega) (by omega) (by rw [← ht, ri_, if_pos (by omega)]; first | rw [if_pos (by omega)] | rw [if_neg (by omega)]) (by omega) K0
          · refine am_E.go (t2 := (98, [vR y, vI n, vI bb, vI xa, vI t, vI p, vI q, vI (rd_ n p), vI (rd_ n (prt n bb p)), vI (rd_ n q), vI (rd_ n (prt n bb q))], [vI (rd_ n (prt n bb p))], aq_h m s F c)) rfl rfl ?_
            refine am_E.go (t2 := (100, [vR y, vI n, vI bb, vI xa, vI t, vI p, vI q, vI (rd_ n p), vI (rd_ n (prt n bb p)), vI (rd_ n q), vI (rd_ n (prt n bb q))], [vI (rd_ n (prt n bb q)), vI (rd_ n (prt n bb p))], aq_h m s F c)) rfl rfl ?_
            refine ae_icmp rfl (fun (q_7 : (rd_ n (prt n bb p)) < (rd_ n (prt n bb q))) => ?_) (fun (q_7 : (rd_ n (prt n bb q)) ≤ (rd_ n (prt n bb p))) => ?_)
            · refine am_E.go (t2 := (108, [vR y, vI n, vI bb, vI xa, vI t, vI p, vI q, vI (rd_ n p), vI (rd_ n (prt n bb p)), vI (rd_ n q), vI (rd_ n (prt n bb q))], [vI 0], aq_h m s F c)) rfl rfl ?_
              refine am_E.go (t2 := (110, [vR y, vI n, vI bb, vI xa, vI 0, vI p, vI q, vI (rd_ n p), vI (rd_ n (prt n bb p)), vI (rd_ n q), vI (rd_ n (prt n bb q))], [], aq_h m s F c)) rfl rfl ?_
              refine ae_iinc rfl rfl (am_ri (by omega) (by omega)) ?_
              show am_E _ (113, [vR y, vI n, vI bb, vI xa, vI 0, vI p, vI (q + 1), vI (rd_ n p), vI (rd_ n (prt n bb p)), vI (rd_ n q), vI (rd_ n (prt n bb q))], [], aq_h m s F c) _
              refine am_E.go (t2 := (23, [vR y, vI n, vI bb, vI xa, vI 0, vI p, vI (q + 1), vI (rd_ n p), vI (rd_ n (prt n bb p)), vI (rd_ n q), vI (rd_ n (prt n bb q))], [], aq_h m s F c)) rfl rfl ?_
              exact qz_mplane_in ⟨hm, hFo, hG5, hG6, hG7, hG8, hG9, hG10, hG11, hG12, hG13, hG14, hG15, hG16, hG17, hG18, hG19, hG20, hG21, hG22, hG23⟩ ⟨hT1, hTt⟩ hn1 hn4 hb0 hb1 hxa h2 h3 d 0 (q + 1) (vI (rd_ n p)) (vI (rd_ n (prt n bb p))) (vI (rd_ n q)) (vI (rd_ n (prt n bb q))) (by omega) (by omega) (by omega) (by rw [← ht, ri_, if_pos (by omega)]; first | rw [if_pos (by omega)] | rw [if_neg (by omega)]) (by omega) K0
            · refine am_E.go (t2 := (104, [vR y, vI n, vI bb, vI xa, vI t, vI p, vI q, vI (rd_ n p), vI (rd_ n (prt n bb p)), vI (rd_ n q), vI (rd_ n (prt n bb q))], [vI 1], aq_h m s F c)) rfl rfl ?_
              refine am_E.go (t2 := (108, [vR y, vI n, vI bb, vI xa, vI t, vI p, vI q, vI (rd_ n p), vI (rd_ n (prt n bb p)), vI (rd_ n q), vI (rd_ n (prt n bb q))], [vI 1], aq_h m s F c)) rfl rfl ?_
              refine am_E.go (t2 := (110, [vR y, vI n, vI bb, vI xa, vI 1, vI p, vI q, vI (rd_ n p), vI (rd_ n (prt n bb p)), vI (rd_ n q), vI (rd_ n (prt n bb q))], [], aq_h m s F c)) rfl rfl ?_
              refine ae_iinc rfl rfl (am_ri (by omega) (by omega)) ?_
              show am_E _ (113, [vR y, vI n, vI bb, vI xa, vI 1, vI p, vI (q + 1), vI (rd_ n p), vI (rd_ n (prt n bb p)), vI (rd_ n q), vI (rd_ n (prt n bb q))], [], aq_h m s F c) _
              refine am_E.go (t2 := (23, [vR y, vI n, vI bb, vI xa, vI 1, vI p, vI (q + 1), vI (rd_ n p), vI (rd_ n (prt n bb p)), vI (rd_ n q), vI (rd_ n (prt n bb q))], [], aq_h m s F c)) rfl rfl ?_
              exact qz_mplane_in ⟨hm, hFo, hG5, hG6, hG7, hG8, hG9, hG10, hG11, hG12, hG13, hG14, hG15, hG16, hG17, hG18, hG19, hG20, hG21, hG22, hG23⟩ ⟨hT1, hTt⟩ hn1 hn4 hb0 hb1 hxa h2 h3 d 1 (q + 1) (vI (rd_ n p)) (vI (rd_ n (prt n bb p))) (vI (rd_ n q)) (vI (rd_ n (prt n bb q))) (by omega) (by omega) (by omega) (by rw [← ht, ri_, if_pos (by omega)]; first | rw [if_pos (by omega)] | rw [if_neg (by omega)]) (by omega) K0

theorem qz_mplane_out {m s : Nat} {F : aq_F} {c : aq_C} {y : Nat} (hO : mo_0 m F y) {tbl : Int → Int} (hT : mo_T F y tbl) {n bb : Int} (hn1 : 1 ≤ n) (hn4 : n ≤ 4) (hb0 : 0 ≤ bb) (hb1 : bb < bx_K n) {xa : Int} (hxa : xa = 8 * (mo_f n + bb)) {T : Int} : ∀ (d : Nat) (t : Int) (p : Int) (v6 : am_V) (v7 : am_V) (v8 : am_V) (v9 : am_V) (v10 : am_V) (h0 : 0 ≤ p) (h1 : p ≤ 2 * n) (h4 : t = 0 ∨ t = 1) (ht : ro_ n (prt n bb) d p t = T) (hd : 2 * n - p < (d : Int)), am_E ac_X5_isPlane (12, [vR y, vI n, vI bb, vI xa, vI t, vI p, v6, v7, v8, v9, v10], [], aq_h m s F c) (aq_P m s F c (fun r => r = some (vI T)))
  | 0, t, p, v6, v7, v8, v9, v10, h0, h1, h4, ht, hd => by exfalso; omega
  | d + 1, t, p, v6, v7, v8, v9, v10, h0, h1, h4, ht, hd => by
    obtain ⟨hm, hFo, hG5, hG6, hG7, hG8, hG9, hG10, hG11, hG12, hG13, hG14, hG15, hG16, hG17, hG18, hG19, hG20, hG21, hG22, hG23⟩ := hO
    obtain ⟨hT1, hTt⟩ := hT
    have hfs := mo_fs n
    have hfi := pr_fi hn1 hn4 hb0 hb1
    refine am_E.go (t2 := (14, [vR y, vI n, vI bb, vI xa, vI t, vI p, v6, v7, v8, v9, v10], [vI p], aq_h m s F c)) rfl rfl ?_
    refine am_E.go (t2 := (15, [vR y, vI n, vI bb, vI xa, vI t, vI p, v6, v7, v8, v9, v10], [vI 2, vI p], aq_h m s F c)) rfl rfl ?_
    refine am_E.go (t2 := (16, [vR y, vI n, vI bb, vI xa, vI t, vI p, v6, v7, v8, v9, v10], [vI n, vI 2, vI p], aq_h m s F c)) rfl rfl ?_
    refine ae_mul rfl (am_ri (by omega) (by omega)) ?_
    show am_E _ (17, [vR y, vI n, vI bb, vI xa, vI t, vI p, v6, v7, v8, v9, v10], [vI (2 * n), vI p], aq_h m s F c) _
    refine ae_icmp rfl (fun (q_1 : (2 * n) ≤ p) => ?_) (fun (q_1 : p < (2 * n)) => ?_)
    · refine am_E.go (t2 := (124, [vR y, vI n, vI bb, vI xa, vI t, vI p, v6, v7, v8, v9, v10], [vI t], aq_h m s F c)) rfl rfl ?_
      refine ae_retb rfl (by omega) ?_
      refine ⟨rfl, ?_⟩
      rw [← ht, ro_, if_neg (by omega)]
    · refine am_E.go (t2 := (21, [vR y, vI n, vI bb, vI xa, vI t, vI p, v6, v7, v8, v9, v10], [vI 0], aq_h m s F c)) rfl rfl ?_
      refine am_E.go (t2 := (23, [vR y, vI n, vI bb, vI xa, vI t, vI p, vI 0, v7, v8, v9, v10], [], aq_h m s F c)) rfl rfl ?_
      refine qz_mplane_in ⟨hm, hFo, hG5, hG6, hG7, hG8, hG9, hG10, hG11, hG12, hG13, hG14, hG15, hG16, hG17, hG18, hG19, hG20, hG21, hG22, hG23⟩ ⟨hT1, hTt⟩ hn1 hn4 hb0 hb1 hxa (by omega) (by omega) 9 t 0 (v7) (v8) (v9) (v10) (by omega) (by omega) (by omega) rfl (by omega) ?_
      · intro t2_23 q2_23 v72_23 v82_23 v92_23 v102_23 ht2_23 hb2_23
        refine ae_iinc rfl rfl (am_ri (by omega) (by omega)) ?_
        show am_E _ (119, [vR y, vI n, vI bb, vI xa, vI t2_23, vI (p + 1), vI q2_23, v72_23, v82_23, v92_23, v102_23], [], aq_h m s F c) _
        refine am_E.go (t2 := (12, [vR y, vI n, vI bb, vI xa, vI t2_23, vI (p + 1), vI q2_23, v72_23, v82_23, v92_23, v102_23], [], aq_h m s F c)) rfl rfl ?_
        exact qz_mplane_out ⟨hm, hFo, hG5, hG6, hG7, hG8, hG9, hG10, hG11, hG12, hG13, hG14, hG15, hG16, hG17, hG18, hG19, hG20, hG21, hG22, hG23⟩ ⟨hT1, hTt⟩ hn1 hn4 hb0 hb1 hxa d t2_23 (p + 1) (vI q2_23) (v72_23) (v82_23) (v92_23) (v102_23) (by omega) (by omega) (by omega) (by rw [← ht, ro_, if_pos (by omega), ht2_23]) (by omega)

theorem qz_misPlane {m s : Nat} {F : aq_F} {c : aq_C} {y : Nat} (hO : mo_0 m F y) {tbl : Int → Int} (hT : mo_T F y tbl) {n bb : Int} (hn1 : 1 ≤ n) (hn4 : n ≤ 4) (hb0 : 0 ≤ bb) (hb1 : bb < bx_K n) : am_E ac_X5_isPlane (0, [vR y, vI n, vI bb, vU, vU, vU, vU, vU, vU, vU, vU], [], aq_h m s F c) (aq_P m s F c (fun r => r = some (vI (ro_ n (prt n bb) 9 0 1)))) := by
  obtain ⟨hm, hFo, hG5, hG6, hG7, hG8, hG9, hG10, hG11, hG12, hG13, hG14, hG15, hG16, hG17, hG18, hG19, hG20, hG21, hG22, hG23⟩ := hO
  obtain ⟨hT1, hTt⟩ := hT
  have hfs := mo_fs n
  have hfi := pr_fi hn1 hn4 hb0 hb1
  refine am_E.go (t2 := (1, [vR y, vI n, vI bb, vU, vU, vU, vU, vU, vU, vU, vU], [vI n], aq_h m s F c)) rfl rfl ?_
  refine am_E.go (t2 := (2, [vR y, vI n, vI bb, vU, vU, vU, vU, vU, vU, vU, vU], [vI bb, vI n], aq_h m s F c)) rfl rfl ?_
  refine am_E.call rfl rfl rfl (Nat.le_of_ble_eq_true rfl) (qm_at (by omega) (by omega)) ?_
  rintro r5 h5 ⟨rfl, xa, rfl, hxa⟩
  show am_E _ (5, [vR y, vI n, vI bb, vU, vU, vU, vU, vU, vU, vU, vU], [vI xa], aq_h m s F c) _
  refine am_E.go (t2 := (6, [vR y, vI n, vI bb, vI xa, vU, vU, vU, vU, vU, vU, vU], [], aq_h m s F c)) rfl rfl ?_
  refine am_E.go (t2 := (7, [vR y, vI n, vI bb, vI xa, vU, vU, vU, vU, vU, vU, vU], [vI 1], aq_h m s F c)) rfl rfl ?_
  refine am_E.go (t2 := (9, [vR y, vI n, vI bb, vI xa, vI 1, vU, vU, vU, vU, vU, vU], [], aq_h m s F c)) rfl rfl ?_
  refine am_E.go (t2 := (10, [vR y, vI n, vI bb, vI xa, vI 1, vU, vU, vU, vU, vU, vU], [vI 0], aq_h m s F c)) rfl rfl ?_
  refine am_E.go (t2 := (12, [vR y, vI n, vI bb, vI xa, vI 1, vI 0, vU, vU, vU, vU, vU], [], aq_h m s F c)) rfl rfl ?_
  exact qz_mplane_out ⟨hm, hFo, hG5, hG6, hG7, hG8, hG9, hG10, hG11, hG12, hG13, hG14, hG15, hG16, hG17, hG18, hG19, hG20, hG21, hG22, hG23⟩ ⟨hT1, hTt⟩ hn1 hn4 hb0 hb1 hxa 9 1 0 (vU) (vU) (vU) (vU) (vU) (by omega) (by omega) (by omega) rfl (by omega)

theorem qz_mmany_l {m s : Nat} {F : aq_F} {c : aq_C} {y : Nat} (hI : mo_I y c) (hO : mo_0 m F y) {tbl : Int → Int} (hT : mo_T F y tbl) {n q : Int} (hn1 : 1 ≤ n) (hn4 : n ≤ 4) {T : Int} : ∀ (d : Nat) (x : Int) (bb : Int) (h0 : 0 ≤ bb) (h1 : bb ≤ bx_K n) (h2 : 0 ≤ x) (h3 : x ≤ bb) (ht : pc_ (bx_K n) (fun b => if q = 0 then 1 else po_ n (prt n b) 9 0) d bb x = T) (hd : bx_K n - bb < (d : Int)), am_E ac_X5_many (24, [vR y, vI n, vI q, vI x, vI bb], [], aq_h m s F c) (aq_Z m s F (fun a => y ≤ a ∧ a < y + 24) c (fun r d => r = some (vI T) ∧ mo_I y d))
  | 0, x, bb, h0, h1, h2, h3, ht, hd => by exfalso; omega
  | d + 1, x, bb, h0, h1, h2, h3, ht, hd => by
    obtain ⟨hm, hFo, hG5, hG6, hG7, hG8, hG9, hG10, hG11, hG12, hG13, hG14, hG15, hG16, hG17, hG18, hG19, hG20, hG21, hG22, hG23⟩ := hO
    obtain ⟨hT1, hTt⟩ := hT
    have hfs := mo_fs n
    refine am_E.go (t2 := (26, [vR y, vI n, vI q, vI x, vI bb], [vI bb], aq_h m s F c)) rfl rfl ?_
    refine am_E.go (t2 := (27, [vR y, vI n, vI q, vI x, vI bb], [vI n, vI bb], aq_h m s F c)) rfl rfl ?_
    refine am_E.call rfl rfl rfl (Nat.le_of_ble_eq_true rfl) (qm_boxes) ?_
    rintro r5 h5 ⟨rfl, v_1, rfl, hv_1⟩
    show am_E _ (30, [vR y, vI n, vI q, vI x, vI bb], [vI v_1, vI bb], aq_h m s F c) _
    refine ae_icmp rfl (fun (q_2 : v_1 ≤ bb) => ?_) (fun (q_2 : bb < v_1) => ?_)
    · refine am_E.go (t2 := (62, [vR y, vI n, vI q, vI x, vI bb], [vI x], aq_h m s F c)) rfl rfl ?_
      refine am_E.ret rfl rfl ?_
      refine ⟨_, rfl, aq_sm0, ?_, hI⟩
      rw [← ht, pc_, if_neg (by omega)]
    · refine am_E.go (t2 := (34, [vR y, vI n, vI q, vI x, vI bb], [vI x], aq_h m s F c)) rfl rfl ?_
      refine am_E.go (t2 := (35, [vR y, vI n, vI q, vI x, vI bb], [vI q, vI x], aq_h m s F c)) rfl rfl ?_
      refine ae_if0 rfl (fun (q_3 : q = 0) => ?_) (fun (q_3 : q ≠ 0) => ?_)
      · refine am_E.go (t2 := (49, [vR y, vI n, vI q, vI x, vI bb], [vI 1, vI x], aq_h m s F c)) rfl rfl ?_
        refine am_E.go (t2 := (53, [vR y, vI n, vI q, vI x, vI bb], [vI 1, vI x], aq_h m s F c)) rfl rfl ?_
        refine ae_add rfl (am_ri (by omega) (by omega)) ?_
        show am_E _ (54, [vR y, vI n, vI q, vI x, vI bb], [vI (x + 1)], aq_h m s F c) _
        refine am_E.go (t2 := (55, [vR y, vI n, vI q, vI (x + 1), vI bb], [], aq_h m s F c)) rfl rfl ?_
        refine ae_iinc rfl rfl (am_ri (by omega) (by omega)) ?_
        show am_E _ (58, [vR y, vI n, vI q, vI (x + 1), vI (bb + 1)], [], aq_h m s F c) _
        refine am_E.go (t2 := (24, [vR y, vI n, vI q, vI (x + 1), vI (bb + 1)], [], aq_h m s F c)) rfl rfl ?_
        exact qz_mmany_l hI ⟨hm, hFo, hG5, hG6, hG7, hG8, hG9, hG10, hG11, hG12, hG13, hG14, hG15, hG16, hG17, hG18, hG19, hG20, hG21, hG22, hG23⟩ ⟨hT1, hTt⟩ (by omega) (by omega) d (x + 1) (bb + 1) (by omega) (by omega) (by omega) (by omega) (by rw [← ht, pc_, if_pos (by omega)]; first | rw [if_pos (by omega)] | (rw [if_neg (by omega)]; congr 1; omega)) (by omega)
      · refine am_E.go (t2 := (39, [vR y, vI n, vI q, vI x, vI bb], [vR y, vI x], aq_h m s F c)) rfl rfl ?_
        refine am_E.go (t2 := (40, [vR y, vI n, vI q, vI x, vI bb], [vI n, vR y, vI x], aq_h m s F c)) rfl rfl ?_
        refine am_E.go (t2 := (42, [vR y, vI n, vI q, vI x, vI bb], [vI bb, vI n, vR y, vI x], aq_h m s F c)) rfl rfl ?_
        refine aq_callv (y := 3) (as2 := [vI n, vI bb]) (rest := [vI x]) rfl rfl (by decide) (Nat.le_of_ble_eq_true rfl) rfl rfl (Nat.le_of_ble_eq_true rfl) (by omega) hFo rfl (Nat.le_of_ble_eq_true rfl) (qz_misPlane ⟨hm, hFo, hG5, hG6, hG7, hG8, hG9, hG10, hG11, hG12, hG13, hG14, hG15, hG16, hG17, hG18, hG19, hG20, hG21, hG22, hG23⟩ ⟨hT1, hTt⟩ (by omega) (by omega) (by omega) (by omega)) ?_
        rintro r5 h5 ⟨rfl, rfl⟩
        show am_E _ (45, [vR y, vI n, vI q, vI x, vI bb], [vI (ro_ n (prt n bb) 9 0 1), vI x], aq_h m s F c) _
        have hpo := ro_b (n := n) (f := prt n bb) 9 0 1 (Or.inr rfl)
        have hrp := rp_n (n := n) (b := bb) (by omega) (by omega) (by omega) (by omega)
        refine ae_if0 rfl (fun (q_4 : (ro_ n (prt n bb) 9 0 1) = 0) => ?_) (fun (q_4 : (ro_ n (prt n bb) 9 0 1) ≠ 0) => ?_)
        · refine am_E.go (t2 := (53, [vR y, vI n, vI q, vI x, vI bb], [vI 0, vI x], aq_h m s F c)) rfl rfl ?_
          refine ae_add rfl (am_ri (by omega) (by omega)) ?_
          show am_E _ (54, [vR y, vI n, vI q, vI x, vI bb], [vI (x + 0)], aq_h m s F c) _
          refine am_E.go (t2 := (55, [vR y, vI n, vI q, vI (x + 0), vI bb], [], aq_h m s F c)) rfl rfl ?_
          refine ae_iinc rfl rfl (am_ri (by omega) (by omega)) ?_
          show am_E _ (58, [vR y, vI n, vI q, vI (x + 0), vI (bb + 1)], [], aq_h m s F c) _
          refine am_E.go (t2 := (24, [vR y, vI n, vI q, vI (x + 0), vI (bb + 1)], [], aq_h m s F c)) rfl rfl ?_
          exact qz_mmany_l hI ⟨hm, hFo, hG5, hG6, hG7, hG8, hG9, hG10, hG11, hG12, hG13, hG14, hG15, hG16, hG17, hG18, hG19, hG20, hG21, hG22, hG23⟩ ⟨hT1, hTt⟩ (by omega) (by omega) d (x + 0) (bb + 1) (by omega) (by omega) (by omega) (by omega) (by rw [← ht, pc_, if_pos (by omega)]; first | rw [if_pos (by omega)] | (rw [if_neg (by omega)]; congr 1; omega)) (by omega)
        · refine am_E.go (t2 := (49, [vR y, vI n, vI q, vI x, vI bb], [vI 1, vI x], aq_h m s F c)) rfl rfl ?_
          refine am_E.go (t2 := (53, [vR y, vI n, vI q, vI x, vI bb], [vI 1, vI x], aq_h m s F c)) rfl rfl ?_
          refine ae_add rfl (am_ri (by omega) (by omega)) ?_
          show am_E _ (54, [vR y, vI n, vI q, vI x, vI bb], [vI (x + 1)], aq_h m s F c) _
          refine am_E.go (t2 := (55, [vR y, vI n, vI q, vI (x + 1), vI bb], [], aq_h m s F c)) rfl rfl ?_
          refine ae_iinc rfl rfl (am_ri (by omega) (by omega)) ?_
          show am_E _ (58, [vR y, vI n, vI q, vI (x + 1), vI (bb + 1)], [], aq_h m s F c) _
          refine am_E.go (t2 := (24, [vR y, vI n, vI q, vI (x + 1), vI (bb + 1)], [], aq_h m s F c)) rfl rfl ?_
          exact qz_mmany_l hI ⟨hm, hFo, hG5, hG6, hG7, hG8, hG9, hG10, hG11, hG12, hG13, hG14, hG15, hG16, hG17, hG18, hG19, hG20, hG21, hG22, hG23⟩ ⟨hT1, hTt⟩ (by omega) (by omega) d (x + 1) (bb + 1) (by omega) (by omega) (by omega) (by omega) (by rw [← ht, pc_, if_pos (by omega)]; first | rw [if_pos (by omega)] | (rw [if_neg (by omega)]; congr 1; omega)) (by omega)

theorem qe_X5_many {m s : Nat} {F : aq_F} {c : aq_C} {y : Nat} (hC : mo_C m F y) (hI : mo_I y c) {n q : Int} : am_E ac_X5_many (0, [vR y, vI n, vI q, vU, vU], [], aq_h m s F c) (aq_Z m s F (fun a => y ≤ a ∧ a < y + 24) c (fun r d => r = some (vI (mq_a n q)) ∧ mo_I y d)) := by
  obtain ⟨⟨hm, hFo, hG5, hG6, hG7, hG8, hG9, hG10, hG11, hG12, hG13, hG14, hG15, hG16, hG17, hG18, hG19, hG20, hG21, hG22, hG23⟩, ⟨tbl, hT1, hTt⟩, ⟨tA, tB, tD, hL1, hL2, hL3, hLt⟩⟩ := hC
  have hfs := mo_fs n
  refine am_E.go (t2 := (1, [vR y, vI n, vI q, vU, vU], [vI n], aq_h m s F c)) rfl rfl ?_
  refine am_E.call rfl rfl rfl (Nat.le_of_ble_eq_true rfl) (qm_isWide) ?_
  rintro r5 h5 ⟨rfl, v_1, rfl, hv_1⟩
  show am_E _ (4, [vR y, vI n, vI q, vU, vU], [vI v_1], aq_h m s F c) _
  refine ae_if0 rfl (fun (q_2 : v_1 = 0) => ?_) (fun (q_2 : v_1 ≠ 0) => ?_)
  · refine am_E.go (t2 := (18, [vR y, vI n, vI q, vU, vU], [vI (-1)], aq_h m s F c)) rfl rfl ?_
    refine am_E.ret rfl rfl ?_
    exact ⟨_, rfl, (aq_sm0 (c := c) (S := fun a => y ≤ a ∧ a < y + 24)), by rw [mq_a, if_neg (by omega)], hI⟩
  · refine am_E.go (t2 := (8, [vR y, vI n, vI q, vU, vU], [vI q], aq_h m s F c)) rfl rfl ?_
    refine am_E.go (t2 := (9, [vR y, vI n, vI q, vU, vU], [vL q], aq_h m s F c)) rfl rfl ?_
    refine am_E.go (t2 := (10, [vR y, vI n, vI q, vU, vU], [vL 0, vL q], aq_h m s F c)) rfl rfl ?_
    refine am_E.go (t2 := (11, [vR y, vI n, vI q, vU, vU], [vL 1, vL 0, vL q], aq_h m s F c)) rfl rfl ?_
    refine am_E.call rfl rfl rfl (Nat.le_of_ble_eq_true rfl) (qm_in) ?_
    rintro r5 h5 ⟨rfl, v_3, rfl, hv_3⟩
    show am_E _ (14, [vR y, vI n, vI q, vU, vU], [vI v_3], aq_h m s F c) _
    refine ae_if0 rfl (fun (q_4 : v_3 ≠ 0) => ?_) (fun (q_4 : v_3 = 0) => ?_)
    · refine am_E.go (t2 := (20, [vR y, vI n, vI q, vU, vU], [vI 0], aq_h m s F c)) rfl rfl ?_
      refine am_E.go (t2 := (21, [vR y, vI n, vI q, vI 0, vU], [], aq_h m s F c)) rfl rfl ?_
      refine am_E.go (t2 := (22, [vR y, vI n, vI q, vI 0, vU], [vI 0], aq_h m s F c)) rfl rfl ?_
      refine am_E.go (t2 := (24, [vR y, vI n, vI q, vI 0, vI 0], [], aq_h m s F c)) rfl rfl ?_
      have e5 : pc_ (bx_K n) (fun b => if q = 0 then 1 else po_ n (prt n b) 9 0) 106 0 0 = mq_a n q := by
        rw [mq_a, if_pos (by omega)]
        by_cases e6 : q = 0
        · simp only [if_pos e6]
          rw [pc_k 106 0 0 (by omega) (by omega)]
          omega
        · simp only [if_neg e6]
          exact mq_n (by omega) (by omega)
      exact qz_mmany_l hI ⟨hm, hFo, hG5, hG6, hG7, hG8, hG9, hG10, hG11, hG12, hG13, hG14, hG15, hG16, hG17, hG18, hG19, hG20, hG21, hG22, hG23⟩ ⟨hT1, hTt⟩ (by omega) (by omega) 106 0 0 (by omega) (by omega) (by omega) (by omega) e5 (by omega)
    · refine am_E.go (t2 := (18, [vR y, vI n, vI q, vU, vU], [vI (-1)], aq_h m s F c)) rfl rfl ?_
      refine am_E.ret rfl rfl ?_
      exact ⟨_, rfl, (aq_sm0 (c := c) (S := fun a => y ≤ a ∧ a < y + 24)), by rw [mq_a, if_neg (by omega)], hI⟩
