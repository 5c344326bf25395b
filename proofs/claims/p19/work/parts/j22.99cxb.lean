/-- the letter to a power, modulo p -/
def rs_ (v p e : Int) : Nat → Int → Int → Int
  | 0, _, x => x
  | d + 1, i, x => if i < e then rs_ v p e d (i + 1) (x * v % p) else x
def en_ (v p f : Int) : Int := if f = -4 then 0 else rs_ v p f 6 0 (1 % p)
theorem rs_b {v p e : Int} (hp : 0 < p) : ∀ (d : Nat) (i x : Int), 0 ≤ x → x < p → 0 ≤ rs_ v p e d i x ∧ rs_ v p e d i x < p
  | 0, _, _, h0, h1 => ⟨h0, h1⟩
  | d + 1, i, x, h0, h1 => by
    rw [rs_]
    split
    · have := nm_em (a := x * v) hp
      exact rs_b hp d (i + 1) _ this.1 this.2
    · exact ⟨h0, h1⟩
theorem en_b {v p f : Int} (hp : 0 < p) : 0 ≤ en_ v p f ∧ en_ v p f < p := by
  unfold en_
  split
  · omega
  · have := nm_em (a := 1) hp
    exact rs_b hp 6 0 _ this.1 this.2
/-- how many halves before h have t left -/
def cn_ (n t : Int) : Nat → Int
  | 0 => 0
  | k + 1 => cn_ n t k + (if hx_l n (k : Int) = t then 1 else 0)
theorem cn_0 (n t : Int) : ∀ k : Nat, 0 ≤ cn_ n t k ∧ cn_ n t k ≤ (k : Int)
  | 0 => by rw [cn_]; omega
  | k + 1 => by
    have := cn_0 n t k
    rw [cn_]
    split <;> omega
theorem cn_m (n t : Int) (a : Nat) : ∀ d : Nat, cn_ n t a ≤ cn_ n t (a + d)
  | 0 => Int.le_refl _
  | d + 1 => by
    have := cn_m n t a d
    rw [show a + (d + 1) = (a + d) + 1 by omega, cn_]
    split <;> omega
theorem cn_lt {n t : Int} {a b : Nat} (h : a < b) (ha : hx_l n (a : Int) = t) : cn_ n t a < cn_ n t b := by
  have k := cn_m n t (a + 1) (b - (a + 1))
  rw [show a + 1 + (b - (a + 1)) = b by omega, cn_, if_pos ha] at k
  omega
def ly_ (n x y : Int) : Int := l2_ n (hx_d n x) (hx_d n y) 7 0 (fun _ => 0)
def cn_ck (n : Int) : Bool := (List.range (n.toNat + 1)).all (fun t => decide (cn_ n t (hx_z n).toNat = hv_N n t) && (List.range (hv_N n t).toNat).all (fun i => decide (0 ≤ fi_ (hx_z n) t i (hx_l n) 7 0 0) && decide (fi_ (hx_z n) t i (hx_l n) 7 0 0 < hx_z n) && decide (hx_l n (fi_ (hx_z n) t i (hx_l n) 7 0 0) = (t : Int)) && decide (cn_ n t (fi_ (hx_z n) t i (hx_l n) 7 0 0).toNat = (i : Int))))
theorem cn_k1 : cn_ck 1 = true := by decide +kernel
theorem cn_k2 : cn_ck 2 = true := by decide +kernel
theorem cn_k3 : cn_ck 3 = true := by decide +kernel
theorem cn_k4 : cn_ck 4 = true := by decide +kernel
theorem cn_kn {n t : Int} (h1 : 1 ≤ n) (h4 : n ≤ 4) (t0 : 0 ≤ t) (t1 : t ≤ n) : cn_ n t (hx_z n).toNat = hv_N n t ∧ ∀ i, 0 ≤ i → i < hv_N n t → (0 ≤ fi_ (hx_z n) t i (hx_l n) 7 0 0 ∧ fi_ (hx_z n) t i (hx_l n) 7 0 0 < hx_z n) ∧ hx_l n (fi_ (hx_z n) t i (hx_l n) 7 0 0) = t ∧ cn_ n t (fi_ (hx_z n) t i (hx_l n) 7 0 0).toNat = i := by
  have ck : cn_ck n = true := by
    have h : n = 1 ∨ n = 2 ∨ n = 3 ∨ n = 4 := by omega
    rcases h with h | h | h | h <;> subst h
    · exact cn_k1
    · exact cn_k2
    · exact cn_k3
    · exact cn_k4
  unfold cn_ck at ck
  have a := List.all_eq_true.mp ck t.toNat (List.mem_range.mpr (by omega))
  rw [Int.toNat_of_nonneg t0] at a
  simp only [Bool.and_eq_true, decide_eq_true_eq] at a
  refine ⟨a.1, fun i i0 i1 => ?_⟩
  have b := List.all_eq_true.mp a.2 i.toNat (List.mem_range.mpr (by omega))
  rw [Int.toNat_of_nonneg i0] at b
  simp only [Bool.and_eq_true, decide_eq_true_eq] at b
  exact ⟨⟨b.1.1.1, b.1.1.2⟩, b.1.2, b.2⟩
/-- a table by halves is the table by places -/
theorem fo_tb {n t v p : Int} {T : Int → Int → Int} (h1 : 1 ≤ n) (h4 : n ≤ 4) (t0 : 0 ≤ t) (t1 : t ≤ n) (h : ∀ x y : Int, 0 ≤ x → x < hx_z n → 0 ≤ y → y < hx_z n → hx_l n x = t → hx_l n y = t → T (cn_ n t x.toNat) (cn_ n t y.toNat) = en_ v p (ly_ n x y)) : ∀ i j, 0 ≤ i → i < hv_N n t → 0 ≤ j → j < hv_N n t → T i j = en_ v p (fo_v n t i j) := by
  intro i j i0 i1 j0 j1
  have k := cn_kn h1 h4 t0 t1
  have a := k.2 i i0 i1
  have b := k.2 j j0 j1
  have e := h _ _ a.1.1 a.1.2 b.1.1 b.1.2 a.2.1 b.2.1
  rw [a.2.2, b.2.2] at e
  rw [e]
  unfold ly_
  rw [(fo_kn h1 h4 t0 t1 i0 i1 j0 j1).1]
/-- trial division -/
def ip_ (p : Int) : Nat → Int → Int
  | 0, _ => 1
  | d + 1, e => if e * e ≤ p then (if p % e = 0 then 0 else ip_ p d (e + 1)) else 1
theorem ip_b (p : Int) : ∀ (d : Nat) (e : Int), ip_ p d e = 0 ∨ ip_ p d e = 1
  | 0, _ => Or.inr rfl
  | d + 1, e => by
    rw [ip_]
    split
    · split
      · exact Or.inl rfl
      · exact ip_b p d (e + 1)
    · exact Or.inr rfl
theorem ip_P {p : Int} (hp : p ≤ 997) : ∀ (d : Nat) (e : Int), 2 ≤ e → 32 - e < (d : Int) → ip_ p d e = 1 → ∀ f, e ≤ f → f * f ≤ p → p % f ≠ 0
  | 0, e, h2, hd, h, f, hf, hff => by
    exfalso
    have : 32 * 32 ≤ f * f := Int.mul_le_mul (by omega) (by omega) (by omega) (by omega)
    omega
  | d + 1, e, h2, hd, h, f, hf, hff => by
    rw [ip_] at h
    have hee : e * e ≤ p := Int.le_trans (Int.mul_le_mul hf hf (by omega) (by omega)) hff
    rw [if_pos hee] at h
    by_cases z : p % e = 0
    · rw [if_pos z] at h
      exact absurd h (by decide)
    · rw [if_neg z] at h
      by_cases q : f = e
      · rw [q]
        exact z
      · exact ip_P hp d (e + 1) (by omega) (by omega) h f (by omega) hff
theorem ip_nm {p : Int} (hp : p ≤ 997) (h : ip_ p 32 2 = 1) : nm_P p := fun e h2 h3 => ip_P hp 32 2 (by omega) (by omega) h e h2 h3
/-- free's answer -/
def fe_a (n t v p : Int) : Int := if ((1 ≤ n ∧ n ≤ 4 ∧ 0 ≤ t ∧ t ≤ n) ∧ -1000 ≤ v ∧ v ≤ 1000) ∧ (2 ≤ p ∧ p ≤ 997) ∧ ip_ p 32 2 = 1 then rk_c (hv_N n t) p 8 0 0 (fun i j => en_ (v % p) p (fo_v n t i j)) else -1
