/-- the first row from r on that is no 0 in the column c -/
def mx_p (T : Int → Int → Int) (N c : Int) : Nat → Int → Int
  | 0, r => r
  | d + 1, r => if r < N then (if T r c = 0 then mx_p T N c d (r + 1) else r) else r
def mx_s (T : Int → Int → Int) (N a b : Int) : Int → Int → Int := fun i j => if 0 ≤ j ∧ j < N then (if i = a then T b j else if i = b then T a j else T i j) else T i j
/-- crosswise -/
def mx_c (T : Int → Int → Int) (N p h c : Int) : Int → Int → Int := fun i j => if (h < i ∧ i < N) ∧ 0 ≤ j ∧ j < N then (T i j * T h c - T h j * T i c) % p else T i j
/-- by an inverse -/
def mx_r (T : Int → Int → Int) (N p h c w : Int) : Int → Int → Int := fun i j => if (h < i ∧ i < N) ∧ 0 ≤ j ∧ j < N then (T i j + (p - T i c * w % p) * T h j) % p else T i j
def iv_ (v p : Int) : Nat → Int → Int
  | 0, w => w
  | d + 1, w => if v * w % p = 1 then w else iv_ v p d (w + 1)
def rk_c (N p : Int) : Nat → Int → Int → (Int → Int → Int) → Int
  | 0, _, k, _ => k
  | d + 1, c, k, T => if c < N then (if mx_p T N c 8 k < N then rk_c N p d (c + 1) (k + 1) (mx_c (mx_s T N (mx_p T N c 8 k) k) N p k c) else rk_c N p d (c + 1) k T) else k
def rk_r (N p : Int) : Nat → Int → Int → (Int → Int → Int) → Int
  | 0, _, k, _ => k
  | d + 1, c, k, T => if c < N then (if mx_p T N c 8 k < N then rk_r N p d (c + 1) (k + 1) (mx_r (mx_s T N (mx_p T N c 8 k) k) N p k c (iv_ (mx_s T N (mx_p T N c 8 k) k k c) p 1000 1)) else rk_r N p d (c + 1) k T) else k
/-- the rows of T are those of U, each times a number that is no 0 -/
def mx_R (N p : Int) (T U : Int → Int → Int) : Prop := ∃ l : Int → Int, ∀ i, 0 ≤ i → i < N → (1 ≤ l i ∧ l i < p) ∧ ∀ j, 0 ≤ j → j < N → (0 ≤ U i j ∧ U i j < p) ∧ T i j = (l i * U i j) % p
theorem mx_z {a b p : Int} (hp0 : 2 ≤ p) (hp : nm_P p) (a0 : 1 ≤ a) (a1 : a < p) (h : a * b % p = 0) : b % p = 0 := by
  obtain ⟨w, w0, w1, hw⟩ := nm_inv a0 a1 hp
  have e1 := Int.emod_add_mul_ediv (a * w) p
  have e2 := Int.emod_add_mul_ediv (a * b) p
  rw [hw] at e1
  rw [h] at e2
  generalize a * w / p = e at e1
  generalize a * b / p = f at e2
  have : b = p * (w * f - e * b) := by grind
  rw [this]
  exact Int.mul_emod_right p _
theorem mx_iff {l u p : Int} (hp0 : 2 ≤ p) (hp : nm_P p) (l0 : 1 ≤ l) (l1 : l < p) (u0 : 0 ≤ u) (u1 : u < p) : (l * u) % p = 0 ↔ u = 0 := by
  constructor
  · intro h
    have := mx_z hp0 hp l0 l1 h
    rw [Int.emod_eq_of_lt u0 u1] at this
    exact this
  · intro h
    rw [h, Int.mul_zero]
    rfl
theorem mx_pe {N p c : Int} {T U : Int → Int → Int} (hp0 : 2 ≤ p) (hp : nm_P p) (hR : mx_R N p T U) (c0 : 0 ≤ c) (c1 : c < N) : ∀ (d : Nat) (r : Int), 0 ≤ r → mx_p T N c d r = mx_p U N c d r
  | 0, _, _ => rfl
  | d + 1, r, r0 => by
    obtain ⟨l, h⟩ := id hR
    rw [mx_p, mx_p]
    by_cases e : r < N
    · have k := h r r0 e
      have q := k.2 c c0 c1
      have i := mx_iff (l := l r) (u := U r c) hp0 hp k.1.1 k.1.2 q.1.1 q.1.2
      rw [if_pos e, if_pos e, mx_pe hp0 hp hR c0 c1 d (r + 1) (by omega)]
      by_cases e2 : U r c = 0
      · rw [if_pos e2, if_pos (by rw [q.2]; exact i.mpr e2)]
      · rw [if_neg e2, if_neg (by rw [q.2]; exact fun z => e2 (i.mp z))]
    · rw [if_neg e, if_neg e]
theorem mx_pb {N c : Int} {T : Int → Int → Int} : ∀ (d : Nat) (r : Int), r ≤ mx_p T N c d r
  | 0, _ => Int.le_refl _
  | d + 1, r => by
    rw [mx_p]
    split
    · split
      · have := mx_pb (N := N) (c := c) (T := T) d (r + 1)
        omega
      · omega
    · omega
theorem mx_pn {N c : Int} {T : Int → Int → Int} : ∀ (d : Nat) (r : Int), N - r < (d : Int) → mx_p T N c d r < N → T (mx_p T N c d r) c ≠ 0
  | 0, r, hd, h => by
    rw [mx_p] at h
    exfalso
    omega
  | d + 1, r, hd, h => by
    rw [mx_p] at h ⊢
    by_cases e : r < N
    · rw [if_pos e] at h ⊢
      by_cases e2 : T r c = 0
      · rw [if_pos e2] at h ⊢
        exact mx_pn d (r + 1) (by omega) h
      · rw [if_neg e2]
        exact e2
    · rw [if_neg e] at h
      exact absurd h e
theorem mx_Rs {N p a b : Int} {T U : Int → Int → Int} (hR : mx_R N p T U) (a0 : 0 ≤ a) (a1 : a < N) (b0 : 0 ≤ b) (b1 : b < N) : mx_R N p (mx_s T N a b) (mx_s U N a b) := by
  obtain ⟨l, h⟩ := hR
  refine ⟨fun i => if i = a then l b else if i = b then l a else l i, fun i i0 i1 => ?_⟩
  unfold mx_s
  by_cases e : i = a
  · simp only [if_pos e]
    refine ⟨(h b b0 b1).1, fun j j0 j1 => ?_⟩
    rw [if_pos ⟨j0, j1⟩, if_pos ⟨j0, j1⟩]
    exact (h b b0 b1).2 j j0 j1
  · simp only [if_neg e]
    by_cases e2 : i = b
    · simp only [if_pos e2]
      refine ⟨(h a a0 a1).1, fun j j0 j1 => ?_⟩
      rw [if_pos ⟨j0, j1⟩, if_pos ⟨j0, j1⟩]
      exact (h a a0 a1).2 j j0 j1
    · simp only [if_neg e2]
      refine ⟨(h i i0 i1).1, fun j j0 j1 => ?_⟩
      rw [if_pos ⟨j0, j1⟩, if_pos ⟨j0, j1⟩]
      exact (h i i0 i1).2 j j0 j1
theorem iv_e {v p w0 : Int} (h0 : 1 ≤ w0) (hw : v * w0 % p = 1) : ∀ (d : Nat) (w : Int), 1 ≤ w → w ≤ w0 → w0 - w < (d : Int) → v * iv_ v p d w % p = 1 ∧ 1 ≤ iv_ v p d w ∧ iv_ v p d w ≤ w0
  | 0, w, a, b, hd => by exfalso; omega
  | d + 1, w, a, b, hd => by
    rw [iv_]
    by_cases e : v * w % p = 1
    · rw [if_pos e]
      exact ⟨e, a, b⟩
    · rw [if_neg e]
      by_cases e2 : w = w0
      · rw [e2] at e
        exact absurd hw e
      · exact iv_e h0 hw d (w + 1) (by omega) (by omega) (by omega)
theorem mx_mod {x y p k : Int} (h : x = y + p * k) : x % p = y % p := by
  rw [h, Int.add_mul_emod_self_left]
theorem mx_poly (p li lh uij uic uhj uhc w q0 q1 q2 q3 q4 q5 q6 q7 : Int) (h : uhc * w = 1 + p * q0) : (li * uij - p * q1) * (lh * uhc - p * q2) - (lh * uhj - p * q3) * (li * uic - p * q4) = (li * lh * uhc - p * q5) * (uij + (p - (uic * w - p * q6)) * uhj - p * q7) + p * (- li * uij * q2 - q1 * lh * uhc + p * q1 * q2 + lh * uhj * q4 + q3 * li * uic - p * q3 * q4 - (li * lh * uhc * (uhj + q6 * uhj - q7) - q5 * (uij + (p - (uic * w - p * q6)) * uhj - p * q7)) + li * lh * uic * uhj * q0) := by
  have e : li * lh * uhc * (uic * w) * uhj = li * lh * uic * uhj * (1 + p * q0) := by rw [← h]; grind
  grind
/-- the two ways of clearing, row by row -/
theorem mx_step {p li lh uij uic uhj uhc w : Int} (hw : uhc * w % p = 1) : ((li * uij) % p * ((lh * uhc) % p) - (lh * uhj) % p * ((li * uic) % p)) % p = ((li * lh * uhc) % p * ((uij + (p - uic * w % p) * uhj) % p)) % p := by
  have e0 := Int.emod_add_mul_ediv (uhc * w) p
  have e1 := Int.emod_add_mul_ediv (li * uij) p
  have e2 := Int.emod_add_mul_ediv (lh * uhc) p
  have e3 := Int.emod_add_mul_ediv (lh * uhj) p
  have e4 := Int.emod_add_mul_ediv (li * uic) p
  have e5 := Int.emod_add_mul_ediv (li * lh * uhc) p
  have e6 := Int.emod_add_mul_ediv (uic * w) p
  have e7 := Int.emod_add_mul_ediv (uij + (p - uic * w % p) * uhj) p
  rw [hw] at e0
  generalize uhc * w / p = q0 at e0
  generalize li * uij % p = a1 at e1 ⊢
  generalize li * uij / p = q1 at e1
  generalize lh * uhc % p = a2 at e2 ⊢
  generalize lh * uhc / p = q2 at e2
  generalize lh * uhj % p = a3 at e3 ⊢
  generalize lh * uhj / p = q3 at e3
  generalize li * uic % p = a4 at e4 ⊢
  generalize li * uic / p = q4 at e4
  generalize li * lh * uhc % p = a5 at e5 ⊢
  generalize li * lh * uhc / p = q5 at e5
  generalize uic * w % p = a6 at e6 e7 ⊢
  generalize uic * w / p = q6 at e6
  generalize (uij + (p - a6) * uhj) % p = a7 at e7 ⊢
  generalize (uij + (p - a6) * uhj) / p = q7 at e7
  have f1 : a1 = li * uij - p * q1 := by omega
  have f2 : a2 = lh * uhc - p * q2 := by omega
  have f3 : a3 = lh * uhj - p * q3 := by omega
  have f4 : a4 = li * uic - p * q4 := by omega
  have f5 : a5 = li * lh * uhc - p * q5 := by omega
  have f6 : a6 = uic * w - p * q6 := by omega
  have f7 : a7 = uij + (p - a6) * uhj - p * q7 := by omega
  have f0 : uhc * w = 1 + p * q0 := by omega
  rw [f7, f6, f1, f2, f3, f4, f5]
  exact mx_mod (mx_poly p li lh uij uic uhj uhc w q0 q1 q2 q3 q4 q5 q6 q7 f0)
theorem mx_Rc {N p h c w : Int} {T U : Int → Int → Int} (hp0 : 2 ≤ p) (hp : nm_P p) (hR : mx_R N p T U) (h0 : 0 ≤ h) (h1 : h < N) (c0 : 0 ≤ c) (c1 : c < N) (hw : U h c * w % p = 1) : mx_R N p (mx_c T N p h c) (mx_r U N p h c w) := by
  obtain ⟨l, hl⟩ := hR
  have kh := hl h h0 h1
  have qh := kh.2 c c0 c1
  have huz : U h c ≠ 0 := fun z => by
    rw [z, Int.zero_mul, Int.zero_emod] at hw
    exact absurd hw (by decide)
  refine ⟨fun i => if h < i then (l i * l h * U h c) % p else l i, fun i i0 i1 => ?_⟩
  have ki := hl i i0 i1
  unfold mx_c mx_r
  by_cases e : h < i
  · simp only [if_pos e]
    refine ⟨?_, fun j j0 j1 => ?_⟩
    · have b := nm_em (a := l i * l h * U h c) (p := p) (by omega)
      have nz : (l i * l h * U h c) % p ≠ 0 := fun z => by
        rw [Int.mul_assoc] at z
        have z1 := mx_z hp0 hp ki.1.1 ki.1.2 z
        have z2 := (mx_iff (l := l h) (u := U h c) hp0 hp kh.1.1 kh.1.2 qh.1.1 qh.1.2).mp z1
        exact huz z2
      omega
    · rw [if_pos ⟨⟨e, i1⟩, j0, j1⟩, if_pos ⟨⟨e, i1⟩, j0, j1⟩, (ki.2 j j0 j1).2, qh.2, (kh.2 j j0 j1).2, (ki.2 c c0 c1).2]
      exact ⟨nm_em (by omega), mx_step hw⟩
  · simp only [if_neg e]
    refine ⟨ki.1, fun j j0 j1 => ?_⟩
    rw [if_neg (fun q => e q.1.1), if_neg (fun q => e q.1.1)]
    exact ki.2 j j0 j1
/-- both find the same number -/
theorem rk_e {N p : Int} (hp0 : 2 ≤ p) (hp9 : p ≤ 997) (hp : nm_P p) (hN : N ≤ 6) : ∀ (d : Nat) (c k : Int) (T U : Int → Int → Int), 0 ≤ c → 0 ≤ k → k ≤ c → mx_R N p T U → rk_c N p d c k T = rk_r N p d c k U
  | 0, _, _, _, _, _, _, _, _ => rfl
  | d + 1, c, k, T, U, c0, k0, kc, hR => by
    rw [rk_c, rk_r]
    by_cases e : c < N
    · rw [if_pos e, if_pos e, mx_pe hp0 hp hR c0 e 8 k k0]
      by_cases e2 : mx_p U N c 8 k < N
      · rw [if_pos e2, if_pos e2]
        have b := mx_pb (N := N) (c := c) (T := U) 8 k
        have nz := mx_pn (N := N) (c := c) (T := U) 8 k (by omega) e2
        generalize mx_p U N c 8 k = q at b e2 nz
        have hS := mx_Rs hR (a := q) (b := k) (by omega) e2 k0 (by omega)
        obtain ⟨l, hl⟩ := id hS
        have hu := ((hl k k0 (by omega)).2 c c0 e).1
        have hv : mx_s U N q k k c = U q c := by
          unfold mx_s
          rw [if_pos ⟨c0, e⟩]
          by_cases z : k = q
          · rw [if_pos z, z]
          · rw [if_neg z, if_pos rfl]
        have hnz : mx_s U N q k k c ≠ 0 := by rw [hv]; exact nz
        obtain ⟨w0, a1, a2, a3⟩ := nm_inv (v := mx_s U N q k k c) (by omega) hu.2 hp
        have hw := iv_e a1 a3 1000 1 (by omega) a1 (by omega)
        exact rk_e hp0 hp9 hp hN d (c + 1) (k + 1) _ _ (by omega) (by omega) (by omega) (mx_Rc hp0 hp hS k0 (by omega) c0 e hw.1)
      · rw [if_neg e2, if_neg e2]
        exact rk_e hp0 hp9 hp hN d (c + 1) k T U (by omega) k0 (by omega) hR
    · rw [if_neg e, if_neg e]
/-- a table is its own -/
theorem mx_R1 {N p : Int} {T U : Int → Int → Int} (hp0 : 2 ≤ p) (h : ∀ i j, 0 ≤ i → i < N → 0 ≤ j → j < N → (0 ≤ U i j ∧ U i j < p) ∧ T i j = U i j) : mx_R N p T U := ⟨fun _ => 1, fun i i0 i1 => ⟨⟨Int.le_refl _, by show (1 : Int) < p; omega⟩, fun j j0 j1 => by
  have k := h i j i0 i1 j0 j1
  refine ⟨k.1, ?_⟩
  rw [k.2, Int.one_mul, Int.emod_eq_of_lt k.1.1 k.1.2]⟩⟩
