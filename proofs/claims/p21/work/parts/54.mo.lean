/-! What holds while the reference stacks. -/
/-- the row's strands, the crossings and the size stay -/
def mo_k (y : Nat) (c d : aq_C) : Prop := d y 9 = c y 9 ∧ d y 10 = c y 10 ∧ d y 17 = c y 17
theorem mo_k0 {y : Nat} {c : aq_C} : mo_k y c c := ⟨rfl, rfl, rfl⟩
theorem mo_kt {y : Nat} {c d e : aq_C} (h1 : mo_k y c d) (h2 : mo_k y d e) : mo_k y c e := ⟨by rw [h2.1, h1.1], by rw [h2.2.1, h1.2.1], by rw [h2.2.2, h1.2.2]⟩
theorem mo_ks {S : Nat → Prop} {y : Nat} {c d e : aq_C} (h1 : mo_k y c d) (hs : aq_sm S d e) (hy : ¬ S y) : mo_k y c e := ⟨by rw [hs y hy, h1.1], by rw [hs y hy, h1.2.1], by rw [hs y hy, h1.2.2]⟩
theorem mo_ku {y a : Nat} {i x : Int} {c d e : aq_C} (h1 : mo_k y c d) (he : aq_u d a i x = e) (h : y ≠ a ∨ (i ≠ 9 ∧ i ≠ 10 ∧ i ≠ 17)) : mo_k y c e := by
  subst he
  refine ⟨?_, ?_, ?_⟩
  · rw [aq_un (by omega), h1.1]
  · rw [aq_un (by omega), h1.2.1]
  · rw [aq_un (by omega), h1.2.2]
theorem mkd_mono {n : Int} {f g w w2 : Int → Int} (hw : ∀ i, w i = 1 → w2 i = 1) : ∀ (d : Nat) (u : Bool) (p : Int), mkd n f g w d u p → mkd n f g w2 d u p
  | 0, _, _, _ => trivial
  | d + 1, true, p, h => fun k => ⟨hw _ (h k).1, mkd_mono hw d false _ (h k).2⟩
  | d + 1, false, p, h => fun k => ⟨hw _ (h k).1, mkd_mono hw d true _ (h k).2⟩
/-- the strands from the first N points have marked what they met -/
def mo_mk (y : Nat) (n : Int) (f g : Int → Int) (N : Int) (c : aq_C) : Prop := ∀ p, 0 ≤ p → p < N → mkd n f g (c (y + 13)) 5 (decide (p < n)) p
theorem mo_mku {y : Nat} {n N i : Int} {f g : Int → Int} {c d : aq_C} (h : mo_mk y n f g N c) (he : aq_u c (y + 13) i 1 = d) : mo_mk y n f g N d := fun p h0 h1 => by
  refine mkd_mono (fun j hj => ?_) 5 _ p (h p h0 h1)
  rw [← he]
  unfold aq_u
  split
  · rfl
  · exact hj
theorem mo_mkn {y a : Nat} {n N i x : Int} {f g : Int → Int} {c d : aq_C} (h : mo_mk y n f g N c) (he : aq_u c a i x = d) (ha : y + 13 ≠ a) : mo_mk y n f g N d := fun p h0 h1 => by
  refine mkd_mono (fun j hj => ?_) 5 _ p (h p h0 h1)
  rw [← he, aq_un (Or.inl ha)]
  exact hj
/-- the first N places of made are told -/
def mo_md (y : Nat) (G : Int → Int) (N : Int) (c : aq_C) : Prop := ∀ i, 0 ≤ i → i < N → c (y + 12) i = G i
theorem mo_mdn {y a : Nat} {N i x : Int} {G : Int → Int} {c d : aq_C} (h : mo_md y G N c) (he : aq_u c a i x = d) (ha : y + 12 ≠ a) : mo_md y G N d := fun p h0 h1 => by
  rw [← he, aq_un (Or.inl ha)]
  exact h p h0 h1
theorem mo_mds {S : Nat → Prop} {y : Nat} {N : Int} {G : Int → Int} {c d : aq_C} (h : mo_md y G N c) (hs : aq_sm S c d) (ha : ¬ S (y + 12)) : mo_md y G N d := fun p h0 h1 => by
  rw [hs _ ha]
  exact h p h0 h1
