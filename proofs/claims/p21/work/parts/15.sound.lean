/-! The run, step by step. -/
theorem am_cw {R : Room} {s : State} {args : Array Value} {Tb : List Cond} {own : String} {i mL n mc ms fr lo : Nat} {N : am_N} (hg : ∀ w ∈ Tb, (w.onTables && w.keeps) = true ∨ ∃ ty, w = .arrayClass ty) (hts : ∀ w ∈ Tb, w.before args s = true) (hR1 : R.frames = fr) (hR2 : R.locals = lo) (h : am_cb Tb fr lo mL N n) (hl : (Cond.methodLink own i N.1).before args s = true) :
    CallB R s args own i N.1 N.2.1 mL N.2.2.1 (Cond.code N.1 N.2.1 mL N.2.2.1 :: Tb) { frames := N.2.2.2.1, cells := mc, slots := ms, locals := N.2.2.2.2 } mc ms n := by
  obtain ⟨h1, h2, h3, h4, h5⟩ := h
  exact callB_of n hts (fun w hw => (List.mem_cons.mp hw).elim (fun q => by rw [q]; exact ⟨h1, hg _ h1⟩) (fun q => ⟨q, hg w q⟩)) rfl rfl rfl (hts _ h2) hl h3 ⟨by rw [hR1]; exact h4, by rw [hR2]; exact h5⟩
theorem am_cn {R : Room} {s : State} {args : Array Value} {Tb : List Cond} {own host : String} {i mL n mc ms fr lo : Nat} {N : am_N} (hg : ∀ w ∈ Tb, (w.onTables && w.keeps) = true ∨ ∃ ty, w = .arrayClass ty) (hts : ∀ w ∈ Tb, w.before args s = true) (hR1 : R.frames = fr) (hR2 : R.locals = lo) (h : am_cb Tb fr lo mL N n) (hl : va_Nw (.methodLinkNest own i N.1 host) s) :
    va_CN R s args own i N.1 host N.2.1 mL N.2.2.1 (Cond.code N.1 N.2.1 mL N.2.2.1 :: Tb) { frames := N.2.2.2.1, cells := mc, slots := ms, locals := N.2.2.2.2 } mc ms n := by
  obtain ⟨h1, h2, h3, h4, h5⟩ := h
  exact va_cnB n hts (fun w hw => (List.mem_cons.mp hw).elim (fun q => by rw [q]; exact ⟨h1, hg _ h1⟩) (fun q => ⟨q, hg w q⟩)) rfl rfl rfl hl (hts _ h2) h3 ⟨by rw [hR1]; exact h4, by rw [hR2]; exact h5⟩
theorem am_rcv_inv {h : am_H} {x : Nat} {as : List am_V} (hx : 1000 ≤ x) (h9 : am_rcv h x as = true) : ∃ a as2, as = vR a :: as2 ∧ a < h.1 ∧ (h.2.2 a).1 = 9 + x / 1000 := by
  unfold am_rcv at h9
  rw [if_neg (by omega)] at h9
  split at h9
  · rename_i a as2
    simp only [Bool.and_eq_true, decide_eq_true_eq] at h9
    exact ⟨a, as2, rfl, h9.1, h9.2⟩
  · cases h9
theorem am_st_rev {ad : Nat → Nat} {a : Nat} {as2 rest : List am_V} : ((vR a :: as2).reverse ++ rest).map (am_cv ad) = (as2.map (am_cv ad)).reverse ++ .ref (ad a) :: rest.map (am_cv ad) := by
  rw [List.reverse_cons, List.append_assoc, List.map_append, List.map_reverse]
  rfl
set_option maxHeartbeats 4000000 in
theorem am_GS_succ {P : am_P} {Ns : List am_N} {Tb : List Cond} {l : Launch} {D : va_G} {ca : Nat → ClassId} {n : Nat} (ok : am_Ok P Ns Tb) (hG : am_GS P Ns Tb l D ca n) : am_GS P Ns Tb l D ca (n + 1) := by
  have hS := am_SS_of ok hG
  intro j C mL y bytes ret fr lo hj hN p e s m args below meth c hx hb hml hown hts hK hr hlocks hnm ad0 h0 h2 r t hrun ht1 ht2
  obtain ⟨hgood, hok⟩ := ok
  obtain ⟨-, hrow⟩ := hok j C mL _ hj hN
  obtain ⟨pc, ls, st, h⟩ := t
  have ht1 : h0.1 ≤ h.1 := ht1
  have ht2 : h0.2.1 ≤ h.2.1 := ht2
  have hA : ∀ q, s.heap.size ≤ q → va_A (am_ws ad0 ca h0) s.heap.size q := fun q hq => Or.inr hq
  unfold am_x at hrun
  split at hrun
  · cases hrun
  · rename_i t2 e1
    obtain ⟨row, g1, g2⟩ := mn_1 e1
    obtain ⟨ins, len, x, z⟩ := row
    obtain ⟨r1, r2, -, -⟩ := hrow pc _ g1
    have m1 := mn_sem g2
    have m2 := mn_x n hrun
    have r3 := r2 (h2.1 - h0.1) (h2.2.1 - h0.2.1)
    rw [← hnm] at r3
    exact am_sim hx hb hml hown hts hK.1 hK.2.2.2 hA r1 r3 g2 (show t2.2.2.2.1 - h0.1 ≤ h2.1 - h0.1 by have := m2.1; omega) (show t2.2.2.2.2.1 - h0.2.1 ≤ h2.2.1 - h0.2.1 by have := m2.2; omega)
      (hG j C mL y bytes ret fr lo hj hN p e s m args below meth c hx hb hml hown hts hK hr hlocks hnm ad0 h0 h2 r t2 hrun (Nat.le_trans ht1 m1.1) (Nat.le_trans ht2 m1.2))
  · rename_i q e1
    obtain ⟨row, g1, g2⟩ := mn_1 e1
    obtain ⟨ins, len, x, z⟩ := row
    obtain ⟨r1, r2, r3, -⟩ := hrow pc _ g1
    have r2 := r2 (h2.1 - h0.1) (h2.2.1 - h0.2.1)
    split at hrun
    · cases hrun
    · rename_i M hM
      obtain ⟨C3, mL3⟩ := M
      split at hrun
      · rename_i hcat
        split at hrun
        · cases hrun
        · rename_i rr hcal
          obtain ⟨r4, h4⟩ := rr
          obtain ⟨i9, hins, nx1, nx2, hz, hc8, hrcv, hq⟩ : ∃ i9, (ins = .invokevirtual i9 ∨ ins = .invokestatic i9 ∨ ins = .invokespecial i9) ∧ x ≠ 900 ∧ x ≠ 901 ∧ z ≤ st.length ∧ ((st.drop z).map am_cat).sum ≤ 8 ∧ am_rcv h x (st.take z).reverse = true ∧ q = (x % 1000, (st.take z).reverse, pc + len, ls, st.drop z, h) := by
            rcases am_kind g2 with ⟨t9, q9⟩ | ⟨i9, q8, q9⟩ | ⟨-, q9⟩ | ⟨-, q9⟩
            · cases q9
            · rcases iv_inv q9 with ⟨-, a, -, e2⟩ | ⟨-, e2⟩ | ⟨q1, q2, q3, q4, q5, e2⟩
              · cases e2
              · obtain ⟨_, _, _, _, _, -, -, e3⟩ := iv_acopy e2
                cases e3
              · cases e2
                exact ⟨i9, q8, q1, q2, q3, q4, q5, rfl⟩
            · obtain ⟨v, -, -, e2⟩ := iv_ret q9
              cases e2
            · obtain ⟨-, e2⟩ := iv_retv q9
              cases e2
          subst hq
          have hlen : len = 3 := by
            rcases hins with rfl | rfl | rfl <;> exact r2.1
          subst hlen
          have hM : P.2[x % 1000]? = some (C3, mL3) := hM
          have m3 := mn_x n hcal
          have m4 := mn_x n hrun
          have m3a : h.1 ≤ h4.1 := m3.1
          have m3b : h.2.1 ≤ h4.2.1 := m3.2
          have m4a : h4.1 ≤ h2.1 := m4.1
          have m4b : h4.2.1 ≤ h2.2.1 := m4.2
          have kont := hG j C mL y bytes ret fr lo hj hN p e s m args below meth c hx hb hml hown hts hK hr hlocks hnm ad0 h0 h2 r _ hrun (show h0.1 ≤ h4.1 by omega) (show h0.2.1 ≤ h4.2.1 by omega)
          have hst : st = (st.take z).reverse.reverse ++ st.drop z := by rw [List.reverse_reverse, List.take_append_drop]
          have hzl : ((st.take z).reverse).length = z := by rw [List.length_reverse, List.length_take]; omega
          generalize hasd : (st.take z).reverse = as at hst hrcv hcal hzl
          generalize hrsd : st.drop z = rest at hst hc8 kont
          rw [hst]
          have hcal : am_x P n C3 (0, am_pad mL3 as, [], h) = some (r4, h4) := hcal
          have hcat : (as.map am_cat).sum ≤ mL3 := by rw [← hasd]; exact hcat
          refine sm_back (a := #[]) (mc := h4.1 - h.1) (ms := h4.2.1 - h.2.1) hA rfl rfl (fun ad H locs LS k1 k2 k3 k4 k5 k6 k7 => ?_) kont
          have hva : ∀ v ∈ as, am_vk h.1 v := fun v hv => k4 v (List.mem_append_left _ (List.mem_reverse.mpr hv))
          have hW8 : 2 * (F0 m pc LS ((as.reverse ++ rest).map (am_cv ad))).monitorRoom + ((rest.map (am_cv ad)).map fun v => v.category).sum ≤ 8 := lv_room (by rw [am_cat_sum]; exact hc8)
          have hf8 : h.1 - h0.1 + (h4.1 - h.1) ≤ h2.1 - h0.1 ∧ h.2.1 - h0.2.1 + (h4.2.1 - h.2.1) ≤ h2.2.1 - h0.2.1 := ⟨by omega, by omega⟩
          rcases hins with rfl | rfl | rfl
          · obtain ⟨C5, mL5, N5, n5, c1, c2, c3, c4, c5, ⟨T5, z5, c6⟩, c7, c8, c9⟩ := r3
            rw [hM] at c1
            cases c1
            obtain ⟨a, as2, rfl, b1, b2⟩ := am_rcv_inv c5 hrcv
            have hMet := hS _ _ _ _ hM c2 _ _ _ _ hcal k3 hva hcat ad H.size
            have cw := am_cw (R := { frames := fr, cells := h2.1 - h0.1, slots := h2.2.1 - h0.2.1, locals := lo }) (own := y.cls) (i := i9) (mc := h4.1 - h.1) (ms := h4.2.1 - h.2.1) hgood hts rfl rfl c3 (hts _ c7)
            rw [am_st_rev] at hW8 ⊢
            exact va_runV (As := as2.map (am_cv ad)) (b := ad a) (C := N5.1.cls) ⟨hx, hb, hml, hown, hts⟩ hMet ⟨cw, hts _ c8, hts _ c9⟩ ⟨am_Pc.blind, va_recv hK.1 k5 c6 ((am_ws_at b1).trans (by rw [am_ce_obj (x := x / 1000 - 1) (by omega)])), am_Pc.at (as := vR a :: as2) hK k5 k6⟩ rfl (by rw [List.length_map]; simp at hzl; omega) k7 rfl hW8 r1 hf8
          · rcases r3 with r3 | ⟨C5, mL5, N5, n5, c1, c2, c3, c4, c7, c8⟩
            · exact absurd r3 nx2
            · rw [hM] at c1
              cases c1
              have hMet := hS _ _ _ _ hM c2 _ _ _ _ hcal k3 hva hcat ad H.size
              have cw := am_cw (R := { frames := fr, cells := h2.1 - h0.1, slots := h2.2.1 - h0.2.1, locals := lo }) (own := y.cls) (i := i9) (mc := h4.1 - h.1) (ms := h4.2.1 - h.2.1) hgood hts rfl rfl c3 (hts _ c7)
              rw [List.map_append, List.map_reverse] at hW8 ⊢
              exact va_runS (As := as.map (am_cv ad)) ⟨hx, hb, hml, hown, hts⟩ hMet ⟨cw, hts _ c8⟩ ⟨am_Pc.blind, am_Pc.at hK k5 k6⟩ rfl (by rw [List.length_map]; omega) k7 rfl hW8 r1 hf8
          · rcases r3 with r3 | ⟨C5, mL5, N5, n5, c1, c2, c3, c4, c5, c6, c7, c8, c9⟩
            · exact absurd r3 nx1
            · rw [hM] at c1
              cases c1
              obtain ⟨a, as2, rfl, b1, b2⟩ := am_rcv_inv c5 hrcv
              have hMet := hS _ _ _ _ hM c2 _ _ _ _ hcal k3 hva hcat ad H.size
              obtain ⟨y5, b5, ret5, fr5, lo5⟩ := N5
              have c6 : ret5 = none := c6
              subst c6
              rw [am_st_rev] at hW8 ⊢
              rcases c9 with c9 | ⟨o1, o2⟩
              · have cw := am_cw (R := { frames := fr, cells := h2.1 - h0.1, slots := h2.2.1 - h0.2.1, locals := lo }) (own := y.cls) (i := i9) (mc := h4.1 - h.1) (ms := h4.2.1 - h.2.1) hgood hts rfl rfl c3 (hts _ c9)
                exact va_runI (As := as2.map (am_cv ad)) (b := ad a) ⟨hx, hb, hml, hown, hts⟩ hMet ⟨cw, c7, hts _ c8⟩ ⟨am_Pc.blind, am_Pc.at (as := vR a :: as2) hK k5 k6⟩ rfl (by rw [List.length_map]; simp at hzl; omega) k7 rfl hW8 r1 hf8
              · have hnest : va_Nw (.methodLinkNest y.cls i9 y5 "StrandBoxes") s := by
                  rw [o1]
                  rcases o2 with ⟨rfl, o3⟩ | ⟨rfl, o3⟩
                  · have o3 : y5 = yX3_init := o3
                    rw [o3]
                    exact hK.2.1
                  · have o3 : y5 = yX1_init := o3
                    rw [o3]
                    exact hK.2.2.1
                have cw := am_cn (R := { frames := fr, cells := h2.1 - h0.1, slots := h2.2.1 - h0.2.1, locals := lo }) (own := y.cls) (i := i9) (mc := h4.1 - h.1) (ms := h4.2.1 - h.2.1) hgood hts rfl rfl c3 hnest
                exact va_runIN (As := as2.map (am_cv ad)) (b := ad a) ⟨hx, hb, hml, hown, hts⟩ hMet ⟨cw, c7, hts _ c8⟩ ⟨am_Pc.blind, am_Pc.at (as := vR a :: as2) hK k5 k6⟩ rfl (by rw [List.length_map]; simp at hzl; omega) k7 rfl hW8 r1 hf8
      · cases hrun
  · rename_i q e1
    obtain ⟨row, g1, g2⟩ := mn_1 e1
    obtain ⟨ins, len, x, z⟩ := row
    obtain ⟨r1, r2, -, r4⟩ := hrow pc _ g1
    have r2 := r2 0 0
    have hq := Option.some.inj hrun
    subst hq
    rcases am_kind g2 with ⟨t9, q9⟩ | ⟨i9, q8, q9⟩ | ⟨q8, q9⟩ | ⟨rfl, q9⟩
    · cases q9
    · rcases iv_inv q9 with ⟨-, a, -, e2⟩ | ⟨-, e2⟩ | ⟨q1, q2, q3, q4, q5, e2⟩
      · cases e2
      · obtain ⟨_, _, _, _, _, -, -, e3⟩ := iv_acopy e2
        cases e3
      · cases e2
    · obtain ⟨v, rfl, q1, e2⟩ := iv_ret q9
      cases e2
      have hlen : len = 1 := by
        rcases q8 with rfl | rfl <;> exact r2
      subst hlen
      refine sm_ret (x := x) (len := 1) hx hb hr hlocks r1 rfl ?_ q1
      rcases q8 with rfl | rfl
      · exact r4.elim (fun g => Or.inl ⟨rfl, g.1, g.2⟩) (fun g => Or.inr (Or.inl ⟨rfl, g.1, g.2⟩))
      · exact Or.inr (Or.inr ⟨rfl, r4.1, r4.2⟩)
    · obtain ⟨rfl, e2⟩ := iv_retv q9
      cases e2
      have hlen : len = 1 := r2
      subst hlen
      have r4 : ret = none := r4
      subst r4
      exact sm_retv hx hb hr hlocks r1 rfl
theorem am_GS_all {P : am_P} {Ns : List am_N} {Tb : List Cond} {l : Launch} {D : va_G} {ca : Nat → ClassId} (ok : am_Ok P Ns Tb) : ∀ n, am_GS P Ns Tb l D ca n
  | 0 => fun j C mL y bytes ret fr lo hj hN p e s m args below meth c hx hb hml hown hts hK hr hlocks hnm ad0 h0 h2 r t hrun => by cases hrun
  | n + 1 => am_GS_succ ok (am_GS_all ok n)
/-- A RUN OF THE SMALL MACHINE IS A CONTRACT OF THE METHOD -/
theorem am_sound {P : am_P} {Ns : List am_N} {Tb : List Cond} {l : Launch} {D : va_G} {ca : Nat → ClassId} (ok : am_Ok P Ns Tb) (n : Nat) : am_SS P Ns Tb l D ca n := am_SS_of ok (am_GS_all ok n)
