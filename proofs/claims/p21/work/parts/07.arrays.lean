/-! Arrays. -/
section SM
variable {p : Program} {l : Launch} {e : Env} {R : Room} {s : State} {m : MethodId} {args : Array Value} {below : List Frame} {meth : Method} {c : Code} {Q : State → Prop} {D : va_G} {ca : Nat → ClassId} {ft : am_ft} {A : Nat → Prop} {n0 z0 : Nat} {ad0 : Nat → Nat} {nL : Nat} {cc : ByteArray}
theorem am_cv_I {ad : Nat → Nat} {v : am_V} {n k : Nat} (hk : k < 2) (h : am_vt n k v) : am_cv ad v = .int (am_toI v) := by
  obtain ⟨h1, h2⟩ := h
  rcases v with (x | x) | _ | _ | a
  · rfl
  · have : k = 2 := by simpa [am_fok] using h2
    omega
  · exact h1.elim
  · have : k = 3 := by simpa [am_fok] using h2
    omega
  · have : k = 3 := by simpa [am_fok] using h2
    omega
theorem am_cv_iald {ad : Nat → Nat} {v : am_V} {n : Nat} (h : am_vt n 0 v) : am_cv ad v = .int (am_toI v) := am_cv_I (by omega) h
theorem am_cv_zald {ad : Nat → Nat} {v : am_V} {n : Nat} (h : am_vt n 1 v) : am_cv ad v = .int (am_toI v) := am_cv_I (by omega) h
theorem am_cv_lald {ad : Nat → Nat} {v : am_V} {n : Nat} (h : am_vt n 2 v) : am_cv ad v = .long (am_toL v) := by
  obtain ⟨h1, h2⟩ := h
  rcases v with (x | x) | _ | _ | a
  · simp [am_fok] at h2
  · rfl
  · exact h1.elim
  · simp [am_fok] at h2
  · simp [am_fok] at h2
theorem am_cv_aald {ad : Nat → Nat} {v : am_V} {n : Nat} (h : am_vt n 3 v) : am_cv ad v = va_rf (am_toR ad v) := by
  obtain ⟨h1, h2⟩ := h
  rcases v with (x | x) | _ | _ | a
  · simp [am_fok] at h2
  · simp [am_fok] at h2
  · exact h1.elim
  · rfl
  · rfl
theorem am_nar {v : am_V} {n : Nat} (h1 : am_vk n v) (h2 : am_fok 1 v = true) : vp_nar .boolean (am_toI v) = am_toI v := by
  rcases v with (x | x) | _ | _ | a
  · have : x = 0 ∨ x = 1 := by simpa [am_fok] using h2
    rcases this with rfl | rfl
    · exact (by decide : vp_nar .boolean (Int32.ofInt 0) = Int32.ofInt 0)
    · exact (by decide : vp_nar .boolean (Int32.ofInt 1) = Int32.ofInt 1)
  · simp [am_fok] at h2
  · exact h1.elim
  · simp [am_fok] at h2
  · simp [am_fok] at h2
theorem sm_iald {pc a : Nat} {i : Int} {ls st : List am_V} {h : am_H} (hx : p.tables.exec = Jvm.exec) (hb : c.code = cc) (hK : va_K D vwCl (am_tys ca) s) (hdg : decode cc pc = .ok (.iaload, 1)) (ha : a < h.1) (hk : (h.2.2 a).1 = 0) (h0 : 0 ≤ i) (hi : i < ((h.2.2 a).2.1 : Int)) (k : am_G p l e R s m args below meth c Q D ca ft A n0 z0 ad0 nL (pc + 1, ls, (h.2.2 a).2.2 i.toNat :: st, h)) : am_G p l e R s m args below meth c Q D ca ft A n0 z0 ad0 nL (pc, ls, vI i :: vR a :: st, h) := by
  intro ad H locs LS h1 h2 h3 h4 h5 h6 h7 h8 h9 h10 h11
  have h4 : am_gd ft h := h4
  have hv := am_gd_arr h4 ha (by omega) i.toNat
  rw [hk] at hv
  obtain ⟨q1, q2⟩ := am_o_ix h0 hi (h5 (vI i) (by simp))
  refine va_iald hx hb hK h7 a 0 ((am_ws_at ha).trans (by rw [am_ce_i hk (by omega)])) (am_tys_at ca (k := 0) (by omega)) q1 hdg ?_
  rw [q2, show (Value.int <| am_toI ((h.2.2 a).2.2 i.toNat)) = am_cv ad ((h.2.2 a).2.2 i.toNat) from (am_cv_iald hv).symm]
  exact k ad H locs LS h1 h2 h3 h4 (fun w hw => (List.mem_cons.mp hw).elim (fun q => by rw [q]; exact hv.1) (fun q => h5 w (by simp [q]))) h6 h7 h8 h9 h10 h11
theorem sm_zald {pc a : Nat} {i : Int} {ls st : List am_V} {h : am_H} (hx : p.tables.exec = Jvm.exec) (hb : c.code = cc) (hK : va_K D vwCl (am_tys ca) s) (hdg : decode cc pc = .ok (.baload, 1)) (ha : a < h.1) (hk : (h.2.2 a).1 = 1) (h0 : 0 ≤ i) (hi : i < ((h.2.2 a).2.1 : Int)) (k : am_G p l e R s m args below meth c Q D ca ft A n0 z0 ad0 nL (pc + 1, ls, (h.2.2 a).2.2 i.toNat :: st, h)) : am_G p l e R s m args below meth c Q D ca ft A n0 z0 ad0 nL (pc, ls, vI i :: vR a :: st, h) := by
  intro ad H locs LS h1 h2 h3 h4 h5 h6 h7 h8 h9 h10 h11
  have h4 : am_gd ft h := h4
  have hv := am_gd_arr h4 ha (by omega) i.toNat
  rw [hk] at hv
  obtain ⟨q1, q2⟩ := am_o_ix h0 hi (h5 (vI i) (by simp))
  refine va_zald hx hb hK h7 a 1 ((am_ws_at ha).trans (by rw [am_ce_i hk (by omega)])) (am_tys_at ca (k := 1) (by omega)) q1 hdg ?_
  rw [q2, show (Value.int <| am_toI ((h.2.2 a).2.2 i.toNat)) = am_cv ad ((h.2.2 a).2.2 i.toNat) from (am_cv_zald hv).symm]
  exact k ad H locs LS h1 h2 h3 h4 (fun w hw => (List.mem_cons.mp hw).elim (fun q => by rw [q]; exact hv.1) (fun q => h5 w (by simp [q]))) h6 h7 h8 h9 h10 h11
theorem sm_lald {pc a : Nat} {i : Int} {ls st : List am_V} {h : am_H} (hx : p.tables.exec = Jvm.exec) (hb : c.code = cc) (hK : va_K D vwCl (am_tys ca) s) (hdg : decode cc pc = .ok (.laload, 1)) (ha : a < h.1) (hk : (h.2.2 a).1 = 2) (h0 : 0 ≤ i) (hi : i < ((h.2.2 a).2.1 : Int)) (k : am_G p l e R s m args below meth c Q D ca ft A n0 z0 ad0 nL (pc + 1, ls, (h.2.2 a).2.2 i.toNat :: st, h)) : am_G p l e R s m args below meth c Q D ca ft A n0 z0 ad0 nL (pc, ls, vI i :: vR a :: st, h) := by
  intro ad H locs LS h1 h2 h3 h4 h5 h6 h7 h8 h9 h10 h11
  have h4 : am_gd ft h := h4
  have hv := am_gd_arr h4 ha (by omega) i.toNat
  rw [hk] at hv
  obtain ⟨q1, q2⟩ := am_o_ix h0 hi (h5 (vI i) (by simp))
  refine va_lald hx hb hK h7 a 2 ((am_ws_at ha).trans (by rw [am_ce_l hk])) (am_tys_at ca (k := 2) (by omega)) q1 hdg ?_
  rw [q2, show (Value.long <| am_toL ((h.2.2 a).2.2 i.toNat)) = am_cv ad ((h.2.2 a).2.2 i.toNat) from (am_cv_lald hv).symm]
  exact k ad H locs LS h1 h2 h3 h4 (fun w hw => (List.mem_cons.mp hw).elim (fun q => by rw [q]; exact hv.1) (fun q => h5 w (by simp [q]))) h6 h7 h8 h9 h10 h11
theorem sm_iast {pc a : Nat} {i : Int} {ls st : List am_V} {h : am_H} {v : am_V} (hx : p.tables.exec = Jvm.exec) (hb : c.code = cc) (hK : va_K D vwCl (am_tys ca) s) (hdg : decode cc pc = .ok (.iastore, 1)) (ha : a < h.1) (hk : (h.2.2 a).1 = 0) (hf : am_fok 0 v = true) (h0 : 0 ≤ i) (hi : i < ((h.2.2 a).2.1 : Int)) (k : am_G p l e R s m args below meth c Q D ca ft A n0 z0 ad0 nL (pc + 1, ls, st, am_wr h a i.toNat v)) : am_G p l e R s m args below meth c Q D ca ft A n0 z0 ad0 nL (pc, ls, v :: vI i :: vR a :: st, h) := by
  intro ad H locs LS h1 h2 h3 h4 h5 h6 h7 h8 h9 h10 h11
  have h4 : am_gd ft h := h4
  have hvk : am_vk h.1 v := h5 v (by simp)
  obtain ⟨q1, q2⟩ := am_o_ix h0 hi (h5 (vI i) (by simp))
  have hc : am_gd ft (am_wr h a i.toNat v) := am_gd_wr h4 (by
    rcases h4 a ha with q | q
    · refine Or.inl ⟨q.1, q.2.1, fun j => ?_⟩
      show am_vt h.1 (am_ek (h.2.2 a).1) (am_up (h.2.2 a).2.2 i.toNat v j)
      unfold am_up
      by_cases e : j = i.toNat
      · rw [if_pos e, hk]
        exact ⟨hvk, hf⟩
      · rw [if_neg e]
        exact q.2.2 j
    · omega)
  have he : am_ce ad ca ((h.2.2 a).1, (h.2.2 a).2.1, am_up (h.2.2 a).2.2 i.toNat v) = .inl (ca 0, (h.2.2 a).2.1, .inl (upd (fun j => am_toI ((h.2.2 a).2.2 j)) i.toNat (am_toI v))) := by
    rw [am_ce_i (K := ((h.2.2 a).1, (h.2.2 a).2.1, am_up (h.2.2 a).2.2 i.toNat v)) hk (by omega)]
    refine congrArg (fun z => (Sum.inl (ca 0, (h.2.2 a).2.1, .inl z) : va_E)) (funext fun j => ?_)
    show am_toI (am_up _ _ _ j) = upd _ _ _ j
    unfold am_up upd
    by_cases e : j = i.toNat
    · rw [if_pos e, if_pos e]
    · rw [if_neg e, if_neg e]
  rw [show ((v :: vI i :: vR a :: st).map (am_cv ad)) = .int (am_toI v) :: .int (Int32.ofInt i) :: .ref (ad a) :: st.map (am_cv ad) by rw [List.map_cons, am_cv_iald ⟨hvk, hf⟩]; rfl]
  refine va_iast hx hb hK h7 h8 h9 a 0 ((am_ws_at ha).trans (by rw [am_ce_i hk (by omega)])) (am_tys_at ca (k := 0) (by omega)) q1 hdg (fun H1 locs1 hP hD hS => ?_)
  rw [q2] at hP hD
  exact am_put_go (us := [v, vI i, vR a]) h1 h2 h3 h5 h6 h10 h11 ha hc he k hP hD hS
theorem sm_zast {pc a : Nat} {i : Int} {ls st : List am_V} {h : am_H} {v : am_V} (hx : p.tables.exec = Jvm.exec) (hb : c.code = cc) (hK : va_K D vwCl (am_tys ca) s) (hdg : decode cc pc = .ok (.bastore, 1)) (ha : a < h.1) (hk : (h.2.2 a).1 = 1) (hf : am_fok 1 v = true) (h0 : 0 ≤ i) (hi : i < ((h.2.2 a).2.1 : Int)) (k : am_G p l e R s m args below meth c Q D ca ft A n0 z0 ad0 nL (pc + 1, ls, st, am_wr h a i.toNat v)) : am_G p l e R s m args below meth c Q D ca ft A n0 z0 ad0 nL (pc, ls, v :: vI i :: vR a :: st, h) := by
  intro ad H locs LS h1 h2 h3 h4 h5 h6 h7 h8 h9 h10 h11
  have h4 : am_gd ft h := h4
  have hvk : am_vk h.1 v := h5 v (by simp)
  obtain ⟨q1, q2⟩ := am_o_ix h0 hi (h5 (vI i) (by simp))
  have hc : am_gd ft (am_wr h a i.toNat v) := am_gd_wr h4 (by
    rcases h4 a ha with q | q
    · refine Or.inl ⟨q.1, q.2.1, fun j => ?_⟩
      show am_vt h.1 (am_ek (h.2.2 a).1) (am_up (h.2.2 a).2.2 i.toNat v j)
      unfold am_up
      by_cases e : j = i.toNat
      · rw [if_pos e, hk]
        exact ⟨hvk, hf⟩
      · rw [if_neg e]
        exact q.2.2 j
    · omega)
  have he : am_ce ad ca ((h.2.2 a).1, (h.2.2 a).2.1, am_up (h.2.2 a).2.2 i.toNat v) = .inl (ca 1, (h.2.2 a).2.1, .inl (upd (fun j => am_toI ((h.2.2 a).2.2 j)) i.toNat (am_toI v))) := by
    rw [am_ce_i (K := ((h.2.2 a).1, (h.2.2 a).2.1, am_up (h.2.2 a).2.2 i.toNat v)) hk (by omega)]
    refine congrArg (fun z => (Sum.inl (ca 1, (h.2.2 a).2.1, .inl z) : va_E)) (funext fun j => ?_)
    show am_toI (am_up _ _ _ j) = upd _ _ _ j
    unfold am_up upd
    by_cases e : j = i.toNat
    · rw [if_pos e, if_pos e]
    · rw [if_neg e, if_neg e]
  rw [show ((v :: vI i :: vR a :: st).map (am_cv ad)) = .int (am_toI v) :: .int (Int32.ofInt i) :: .ref (ad a) :: st.map (am_cv ad) by rw [List.map_cons, am_cv_zald ⟨hvk, hf⟩]; rfl]
  refine va_zast hx hb hK h7 h8 h9 a 1 ((am_ws_at ha).trans (by rw [am_ce_i hk (by omega)])) (am_tys_at ca (k := 1) (by omega)) q1 hdg (fun H1 locs1 hP hD hS => ?_)
  rw [q2, am_nar hvk hf] at hP hD
  exact am_put_go (us := [v, vI i, vR a]) h1 h2 h3 h5 h6 h10 h11 ha hc he k hP hD hS
theorem sm_last {pc a : Nat} {i : Int} {ls st : List am_V} {h : am_H} {v : am_V} (hx : p.tables.exec = Jvm.exec) (hb : c.code = cc) (hK : va_K D vwCl (am_tys ca) s) (hdg : decode cc pc = .ok (.lastore, 1)) (ha : a < h.1) (hk : (h.2.2 a).1 = 2) (hf : am_fok 2 v = true) (h0 : 0 ≤ i) (hi : i < ((h.2.2 a).2.1 : Int)) (k : am_G p l e R s m args below meth c Q D ca ft A n0 z0 ad0 nL (pc + 1, ls, st, am_wr h a i.toNat v)) : am_G p l e R s m args below meth c Q D ca ft A n0 z0 ad0 nL (pc, ls, v :: vI i :: vR a :: st, h) := by
  intro ad H locs LS h1 h2 h3 h4 h5 h6 h7 h8 h9 h10 h11
  have h4 : am_gd ft h := h4
  have hvk : am_vk h.1 v := h5 v (by simp)
  obtain ⟨q1, q2⟩ := am_o_ix h0 hi (h5 (vI i) (by simp))
  have hc : am_gd ft (am_wr h a i.toNat v) := am_gd_wr h4 (by
    rcases h4 a ha with q | q
    · refine Or.inl ⟨q.1, q.2.1, fun j => ?_⟩
      show am_vt h.1 (am_ek (h.2.2 a).1) (am_up (h.2.2 a).2.2 i.toNat v j)
      unfold am_up
      by_cases e : j = i.toNat
      · rw [if_pos e, hk]
        exact ⟨hvk, hf⟩
      · rw [if_neg e]
        exact q.2.2 j
    · omega)
  have he : am_ce ad ca ((h.2.2 a).1, (h.2.2 a).2.1, am_up (h.2.2 a).2.2 i.toNat v) = .inl (ca 2, (h.2.2 a).2.1, .inr <| .inl (vp_updL (fun j => am_toL ((h.2.2 a).2.2 j)) i.toNat (am_toL v))) := by
    rw [am_ce_l (K := ((h.2.2 a).1, (h.2.2 a).2.1, am_up (h.2.2 a).2.2 i.toNat v)) hk]
    refine congrArg (fun z => (Sum.inl (ca 2, (h.2.2 a).2.1, .inr <| .inl z) : va_E)) (funext fun j => ?_)
    show am_toL (am_up _ _ _ j) = vp_updL _ _ _ j
    unfold am_up vp_updL
    by_cases e : j = i.toNat
    · rw [if_pos e, if_pos e]
    · rw [if_neg e, if_neg e]
  rw [show ((v :: vI i :: vR a :: st).map (am_cv ad)) = .long (am_toL v) :: .int (Int32.ofInt i) :: .ref (ad a) :: st.map (am_cv ad) by rw [List.map_cons, am_cv_lald ⟨hvk, hf⟩]; rfl]
  refine va_last hx hb hK h7 h8 h9 a 2 ((am_ws_at ha).trans (by rw [am_ce_l hk])) (am_tys_at ca (k := 2) (by omega)) q1 hdg (fun H1 locs1 hP hD hS => ?_)
  rw [q2] at hP hD
  exact am_put_go (us := [v, vI i, vR a]) h1 h2 h3 h5 h6 h10 h11 ha hc he k hP hD hS
theorem am_ek_q {k : Nat} (h : 3 ≤ k) : am_ek k = 3 := by
  unfold am_ek
  split <;> omega
theorem sm_aald {pc a : Nat} {i : Int} {ls st : List am_V} {h : am_H} (hx : p.tables.exec = Jvm.exec) (hb : c.code = cc) (hK : va_K D vwCl (am_tys ca) s) (hdg : decode cc pc = .ok (.aaload, 1)) (ha : a < h.1) (hk : 3 ≤ (h.2.2 a).1) (hk7 : (h.2.2 a).1 < 7) (h0 : 0 ≤ i) (hi : i < ((h.2.2 a).2.1 : Int)) (k : am_G p l e R s m args below meth c Q D ca ft A n0 z0 ad0 nL (pc + 1, ls, (h.2.2 a).2.2 i.toNat :: st, h)) : am_G p l e R s m args below meth c Q D ca ft A n0 z0 ad0 nL (pc, ls, vI i :: vR a :: st, h) := by
  intro ad H locs LS h1 h2 h3 h4 h5 h6 h7 h8 h9 h10 h11
  have h4 : am_gd ft h := h4
  have hv := am_gd_arr h4 ha hk7 i.toNat
  rw [am_ek_q hk] at hv
  obtain ⟨q1, q2⟩ := am_o_ix h0 hi (h5 (vI i) (by simp))
  have hlt : (Int32.ofInt i).toNatClampNeg < (h.2.2 a).2.1 := Nat.not_le.mp fun q => q1 (Or.inr q)
  have hw : (am_ws ad ca h)[a]? = some (ad a, .inl (ca (h.2.2 a).1, (h.2.2 a).2.1, .inr (.inr (.inr (.inr (fun j => am_toR ad ((h.2.2 a).2.2 j))))))) := (am_ws_at ha).trans (by rw [am_ce_q hk hk7])
  have ht := am_tys_at ca (k := (h.2.2 a).1) hk7
  refine W.aald (v := va_rf (am_toR ad ((h.2.2 a).2.2 (Int32.ofInt i).toNatClampNeg))) (ty := am_ty (h.2.2 a).1) hx hb (h7 a _ hw) ((hK.2 (h.2.2 a).1 _ ht).1 (h.2.2 a).2.1 (fun j => va_rf (am_toR ad ((h.2.2 a).2.2 j)))) (by
    unfold am_ty
    split <;> first | rfl | omega) (fun q => by cases q) (by show ¬ (Int32.ofInt i < 0 ∨ (arrV _ _ _).slots.size ≤ _); rw [arrV_size]; exact q1) (by show (arrV _ _ _).slots[_]? = _; rw [arrV_read _ _ hlt]) rfl rfl hdg ?_
  rw [q2, ← am_cv_aald hv]
  exact k ad H locs LS h1 h2 h3 h4 (fun w hw => (List.mem_cons.mp hw).elim (fun q => by rw [q]; exact hv.1) (fun q => h5 w (by simp [q]))) h6 h7 h8 h9 h10 h11
theorem sm_aast {pc a b ci : Nat} {r : vw_C} {i : Int} {ls st : List am_V} {h : am_H} (hx : p.tables.exec = Jvm.exec) (hb : c.code = cc) (hK : va_K D vwCl (am_tys ca) s) (hdg : decode cc pc = .ok (.aastore, 1)) (ha : a < h.1) (hb2 : b < h.1) (hk : 3 ≤ (h.2.2 a).1) (hk7 : (h.2.2 a).1 < 7) (hr : vwCl[ci]? = some r) (hty : am_ty (h.2.2 a).1 = .object r.1) (hkb : (h.2.2 b).1 = 10 + ci) (h0 : 0 ≤ i) (hi : i < ((h.2.2 a).2.1 : Int)) (k : am_G p l e R s m args below meth c Q D ca ft A n0 z0 ad0 nL (pc + 1, ls, st, am_wr h a i.toNat (vR b))) : am_G p l e R s m args below meth c Q D ca ft A n0 z0 ad0 nL (pc, ls, vR b :: vI i :: vR a :: st, h) := by
  intro ad H locs LS h1 h2 h3 h4 h5 h6 h7 h8 h9 h10 h11
  have h4 : am_gd ft h := h4
  obtain ⟨q1, q2⟩ := am_o_ix h0 hi (h5 (vI i) (by simp))
  have hc : am_gd ft (am_wr h a i.toNat (vR b)) := am_gd_wr h4 (by
    rcases h4 a ha with q | q
    · refine Or.inl ⟨q.1, q.2.1, fun j => ?_⟩
      show am_vt h.1 (am_ek (h.2.2 a).1) (am_up (h.2.2 a).2.2 i.toNat (vR b) j)
      unfold am_up
      by_cases e : j = i.toNat
      · rw [if_pos e, am_ek_q hk]
        exact ⟨hb2, rfl⟩
      · rw [if_neg e]
        exact q.2.2 j
    · omega)
  have he : am_ce ad ca ((h.2.2 a).1, (h.2.2 a).2.1, am_up (h.2.2 a).2.2 i.toNat (vR b)) = .inl (ca (h.2.2 a).1, (h.2.2 a).2.1, .inr (.inr (.inr (.inr (va_up (fun j => am_toR ad ((h.2.2 a).2.2 j)) i.toNat (some (ad b))))))) := by
    rw [am_ce_q (K := ((h.2.2 a).1, (h.2.2 a).2.1, am_up (h.2.2 a).2.2 i.toNat (vR b))) hk hk7]
    refine congrArg (fun z => (Sum.inl (ca (h.2.2 a).1, (h.2.2 a).2.1, .inr (.inr (.inr (.inr z)))) : va_E)) (funext fun j => ?_)
    show am_toR ad (am_up _ _ _ j) = va_up _ _ _ j
    unfold am_up va_up
    by_cases e : j = i.toNat
    · rw [if_pos e, if_pos e]
      rfl
    · rw [if_neg e, if_neg e]
  have hw : (am_ws ad ca h)[a]? = some (ad a, .inl (ca (h.2.2 a).1, (h.2.2 a).2.1, .inr (.inr (.inr (.inr (fun j => am_toR ad ((h.2.2 a).2.2 j))))))) := (am_ws_at ha).trans (by rw [am_ce_q hk hk7])
  have ht := am_tys_at ca (k := (h.2.2 a).1) hk7
  rw [hty] at ht
  refine va_astq hx hb hK h7 h8 h9 a (h.2.2 a).1 b ci hw ht ((am_ws_at hb2).trans (by rw [am_ce_obj hkb])) hr q1 hdg (fun H1 locs1 hP hD hS => ?_)
  rw [q2] at hP hD
  exact am_put_go (us := [vR b, vI i, vR a]) h1 h2 h3 h5 h6 h10 h11 ha hc he k hP hD hS
theorem sm_len {pc a : Nat} {ls st : List am_V} {h : am_H} (hx : p.tables.exec = Jvm.exec) (hb : c.code = cc) (hK : va_K D vwCl (am_tys ca) s) (hdg : decode cc pc = .ok (.arraylength, 1)) (ha : a < h.1) (hk7 : (h.2.2 a).1 < 7) (k : am_G p l e R s m args below meth c Q D ca ft A n0 z0 ad0 nL (pc + 1, ls, vI ((h.2.2 a).2.1 : Int) :: st, h)) : am_G p l e R s m args below meth c Q D ca ft A n0 z0 ad0 nL (pc, ls, vR a :: st, h) := by
  intro ad H locs LS h1 h2 h3 h4 h5 h6 h7 h8 h9 h10 h11
  have h4 : am_gd ft h := h4
  have hn : (h.2.2 a).2.1 ≤ 1024 := by
    rcases h4 a ha with q | q
    · exact q.2.1
    · omega
  have hr : am_r32 ((h.2.2 a).2.1 : Int) := by unfold am_r32; omega
  have ht := am_tys_at ca (k := (h.2.2 a).1) hk7
  have K := k ad H locs LS h1 h2 h3 h4 (fun w hw => (List.mem_cons.mp hw).elim (fun q => by rw [q]; exact hr) (fun q => h5 w (by simp [q]))) h6 h7 h8 h9 h10 h11
  have e : Int32.ofNat (h.2.2 a).2.1 = Int32.ofInt ((h.2.2 a).2.1 : Int) := Int32.toInt_inj.mp (by rw [am_tI hr]; exact nI_toInt (by omega))
  have hw := am_ws_at (ad := ad) (ca := ca) ha
  by_cases q1 : (h.2.2 a).1 < 2
  · rw [am_ce_i rfl q1] at hw
    exact va_alen hx hb hK h7 a (h.2.2 a).1 hw ht e hdg K
  · by_cases q2 : (h.2.2 a).1 = 2
    · rw [am_ce_l q2] at hw
      rw [q2] at ht
      exact va_alen hx hb hK h7 a 2 hw ht e hdg K
    · rw [am_ce_q (by omega) hk7] at hw
      exact va_alen hx hb hK h7 a (h.2.2 a).1 hw ht e hdg K
end SM
