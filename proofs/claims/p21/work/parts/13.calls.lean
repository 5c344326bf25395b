/-! Calls and returns. -/
/-- a method's start and end, over the small machine's cells -/
def am_Pc (D : va_G) (ca : Nat → ClassId) (KK : State → Prop) (ad : Nat → Nat) (as : List am_V) (h : am_H) (sz : Nat) : Array Value → State → Prop := va_Pc (as.map (am_cv ad)) (fun U => U.heap.size = sz ∧ va_P D vwCl (am_ws ad ca h) U.heap ∧ KK U ∧ va_D (fun _ => True) (am_ws ad ca h))
def am_Qc (D : va_G) (ca : Nat → ClassId) (ft : am_ft) (ad : Nat → Nat) (h : am_H) (r : Option am_V) (h2 : am_H) (sz : Nat) : Array Value → State → Outcome → State → Prop := fun _ st oc t =>
  (∃ ad2 : Nat → Nat, (∀ k, k < h.1 → ad2 k = ad k) ∧ oc = .returned (r.map (am_cv ad2)) ∧ am_gd ft h2 ∧ (∀ v, r = some v → am_vk h2.1 v) ∧ h.1 ≤ h2.1 ∧ h.2.1 ≤ h2.2.1 ∧ va_P D vwCl (am_ws ad2 ca h2) t.heap ∧ va_D (va_A (am_ws ad ca h) sz) (am_ws ad2 ca h2)) ∧ va_F (va_A (am_ws ad ca h) sz) st t
/-- what the tables say of the claim's classes, and goes with every state -/
def am_KK (D : va_G) (ca : Nat → ClassId) (U : State) : Prop := va_K D vwCl (am_tys ca) U ∧ va_Nw (.methodLinkNest "StrandBoxes" 27 yX3_init "StrandBoxes") U ∧ va_Nw (.methodLinkNest "StrandBoxes" 34 yX1_init "StrandBoxes") U ∧ am_AO U
theorem am_KK.warm {D : va_G} {ca : Nat → ClassId} {s U : State} (hW : s.WarmedH U.vm) (h : am_KK D ca s) : am_KK D ca U := ⟨va_K.moved hW.alike h.1, va_Nw.warmM hW h.2.1, va_Nw.warmM hW h.2.2.1, h.2.2.2.warm hW⟩
theorem am_KK.call {D : va_G} {ca : Nat → ClassId} {U : State} {g : JFrame} {mk : MethodId} {a : Array Value} (h : am_KK D ca U) : am_KK D ca (U.calling g mk a) := ⟨va_K.moved (u := U) (U := U.calling g mk a) (Vm.Alike.refl U.vm) h.1, va_Nw.same (u := U) (U := U.calling g mk a) rfl rfl h.2.1, va_Nw.same (u := U) (U := U.calling g mk a) rfl rfl h.2.2.1, h.2.2.2.same (u := U) (U := U.calling g mk a) rfl⟩
theorem am_Pc.blind {D : va_G} {ca : Nat → ClassId} {ad : Nat → Nat} {as : List am_V} {h : am_H} {sz : Nat} : FrameBlind (am_Pc D ca (am_KK D ca) ad as h sz) := fun a U g mk q => by
  obtain ⟨q0, q1, qP, qK, qD⟩ := q
  exact ⟨q0, q1, qP, qK.call, qD⟩
theorem am_Pc.at {D : va_G} {ca : Nat → ClassId} {ad : Nat → Nat} {as : List am_V} {h : am_H} {s : State} {H : Heap} {A : Nat → Prop} (hK : am_KK D ca s) (hP : va_P D vwCl (am_ws ad ca h) H) (hD : va_D A (am_ws ad ca h)) : ∀ U : State, U.heap = H → s.WarmedH U.vm → am_Pc D ca (am_KK D ca) ad as h H.size (as.map (am_cv ad)).toArray U := fun U hU hW => ⟨rfl, by rw [hU], by rw [hU]; exact hP, hK.warm hW, hD.weaken (fun _ _ _ _ => trivial)⟩
theorem am_cat_cv {ad : Nat → Nat} (v : am_V) : (am_cv ad v).category = am_cat v := by
  rcases v with (x | x) | _ | _ | a <;> rfl
theorem am_cat_sum {ad : Nat → Nat} (st : List am_V) : ((st.map (am_cv ad)).map fun v => v.category).sum = (st.map am_cat).sum := by
  rw [List.map_map]
  congr 1
  exact List.map_congr_left fun v _ => am_cat_cv v
section SM
variable {p : Program} {l : Launch} {e : Env} {R : Room} {s : State} {m : MethodId} {args : Array Value} {below : List Frame} {meth : Method} {c : Code} {Q : State → Prop} {D : va_G} {ca : Nat → ClassId} {ft : am_ft} {A : Nat → Prop} {n0 z0 : Nat} {ad0 : Nat → Nat} {nL : Nat} {cc : ByteArray}
/-- behind a call: as = its arguments, rest = what lies below them -/
theorem sm_back {pc : Nat} {ls as rest : List am_V} {h h2 : am_H} {r : Option am_V} {a : Array Value} {mc ms : Nat} (hA : ∀ q, s.heap.size ≤ q → A q) (hmc : mc = h2.1 - h.1) (hms : ms = h2.2.1 - h.2.1)
    (hrun : ∀ (ad : Nat → Nat) (H : Heap) (locs : List Loc) (LS : Array Slot), n0 ≤ h.1 → z0 ≤ h.2.1 → am_gd ft h → (∀ v ∈ as.reverse ++ rest, am_vk h.1 v) → va_P D vwCl (am_ws ad ca h) H → va_D A (am_ws ad ca h) → LS.size = nL →
      va_Run p l e R s m args below meth c H locs (h.1 - n0) (h.2.1 - z0) mc ms (F0 m pc LS ((as.reverse ++ rest).map (am_cv ad))) (rest.map (am_cv ad)) (am_Qc D ca ft ad h r h2 H.size ((as.map (am_cv ad)).toArray)) (va_A (am_ws ad ca h) H.size))
    (k : am_G p l e R s m args below meth c Q D ca ft A n0 z0 ad0 nL (pc + 3, ls, r.toList ++ rest, h2)) : am_G p l e R s m args below meth c Q D ca ft A n0 z0 ad0 nL (pc, ls, as.reverse ++ rest, h) := by
  intro ad H locs LS h1 h2_ h3 h4 h5 h6 h7 h8 h9 h10 h11
  have h2_ : n0 ≤ h.1 := h2_
  have h3 : z0 ≤ h.2.1 := h3
  have h6 : ∀ v ∈ ls, v = vU ∨ am_vk h.1 v := h6
  have hs5 : ∀ w ∈ rest, am_vk h.1 w := fun w hw => h5 w (List.mem_append_right _ hw)
  have hfree : ∀ q, va_A (am_ws ad ca h) H.size q → A q := fun q hq => by
    rcases hq with ⟨j, e9, hj⟩ | hq
    · exact h8.2 j _ hj
    · exact hA q (Nat.le_trans h9.1 hq)
  intro T hT X
  obtain ⟨v, st₀, t, T', L, g0, X', hL, e1, e2, ⟨⟨ad2, q1, q2, q3, q4, q5, q6, qP, qD⟩, qz, qk⟩, st⟩ := hrun ad H locs LS h2_ h3 h4 h5 h7 h8 (h10.1.trans h11) T hT X
  have q2 : v = r.map (am_cv ad2) := Outcome.returned.inj q2
  rw [g0] at qz qk
  rw [← e1] at qP qz qk
  have hS' : va_S A s.heap T'.heap (locs ++ L) := ⟨Nat.le_trans h9.1 qz, fun q j1 j2 => by
      rw [qk q (Nat.lt_of_lt_of_le j1 h9.1) (fun z => j2 (hfree q z))]
      exact h9.2.1 q j1 j2, fun q hq => (List.mem_append.mp hq).elim (h9.2.2 q) (fun z => hfree _ (hL q z))⟩
  have K := k ad2 T'.heap (locs ++ L) LS (fun j hj => (q1 j (by omega)).trans (h1 j hj)) (show n0 ≤ h2.1 by omega) (show z0 ≤ h2.2.1 by omega) q3
    (fun w hw => (List.mem_append.mp hw).elim (fun z => q4 w (Option.mem_toList.mp z)) (fun z => (hs5 w z).mono q5))
    (fun w hw => (h6 w hw).elim Or.inl (fun z => Or.inr (z.mono q5))) qP (qD.weaken (fun _ q _ z => hfree q.1 z)) hS' (h10.cg q1 h6) h11
  have e3 : (r.toList ++ rest).map (am_cv ad2) = v.toList ++ rest.map (am_cv ad) := by
    rw [List.map_append, am_st_cg q1 hs5, q2]
    congr 1
    cases r <;> rfl
  rw [e3] at K
  have K2 := W.cs (show h.1 - n0 + mc = h2.1 - n0 by omega) (show h.2.1 - z0 + ms = h2.2.1 - z0 by omega) K
  obtain ⟨t2, a1, b1⟩ := K2 T' rfl X'
  exact ⟨t2, st t2 a1, b1⟩
/-- the end of a method -/
theorem sm_ret {pc x len : Nat} {ins : Instr} {ls : List am_V} {h0 h : am_H} {v : am_V} {ret : Option FieldType} {sz : Nat} (hx : p.tables.exec = Jvm.exec) (hb : c.code = cc) (hr : meth.sig.returnType = ret) (hlocks : meth.locks = false) (hdg : decode cc pc = .ok (ins, 1)) (hsz : s.heap.size = sz)
    (hrt : (ins = .ireturn ∧ x = 0 ∧ ret = some .int) ∨ (ins = .ireturn ∧ x = 1 ∧ ret = some .boolean) ∨ (ins = .lreturn ∧ x = 2 ∧ ret = some .long)) (hv : am_fok x v = true) :
    am_G p l e R s m args below meth c (MQ below (am_Qc D ca ft ad0 h0 (some v) h sz) args s (h.1 - h0.1) (h.2.1 - h0.2.1) (va_A (am_ws ad0 ca h0) sz)) D ca ft (va_A (am_ws ad0 ca h0) sz) h0.1 h0.2.1 ad0 nL (pc, ls, [v], h) := by
  intro ad H locs LS h1 h2 h3 h4 h5 h6 h7 h8 h9 h10 h11
  have h4 : am_gd ft h := h4
  have hvk : am_vk h.1 v := h5 v (by simp)
  have fin : ∀ (t : State) (z : Value), z = am_cv ad v → t.heap = H → am_Qc D ca ft ad0 h0 (some v) h sz args s (.returned (some z)) t := fun t z hz ht => ⟨⟨ad, h1, by rw [hz]; rfl, h4, fun w hw => by cases hw; exact hvk, h2, h3, by rw [ht]; exact h7, h8⟩, h9.F ht⟩
  rcases hrt with ⟨rfl, rfl, rfl⟩ | ⟨rfl, rfl, rfl⟩ | ⟨rfl, rfl, rfl⟩
  · have e9 := am_cv_iald (ad := ad) ⟨hvk, hv⟩
    show W p l e R s m args below meth c H locs _ _ _ (F0 m pc LS [am_cv ad v])
    rw [e9]
    exact W.iret hx hb hr (fun t ht hW => fin t _ e9.symm ht) h9.2.2 hdg hlocks
  · have e9 := am_cv_zald (ad := ad) ⟨hvk, hv⟩
    have e8 := (am_fit (ad := ad) (ty := .boolean) hvk hv rfl).1
    rw [e9] at e8
    show W p l e R s m args below meth c H locs _ _ _ (F0 m pc LS [am_cv ad v])
    rw [e9]
    exact W.zret hx hb hr e8 (fun t ht hW => fin t _ e9.symm ht) h9.2.2 hdg hlocks
  · have e9 := am_cv_lald (ad := ad) ⟨hvk, hv⟩
    show W p l e R s m args below meth c H locs _ _ _ (F0 m pc LS [am_cv ad v])
    rw [e9]
    exact W.lret hx hb hr (fun t ht hW => fin t _ e9.symm ht) h9.2.2 hdg hlocks
theorem sm_retv {pc : Nat} {ls : List am_V} {h0 h : am_H} {sz : Nat} (hx : p.tables.exec = Jvm.exec) (hb : c.code = cc) (hr : meth.sig.returnType = none) (hlocks : meth.locks = false) (hdg : decode cc pc = .ok (.return_, 1)) (hsz : s.heap.size = sz) :
    am_G p l e R s m args below meth c (MQ below (am_Qc D ca ft ad0 h0 none h sz) args s (h.1 - h0.1) (h.2.1 - h0.2.1) (va_A (am_ws ad0 ca h0) sz)) D ca ft (va_A (am_ws ad0 ca h0) sz) h0.1 h0.2.1 ad0 nL (pc, ls, [], h) := by
  intro ad H locs LS h1 h2 h3 h4 h5 h6 h7 h8 h9 h10 h11
  have h4 : am_gd ft h := h4
  exact W.vret hx hb hr (fun t ht hW => ⟨⟨ad, h1, rfl, h4, fun w hw => by (cases hw), h2, h3, by rw [ht]; exact h7, h8⟩, h9.F ht⟩) h9.2.2 hdg hlocks
end SM
