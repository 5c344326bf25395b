/-! New cells; copies. -/
section SM
variable {p : Program} {l : Launch} {e : Env} {R : Room} {s : State} {m : MethodId} {args : Array Value} {below : List Frame} {meth : Method} {c : Code} {Q : State → Prop} {D : va_G} {ca : Nat → ClassId} {ft : am_ft} {A : Nat → Prop} {n0 z0 : Nat} {ad0 : Nat → Nat} {nL : Nat} {cc : ByteArray}
theorem am_LR.cg {ad ad2 : Nat → Nat} {n : Nat} {ls : List am_V} {LS : Array Slot} (h : am_LR ad ls LS) (hh : ∀ k, k < n → ad2 k = ad k) (hl : ∀ v ∈ ls, v = vU ∨ am_vk n v) : am_LR ad2 ls LS := by
  refine ⟨h.1, h.2.1, fun q hq => ?_⟩
  obtain ⟨v, h1, h2, h3⟩ := am_lvl_mem.mp hq
  have hv : am_vk n v := (hl v (List.mem_of_getElem? h1)).elim (fun z => absurd z h2) (fun z => z)
  exact h.2.2 q (am_lvl_mem.mpr ⟨v, h1, h2, by rw [h3, am_cv_cg hh hv]⟩)
theorem am_st_cg {ad ad2 : Nat → Nat} {n : Nat} {st : List am_V} (hh : ∀ k, k < n → ad2 k = ad k) (hl : ∀ v ∈ st, am_vk n v) : st.map (am_cv ad2) = st.map (am_cv ad) := List.map_congr_left fun v hv => am_cv_cg hh (hl v hv)
theorem am_up_lt {ad : Nat → Nat} {n q : Nat} : ∀ k, k < n → am_up ad n q k = ad k := fun k hk => by simp [am_up, Nat.ne_of_lt hk]
/-- behind a new cell -/
theorem am_new_go {pc2 q kd n : Nat} {ls st us : List am_V} {h : am_H} {f : Nat → am_V} {ad : Nat → Nat} {H : Heap} {locs : List Loc} {LS : Array Slot} {e1 : va_E} (h1 : ∀ k, k < n0 → ad k = ad0 k) (h2 : n0 ≤ h.1) (h3 : z0 ≤ h.2.1) (h4 : am_gd ft h) (h5 : ∀ w ∈ us ++ st, am_vk h.1 w) (h6 : ∀ w ∈ ls, w = vU ∨ am_vk h.1 w) (h10 : am_LR ad ls LS) (h11 : ls.length = nL) (hc : am_ckd ft (h.1 + 1) (kd, n, f))
    (he : am_ce (am_up ad h.1 q) ca (kd, n, f) = e1) (k : am_G p l e R s m args below meth c Q D ca ft A n0 z0 ad0 nL (pc2, ls, vR h.1 :: st, am_mk h kd n f))
    (hP : va_P D vwCl (am_ws ad ca h ++ [(q, e1)]) H) (hD : va_D A (am_ws ad ca h ++ [(q, e1)])) (hS : va_S A s.heap H locs) : W p l e R s m args below meth c H locs (h.1 - n0 + 1) (h.2.1 - z0 + n) Q (F0 m pc2 LS (.ref q :: st.map (am_cv ad))) := by
  have e : am_ws (am_up ad h.1 q) ca (am_mk h kd n f) = am_ws ad ca h ++ [(q, e1)] := by
    rw [← he]
    exact am_ws_push h4
  rw [← e] at hP hD
  have hlt : ∀ k, k < h.1 → am_up ad h.1 q k = ad k := am_up_lt
  have hs5 : ∀ w ∈ st, am_vk h.1 w := fun w hw => h5 w (List.mem_append_right _ hw)
  have K := k (am_up ad h.1 q) H locs LS (fun j hj => (hlt j (by omega)).trans (h1 j hj)) (show n0 ≤ h.1 + 1 by omega) (show z0 ≤ h.2.1 + n by omega) (fun j hj => by
      show am_ckd ft (h.1 + 1) (am_up h.2.2 h.1 (kd, n, f) j)
      have hj : j < h.1 + 1 := hj
      unfold am_up
      by_cases e9 : j = h.1
      · rw [if_pos e9]
        exact hc
      · rw [if_neg e9]
        exact (h4 j (by omega)).mono (Nat.le_succ _))
    (fun w hw => (List.mem_cons.mp hw).elim (fun z => by rw [z]; exact Nat.lt_succ_self _) (fun z => (hs5 w z).mono (Nat.le_succ _)))
    (fun w hw => (h6 w hw).elim Or.inl (fun z => Or.inr (z.mono (Nat.le_succ _)))) hP hD hS (h10.cg hlt h6) h11
  have e2 : (vR h.1 :: st).map (am_cv (am_up ad h.1 q)) = .ref q :: st.map (am_cv ad) := by
    rw [List.map_cons, am_st_cg hlt hs5]
    show Value.ref (am_up ad h.1 q h.1) :: _ = _
    simp [am_up]
  exact W.cs (show h.1 - n0 + 1 = h.1 + 1 - n0 by omega) (show h.2.1 - z0 + n = h.2.1 + n - z0 by omega) (by rw [← e2]; exact K)
theorem am_dv_ok {n k : Nat} {ty : FieldType} (h : am_tk k ty = true) : am_vt n k (am_dv k) ∧ ∀ ad, defaultValue ty = am_cv ad (am_dv k) := by
  unfold am_tk at h
  split at h
  · exact ⟨⟨am_0r, rfl⟩, fun _ => rfl⟩
  · exact ⟨⟨am_0r, rfl⟩, fun _ => rfl⟩
  · exact ⟨⟨am_0l, rfl⟩, fun _ => rfl⟩
  · exact ⟨⟨trivial, rfl⟩, fun _ => rfl⟩
  · exact ⟨⟨trivial, rfl⟩, fun _ => rfl⟩
  · cases h
theorem sm_new {own : String} {Ts : List Cond} {pc index x : Nat} {ls st : List am_V} {h : am_H} {C : String} {T : u_T} {N : Nat} (tyf : Nat → FieldType) (hx : p.tables.exec = Jvm.exec) (hb : c.code = cc) (hown : s.vm.findClass own = some m.cls) (hts : ∀ w ∈ Ts, w.before args s = true) (hK : va_K D vwCl (am_tys ca) s) (hA : ∀ q, s.heap.size ≤ q → A q) (hdg : decode cc pc = .ok (.new index, 3))
    (f1 : vwCl[x]? = some (C, T, N)) (f4 : ∀ w ∈ u_ws C T N, w ∈ Ts) (f5 : ∀ k, k < N → parseFieldDescriptor (T k).2.2.1 = some (tyf k)) (f7 : ∀ k, k < N → am_tk (ft x k) (tyf k) = true) (f8 : Cond.classLink own index C ∈ Ts) (f9 : Cond.instantiable C N ∈ Ts) (f10 : Cond.initialized C ∈ Ts)
    (hrc : h.1 + 1 - n0 ≤ R.cells) (hrs : h.2.1 + N - z0 ≤ R.slots) (k : am_G p l e R s m args below meth c Q D ca ft A n0 z0 ad0 nL (pc + 3, ls, vR h.1 :: st, am_mk h (10 + x) N (fun j => am_dv (ft x j)))) : am_G p l e R s m args below meth c Q D ca ft A n0 z0 ad0 nL (pc, ls, st, h) := by
  intro ad H locs LS h1 h2 h3 h4 h5 h6 h7 h8 h9 h10 h11
  have h4 : am_gd ft h := h4
  have h2 : n0 ≤ h.1 := h2
  have h3 : z0 ≤ h.2.1 := h3
  refine va_new (fs := (List.range N).map (fun j => am_cv ad (am_dv (ft x j)))) hx hb hts f4 tyf f5 hown (hts _ f8) (hts _ f9) (hts _ f10) hK h7 h8 h9 hA f1 (fun j hj => ?_) (show h.1 - n0 + 1 ≤ R.cells by omega) (show h.2.1 - z0 + N ≤ R.slots by omega) hdg (fun q H1 hP hD hS => ?_)
  · rw [(am_dv_ok (n := 0) (f7 j hj)).2 ad]
    unfold vp_V
    simp [hj]
  · refine am_new_go (us := []) (kd := 10 + x) (n := N) (f := fun j => am_dv (ft x j)) h1 h2 h3 h4 h5 h6 h10 h11 (Or.inr ⟨Nat.le_add_right _ _, fun i hi => ?_⟩) ?_ k hP hD hS
    · show am_vt _ (ft (10 + x - 10) i) (am_dv (ft x i))
      rw [Nat.add_sub_cancel_left]
      exact (am_dv_ok (f7 i hi)).1
    · rw [am_ce_obj (K := (10 + x, N, fun j => am_dv (ft x j))) rfl]
      refine congrArg (fun z => (Sum.inr (x, z) : va_E)) (List.map_congr_left fun j hj => ?_)
      have hj := List.mem_range.mp hj
      rw [← (am_dv_ok (n := 0) (f7 j hj)).2 ad, ← (am_dv_ok (n := 0) (f7 j hj)).2 (am_up ad h.1 q)]
theorem am_ca_eq {ty : FieldType} {k : Nat} {cA : ClassId} (hk : k < 3) (hty : am_ty k = ty) (hK : va_K D vwCl (am_tys ca) s) (h : va_RA s cA ty) : cA = ca k := by
  have h2 := (hK.2 k _ (am_tys_at ca (k := k) (by omega))).2
  rw [hty] at h2
  subst hty
  rcases (show k = 0 ∨ k = 1 ∨ k = 2 by omega) with rfl | rfl | rfl <;> exact Option.some.inj (Eq.trans (Eq.symm h) h2)
theorem sm_newa {Ts : List Cond} {pc kd : Nat} {n : Int} {at9 : ArrayType} {ls st : List am_V} {h : am_H} (hx : p.tables.exec = Jvm.exec) (hb : c.code = cc) (hts : ∀ w ∈ Ts, w.before args s = true) (hK : va_K D vwCl (am_tys ca) s) (hA : ∀ q, s.heap.size ≤ q → A q) (hdg : decode cc pc = .ok (.newarray at9, 2))
    (hkd : kd < 3) (hty : newarray.typeOf at9 = am_ty kd) (f8 : Cond.arrayClass (newarray.typeOf at9) ∈ Ts) (hn0 : 0 ≤ n) (hn : n ≤ 1024)
    (hrc : h.1 + 1 - n0 ≤ R.cells) (hrs : h.2.1 + n.toNat - z0 ≤ R.slots) (k : am_G p l e R s m args below meth c Q D ca ft A n0 z0 ad0 nL (pc + 2, ls, vR h.1 :: st, am_mk h kd n.toNat (fun _ => am_dv kd))) : am_G p l e R s m args below meth c Q D ca ft A n0 z0 ad0 nL (pc, ls, vI n :: st, h) := by
  intro ad H locs LS h1 h2 h3 h4 h5 h6 h7 h8 h9 h10 h11
  have h4 : am_gd ft h := h4
  have h2 : n0 ≤ h.1 := h2
  have h3 : z0 ≤ h.2.1 := h3
  have hr : am_r32 n := h5 (vI n) (by simp)
  have hneg : ¬ Int32.ofInt n < 0 := fun q => by
    have := (am_o_lt hr am_0r).mp q
    omega
  have hN : (Int32.ofInt n).toNatClampNeg = n.toNat := by
    show (Int32.ofInt n).toInt.toNat = n.toNat
    rw [am_tI hr]
  have hck : am_ckd ft (h.1 + 1) (kd, n.toNat, fun _ => am_dv kd) := Or.inl ⟨show kd < 7 by omega, show n.toNat ≤ 1024 by omega, fun i => by
    rcases (show kd = 0 ∨ kd = 1 ∨ kd = 2 by omega) with rfl | rfl | rfl
    · exact ⟨am_0r, rfl⟩
    · exact ⟨am_0r, rfl⟩
    · exact ⟨am_0l, rfl⟩⟩
  rcases (show kd = 0 ∨ kd = 1 ∨ kd = 2 by omega) with rfl | rfl | rfl
  · refine va_newa (a0 := (n.toNat, .inl (fun _ => 0))) hx hb (hts _ f8) hty hK h7 h8 h9 hA (fun _ => rfl) hneg hN (by show n.toNat * 4 ≤ 536870912; omega) (show h.1 - n0 + 1 ≤ R.cells by omega) (show h.2.1 - z0 + n.toNat ≤ R.slots by omega) hdg (fun q cA H1 hK1 hP hD hS => ?_)
    have e := am_ca_eq (k := 0) (cA := cA) (by omega) rfl hK (hK1.2 7 _ rfl).2
    subst e
    exact am_new_go (us := [vI n]) h1 h2 h3 h4 h5 h6 h10 h11 hck (am_ce_i (K := (0, n.toNat, fun _ => vI 0)) rfl (by omega)) k hP hD hS
  · refine va_newa (a0 := (n.toNat, .inl (fun _ => 0))) hx hb (hts _ f8) hty hK h7 h8 h9 hA (fun _ => rfl) hneg hN (by show n.toNat * 1 ≤ 536870912; omega) (show h.1 - n0 + 1 ≤ R.cells by omega) (show h.2.1 - z0 + n.toNat ≤ R.slots by omega) hdg (fun q cA H1 hK1 hP hD hS => ?_)
    have e := am_ca_eq (k := 1) (cA := cA) (by omega) rfl hK (hK1.2 7 _ rfl).2
    subst e
    exact am_new_go (us := [vI n]) h1 h2 h3 h4 h5 h6 h10 h11 hck (am_ce_i (K := (1, n.toNat, fun _ => vI 0)) rfl (by omega)) k hP hD hS
  · refine va_newa (a0 := (n.toNat, .inr (.inl (fun _ => 0)))) hx hb (hts _ f8) hty hK h7 h8 h9 hA (fun _ => rfl) hneg hN (by show n.toNat * 8 ≤ 536870912; omega) (show h.1 - n0 + 1 ≤ R.cells by omega) (show h.2.1 - z0 + n.toNat ≤ R.slots by omega) hdg (fun q cA H1 hK1 hP hD hS => ?_)
    have e := am_ca_eq (k := 2) (cA := cA) (by omega) rfl hK (hK1.2 7 _ rfl).2
    subst e
    exact am_new_go (us := [vI n]) h1 h2 h3 h4 h5 h6 h10 h11 hck (am_ce_l (K := (2, n.toNat, fun _ => vL 0)) rfl) k hP hD hS
theorem sm_newq {own C : String} {Ts : List Cond} {pc index kd : Nat} {n : Int} {ls st : List am_V} {h : am_H} (hx : p.tables.exec = Jvm.exec) (hb : c.code = cc) (hown : s.vm.findClass own = some m.cls) (hts : ∀ w ∈ Ts, w.before args s = true) (hK : va_K D vwCl (am_tys ca) s) (hA : ∀ q, s.heap.size ≤ q → A q) (hdg : decode cc pc = .ok (.anewarray index, 3))
    (hkd : 4 ≤ kd) (hk7 : kd < 7) (hty : am_ty kd = .object C) (f8 : Cond.classLink own index C ∈ Ts) (f9 : va_AO C s) (hn0 : 0 ≤ n) (hn : n ≤ 1024)
    (hrc : h.1 + 1 - n0 ≤ R.cells) (hrs : h.2.1 + n.toNat - z0 ≤ R.slots) (k : am_G p l e R s m args below meth c Q D ca ft A n0 z0 ad0 nL (pc + 3, ls, vR h.1 :: st, am_mk h kd n.toNat (fun _ => am_dv kd))) : am_G p l e R s m args below meth c Q D ca ft A n0 z0 ad0 nL (pc, ls, vI n :: st, h) := by
  intro ad H locs LS h1 h2 h3 h4 h5 h6 h7 h8 h9 h10 h11
  have h4 : am_gd ft h := h4
  have h2 : n0 ≤ h.1 := h2
  have h3 : z0 ≤ h.2.1 := h3
  have hr : am_r32 n := h5 (vI n) (by simp)
  have hneg : ¬ Int32.ofInt n < 0 := fun q => by
    have := (am_o_lt hr am_0r).mp q
    omega
  have hN : (Int32.ofInt n).toNatClampNeg = n.toNat := by
    show (Int32.ofInt n).toInt.toNat = n.toNat
    rw [am_tI hr]
  have hdv : am_dv kd = vN := by
    rcases (show kd = 4 ∨ kd = 5 ∨ kd = 6 by omega) with rfl | rfl | rfl <;> rfl
  refine va_newq hx hb hown (hts _ f8) f9 hK h7 h8 h9 hA hneg hN (by omega) (show h.1 - n0 + 1 ≤ R.cells by omega) (show h.2.1 - z0 + n.toNat ≤ R.slots by omega) hdg (fun q cA H1 hK1 hP hD hS => ?_)
  have e : cA = ca kd := by
    have g1 := (hK1.2 7 (cA, .object C) rfl).2
    have g2 := (hK.2 kd _ (am_tys_at ca hk7)).2
    rw [hty] at g2
    obtain ⟨_, _, _, _, _, g3⟩ := g1
    obtain ⟨_, _, _, _, _, g4⟩ := g2
    exact Option.some.inj (g3.symm.trans g4)
  subst e
  refine am_new_go (us := [vI n]) h1 h2 h3 h4 h5 h6 h10 h11 (Or.inl ⟨hk7, show n.toNat ≤ 1024 by omega, fun i => ?_⟩) ?_ k hP hD hS
  · show am_vt _ (am_ek kd) (am_dv kd)
    rw [am_ek_q (by omega), hdv]
    exact ⟨trivial, rfl⟩
  · rw [am_ce_q (K := (kd, n.toNat, fun _ => am_dv kd)) (by show 3 ≤ kd; omega) hk7, hdv]
    rfl
theorem am_cpy_i {f g : Nat → am_V} {sp dp n : Nat} : (fun j => am_toI (am_cpy f g sp dp n j)) = va_cpy (fun j => am_toI (f j)) (fun j => am_toI (g j)) sp dp n := by
  funext j
  unfold am_cpy va_cpy
  split <;> rfl
theorem am_cpy_l {f g : Nat → am_V} {sp dp n : Nat} : (fun j => am_toL (am_cpy f g sp dp n j)) = va_cpy (fun j => am_toL (f j)) (fun j => am_toL (g j)) sp dp n := by
  funext j
  unfold am_cpy va_cpy
  split <;> rfl
theorem sm_copy {own : String} {Ts : List Cond} {pc index a b : Nat} {n sp dp : Int} {ls : List am_V} {h : am_H} (hx : p.tables.exec = Jvm.exec) (hb : c.code = cc) (hml : c.maxLocals = nL) (hown : s.vm.findClass own = some m.cls) (hts : ∀ w ∈ Ts, w.before args s = true) (hK : va_K D vwCl (am_tys ca) s) (hdg : decode cc pc = .ok (.invokestatic index, 3))
    (f1 : Cond.methodLink own index arraycopyName ∈ Ts) (f2 : Cond.native arraycopyName ∈ Ts) (f3 : Cond.static arraycopyName ∈ Ts) (f4 : Cond.initialized "java/lang/System" ∈ Ts) (hfr : 1 ≤ R.frames) (hlo : nativeFrameWords "java/lang/System" "arraycopy" 5 + 11 ≤ R.locals)
    (ha : a < h.1) (hb2 : b < h.1) (hab : (h.2.2 a).1 = (h.2.2 b).1) (hk : (h.2.2 a).1 = 0 ∨ (h.2.2 a).1 = 2) (hn : 0 ≤ n) (hs0 : 0 ≤ sp) (hd0 : 0 ≤ dp) (h1a : sp + n ≤ ((h.2.2 a).2.1 : Int)) (h1b : dp + n ≤ ((h.2.2 b).2.1 : Int))
    (k : am_G p l e R s m args below meth c Q D ca ft A n0 z0 ad0 nL (pc + 3, ls, [], (h.1, h.2.1, am_up h.2.2 b ((h.2.2 b).1, (h.2.2 b).2.1, am_cpy (h.2.2 a).2.2 (h.2.2 b).2.2 sp.toNat dp.toNat n.toNat)))) : am_G p l e R s m args below meth c Q D ca ft A n0 z0 ad0 nL (pc, ls, [vI n, vI dp, vR b, vI sp, vR a], h) := by
  intro ad H locs LS h1 h2 h3 h4 h5 h6 h7 h8 h9 h10 h11
  have h4 : am_gd ft h := h4
  have hrn : am_r32 n := h5 (vI n) (by simp)
  have hrd : am_r32 dp := h5 (vI dp) (by simp)
  have hrs : am_r32 sp := h5 (vI sp) (by simp)
  have neg : ∀ z : Int, am_r32 z → 0 ≤ z → ¬ Int32.ofInt z < 0 := fun z hz h0 q => by
    have := (am_o_lt hz am_0r).mp q
    omega
  have cl : ∀ z : Int, am_r32 z → (Int32.ofInt z).toNatClampNeg = z.toNat := fun z hz => by
    show (Int32.ofInt z).toInt.toNat = z.toNat
    rw [am_tI hz]
  have hc : am_gd ft (h.1, h.2.1, am_up h.2.2 b ((h.2.2 b).1, (h.2.2 b).2.1, am_cpy (h.2.2 a).2.2 (h.2.2 b).2.2 sp.toNat dp.toNat n.toNat)) := by
    intro j hj
    show am_ckd ft h.1 (am_up h.2.2 b _ j)
    unfold am_up
    by_cases e : j = b
    · rw [if_pos e]
      have ga := am_gd_arr h4 ha (by omega)
      rcases h4 b hb2 with q | q
      · refine Or.inl ⟨q.1, q.2.1, fun i => ?_⟩
        show am_vt h.1 (am_ek (h.2.2 b).1) (am_cpy _ _ _ _ _ i)
        unfold am_cpy
        split
        · rw [← hab]
          exact ga _
        · exact q.2.2 i
      · omega
    · rw [if_neg e]
      exact h4 j hj
  have fin : ∀ (H1 : Heap) (locs1 : List Loc) (e1 : va_E), am_ce ad ca ((h.2.2 b).1, (h.2.2 b).2.1, am_cpy (h.2.2 a).2.2 (h.2.2 b).2.2 sp.toNat dp.toNat n.toNat) = e1 → va_P D vwCl ((am_ws ad ca h).set b (ad b, e1)) H1 → va_D A ((am_ws ad ca h).set b (ad b, e1)) → va_S A s.heap H1 locs1 → W p l e R s m args below meth c H1 locs1 (h.1 - n0) (h.2.1 - z0) Q (F0 m (pc + 3) LS []) := fun H1 locs1 e1 he hP hD hS => by
    rw [← am_ws_set hb2 he] at hP hD
    exact k ad H1 locs1 LS h1 h2 h3 hc (fun w hw => by simp at hw) h6 hP hD hS h10 h11
  have hml2 : c.maxLocals = LS.size := hml.trans (h11.symm.trans h10.1.symm)
  rcases hk with hk | hk
  · have hkb : (h.2.2 b).1 = 0 := by omega
    have fi : ∀ i, i < (Int32.ofInt n).toNatClampNeg → fits .int (.int ((fun j => am_toI ((h.2.2 a).2.2 j)) ((Int32.ofInt sp).toNatClampNeg + i))) = true := fun i _ => rfl
    refine va_copyi (ty := .int) (rest := []) hx hb hml2 hown (hts _ f1) (hts _ f2) (hts _ f3) (hts _ f4) hK h7 h8 h9 a b 0 0 ((am_ws_at ha).trans (by rw [am_ce_i hk (by omega)])) ((am_ws_at hb2).trans (by rw [am_ce_i hkb (by omega)])) rfl rfl rfl (neg sp hrs hs0) (neg dp hrd hd0) (neg n hrn hn) (by rw [cl _ hrs, cl _ hrn]; omega) (by rw [cl _ hrd, cl _ hrn]; omega) fi hfr (by simpa using hlo) hdg (fun H1 locs1 hP hD hS => ?_)
    rw [cl _ hrs, cl _ hrd, cl _ hrn] at hP hD
    exact fin H1 locs1 _ (by rw [am_ce_i (K := ((h.2.2 b).1, (h.2.2 b).2.1, am_cpy (h.2.2 a).2.2 (h.2.2 b).2.2 sp.toNat dp.toNat n.toNat)) hkb (by omega)]; exact congrArg (fun z => (Sum.inl (ca 0, (h.2.2 b).2.1, .inl z) : va_E)) am_cpy_i) hP hD hS
  · have hkb : (h.2.2 b).1 = 2 := by omega
    have fi : ∀ i, i < (Int32.ofInt n).toNatClampNeg → fits .long (.long ((fun j => am_toL ((h.2.2 a).2.2 j)) ((Int32.ofInt sp).toNatClampNeg + i))) = true := fun i _ => rfl
    refine va_copyl (ty := .long) (rest := []) hx hb hml2 hown (hts _ f1) (hts _ f2) (hts _ f3) (hts _ f4) hK h7 h8 h9 a b 2 2 ((am_ws_at ha).trans (by rw [am_ce_l hk])) ((am_ws_at hb2).trans (by rw [am_ce_l hkb])) rfl rfl rfl (neg sp hrs hs0) (neg dp hrd hd0) (neg n hrn hn) (by rw [cl _ hrs, cl _ hrn]; omega) (by rw [cl _ hrd, cl _ hrn]; omega) fi hfr (by simpa using hlo) hdg (fun H1 locs1 hP hD hS => ?_)
    rw [cl _ hrs, cl _ hrd, cl _ hrn] at hP hD
    exact fin H1 locs1 _ (by rw [am_ce_l (K := ((h.2.2 b).1, (h.2.2 b).2.1, am_cpy (h.2.2 a).2.2 (h.2.2 b).2.2 sp.toNat dp.toNat n.toNat)) hkb]; exact congrArg (fun z => (Sum.inl (ca 2, (h.2.2 b).2.1, .inr (.inl z)) : va_E)) am_cpy_l) hP hD hS
theorem sm_obj {own : String} {Ts : List Cond} {pc index a : Nat} {ls : List am_V} {h : am_H} (hx : p.tables.exec = Jvm.exec) (hb : c.code = cc) (hml : c.maxLocals = nL) (hown : s.vm.findClass own = some m.cls) (hts : ∀ w ∈ Ts, w.before args s = true) (hdg : decode cc pc = .ok (.invokespecial index, 3)) (f1 : Cond.methodLink own index Lib.objectInit ∈ Ts) (f2 : Cond.instanceMethod Lib.objectInit ∈ Ts) (f3 : Cond.code Lib.objectInit ⟨#[0xb1]⟩ 1 none ∈ Ts) (hfr : 1 ≤ R.frames) (hlo : 12 ≤ R.locals)
    (k : am_G p l e R s m args below meth c Q D ca ft A n0 z0 ad0 nL (pc + 3, ls, [], h)) : am_G p l e R s m args below meth c Q D ca ft A n0 z0 ad0 nL (pc, ls, [vR a], h) := by
  intro ad H locs LS h1 h2 h3 h4 h5 h6 h7 h8 h9 h10 h11
  have h4 : am_gd ft h := h4
  exact W.objInit hx hb hown (hts _ f1) (hts _ f2) (hts _ f3) rfl (h10.1.trans (h11.trans hml.symm)) rfl hdg hfr (by show 2 * 0 + 0 + 12 ≤ R.locals; omega) (k ad H locs LS h1 h2 h3 h4 (fun w hw => by simp at hw) h6 h7 h8 h9 h10 h11)
end SM
