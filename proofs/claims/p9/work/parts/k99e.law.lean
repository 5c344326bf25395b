/-! The law: rows of the kit's skeleton, then calls out of the law over the small machine's cells. -/
def R_law : String := "StrandBoxesLaw"
def lw_P (b : Addr) (xs : List Int32) (args : Array Value) (s : State) : Prop := args = #[.ref b] ∧ s.IntsAt b xs ∧ xs.length ≤ 3072 ∧ (Jvm.Cond.and given_1 narrow_1).before args s = true
def lw_Q (_ : Array Value) (s : State) (o : Outcome) (t : State) : Prop := o = .returned (some (.int 1)) ∧ Framed s o t [] 600000 7302249
def lw_Z (below : List Frame) (a : Array Value) (s : State) : State → Prop := fun t => ∃ o, t.status = .running ∧ Ended t below o ∧ lw_Q a s o t
/-- the law's own end, with 1 on the stack, nothing written that was there before, its room as the claim has it -/
theorem lw_ret {p : Program} {l : Launch} {e : Env} {s : State} {m : MethodId} {below : List Frame} {meth : Method} {c : Code} {b : Nat} (hx : p.tables.exec = Jvm.exec) (hb : c.code = code) (hr : meth.sig.returnType = ret) (hlocks : meth.locks = false) {pc : Nat} {H : Heap} {ls : Array Slot} (hdg : decode code pc = .ok (.ireturn, 1)) : W p l e room_1 s m #[Value.ref b] below meth c H [] 600000 7302249 (lw_Z below #[Value.ref b] s) (F0 m pc ls [.int 1]) := by
  intro T hT X
  obtain ⟨fs, hret, hrun, hended, hW, hframe⟩ := X.leave (v := some (.int 1)) (hlocks := hlocks) (fun h => by rw [hr] at h; cases h)
  have hmeth' : T.vm.method? m = some meth := X.method'
  refine ⟨T.setFrames fs, ?_, .returned (some (.int 1)), hrun, hended, rfl, ⟨_, rfl⟩, hW, hframe⟩
  jvm_step X.here [X.here.top, hx, hb, hdg, hmeth', hr, ret, narrow_b1]
  (try refine ⟨rfl, ?_⟩); (try refine ⟨rfl, ?_⟩)
  first | (intro acts; rw [hret _ acts rfl rfl rfl]) | rw [hret _ _ rfl rfl rfl]
  exact Steps.refl _
/-- what holds at the law's entry: the machine, the code, the tables' words (any of lw_tbl by 'hts w (by decide +kernel)'), the script of L ints xs at the cell b, what the Statement gives of the start (any of its parts by flat_of_before) -/
def lw_At (p : Program) (s : State) (m : MethodId) (meth : Method) (c : Code) (b L : Nat) (xs : Nat → Int32) : Prop :=
  p.tables.exec = Jvm.exec ∧ c.code = code ∧ meth.sig.returnType = ret ∧ c.maxLocals = 4 ∧ s.vm.findClass R_law = some m.cls ∧ (∀ w ∈ lw_tbl, w.before #[Value.ref b] s = true) ∧ va_X b L xs s s.heap ∧ b < s.heap.size ∧ meth.locks = false ∧ (Jvm.Cond.and given_1 narrow_1).before #[Value.ref b] s = true
theorem lq_ts {args : Array Value} {s : State} (h : ∀ w ∈ lw_tbl, w.before args s = true) : ∀ w ∈ am_Tb, w.before args s = true := fun w hw => h w (List.mem_filter.mp hw).1
/-- the small machine's cells in the machine's heap, all of them new since the law began -/
def lq_W (D : va_G) (ca : Nat → ClassId) (s : State) (h : am_H) (ad : Nat → Nat) (H : Heap) (locs : List Loc) : Prop := am_gd ac_ft h ∧ va_P D vwCl (am_ws ad ca h) H ∧ va_D (fun q => s.heap.size ≤ q) (am_ws ad ca h) ∧ va_S (fun q => s.heap.size ≤ q) s.heap H locs
section LQ
variable {p : Program} {l : Launch} {e : Env} {s : State} {m : MethodId} {below : List Frame} {meth : Method} {c : Code} {Q : State → Prop} {D : va_G} {ca : Nat → ClassId} {b L : Nat} {xs : Nat → Int32} {R : Room} {args : Array Value}
theorem lq_back {h h2 : am_H} {as rest : List am_V} {r : Option am_V} {ad : Nat → Nat} {H : Heap} {locs : List Loc} {LS : Array Slot} {pc mc ms : Nat} (hmc : mc = h2.1 - h.1) (hms : ms = h2.2.1 - h.2.1) (hw : lq_W D ca s h ad H locs) (hs5 : ∀ w ∈ rest, am_vk h.1 w)
    (hrun : va_Run p l e R s m args below meth c H locs h.1 h.2.1 mc ms (F0 m pc LS ((as.reverse ++ rest).map (am_cv ad))) (rest.map (am_cv ad)) (am_Qc D ca ac_ft ad h r h2 H.size ((as.map (am_cv ad)).toArray)) (va_A (am_ws ad ca h) H.size))
    (k : ∀ (ad2 : Nat → Nat) (H2 : Heap) (locs2 : List Loc), (∀ j, j < h.1 → ad2 j = ad j) → (∀ v, r = some v → am_vk h2.1 v) → lq_W D ca s h2 ad2 H2 locs2 → W p l e R s m args below meth c H2 locs2 h2.1 h2.2.1 Q (F0 m (pc + 3) LS ((r.toList ++ rest).map (am_cv ad2)))) : W p l e R s m args below meth c H locs h.1 h.2.1 Q (F0 m pc LS ((as.reverse ++ rest).map (am_cv ad))) := by
  obtain ⟨h4, h7, h8, h9⟩ := hw
  have hfree : ∀ q, va_A (am_ws ad ca h) H.size q → s.heap.size ≤ q := fun q hq => by
    rcases hq with ⟨j, e9, hj⟩ | hq
    · exact h8.2 j _ hj
    · exact Nat.le_trans h9.1 hq
  intro T hT X
  obtain ⟨v, st₀, t, T', L, g0, X', hL, e1, e2, ⟨⟨ad2, q1, q2, q3, q4, q5, q6, qP, qD⟩, qz, qk⟩, st⟩ := hrun T hT X
  have q2 : v = r.map (am_cv ad2) := Outcome.returned.inj q2
  rw [g0] at qz qk
  rw [← e1] at qP qz qk
  have hS' : va_S (fun q => s.heap.size ≤ q) s.heap T'.heap (locs ++ L) := ⟨Nat.le_trans h9.1 qz, fun q j1 j2 => by
      rw [qk q (Nat.lt_of_lt_of_le j1 h9.1) (fun z => j2 (hfree q z))]
      exact h9.2.1 q j1 j2, fun q hq => (List.mem_append.mp hq).elim (h9.2.2 q) (fun z => hfree _ (hL q z))⟩
  have K := k ad2 T'.heap (locs ++ L) q1 q4 ⟨q3, qP, qD.weaken (fun _ q _ z => hfree q.1 z), hS'⟩
  have e3 : (r.toList ++ rest).map (am_cv ad2) = v.toList ++ rest.map (am_cv ad) := by
    rw [List.map_append, am_st_cg q1 hs5, q2]
    congr 1
    cases r <;> rfl
  rw [e3] at K
  have K2 := W.cs (show h.1 + mc = h2.1 by omega) (show h.2.1 + ms = h2.2.1 by omega) K
  obtain ⟨t2, a1, b1⟩ := K2 T' rfl X'
  exact ⟨t2, st t2 a1, b1⟩
/-- a call of a method on an object -/
theorem lq_cv {pc idx x y a mL : Nat} {as2 rest : List am_V} {h : am_H} {C2 : am_C} {Z2 : Option am_V → am_H → Prop} {ad : Nat → Nat} {H : Heap} {locs : List Loc} {LS : Array Slot} (C0 : lw_At p s m meth c b L xs) (hKK : am_KK D ca s) (hrow : am_row ac_LW pc = some (.invokevirtual idx, 3, x, y)) (hM : ac_L[x % 1000]? = some (C2, mL)) (hE : am_E C2 (0, am_pad mL (vR a :: as2), [], h) Z2) (hn : as2.length + 1 = y) (hcat : ((vR a :: as2).map am_cat).sum ≤ mL) (ha : a < h.1) (hkd : (h.2.2 a).1 = 9 + x / 1000) (hv : ∀ v ∈ as2, am_vk h.1 v) (hw : lq_W D ca s h ad H locs) (hls : LS.size = 4) (hr5 : ∀ w ∈ rest, am_vk h.1 w) (hr8 : (rest.map am_cat).sum ≤ 8) (hZ : ∀ r h2, Z2 r h2 → h2.1 ≤ 600000 ∧ h2.2.1 ≤ 7302249)
    (k : ∀ (r : Option am_V) (h2 : am_H) (ad2 : Nat → Nat) (H2 : Heap) (locs2 : List Loc), (∃ n, am_x ac_P n C2 (0, am_pad mL (vR a :: as2), [], h) = some (r, h2)) → Z2 r h2 → (∀ j, j < h.1 → ad2 j = ad j) → (∀ v, r = some v → am_vk h2.1 v) → lq_W D ca s h2 ad2 H2 locs2 → W p l e room_1 s m #[Value.ref b] below meth c H2 locs2 h2.1 h2.2.1 Q (F0 m (pc + 3) LS ((r.toList ++ rest).map (am_cv ad2)))) : W p l e room_1 s m #[Value.ref b] below meth c H locs h.1 h.2.1 Q (F0 m pc LS (((vR a :: as2).reverse ++ rest).map (am_cv ad))) := by
  obtain ⟨hx, hb, hr, hml, hown, hts, hX, hbl, hlocks, hgv⟩ := C0
  obtain ⟨r1, r3⟩ := lq_row hrow
  obtain ⟨C5, mL5, N5, n5, c1, c2, c3, c4, c5, ⟨T5, z5, c6⟩, c7, c8, c9⟩ := r3
  have c1 : ac_L[x % 1000]? = some (C5, mL5) := c1
  rw [hM] at c1
  cases c1
  obtain ⟨n, r, h2, hcal, hz2⟩ := hE
  have hts2 := lq_ts hts
  have hva : ∀ v ∈ vR a :: as2, am_vk h.1 v := fun v hv9 => (List.mem_cons.mp hv9).elim (fun q => by rw [q]; exact ha) (hv v)
  have hMet := ax_sound (l := l) (D := D) (ca := ca) n _ _ _ _ hM c2 _ _ _ _ hcal hw.1 hva hcat ad H.size
  have mo := mn_x n hcal
  have bd := hZ r h2 hz2
  have hmo1 : h.1 ≤ h2.1 := mo.1
  have hmo2 : h.2.1 ≤ h2.2.1 := mo.2
  have cw := am_cw (R := room_1) (own := yL_law.cls) (i := idx) (mc := h2.1 - h.1) (ms := h2.2.1 - h.2.1) ax_Ok.1 hts2 rfl rfl c3 (hts2 _ c7)
  have hW8 : 2 * (F0 m pc LS (((vR a :: as2).reverse ++ rest).map (am_cv ad))).monitorRoom + ((rest.map (am_cv ad)).map fun v => v.category).sum ≤ 8 := lv_room (by rw [am_cat_sum]; exact hr8)
  refine lq_back (r := r) (h2 := h2) rfl rfl hw hr5 ?_ (fun ad2 H2 locs2 g1 g2 g3 => k r h2 ad2 H2 locs2 ⟨n, hcal⟩ hz2 g1 g2 g3)
  rw [am_st_rev] at hW8 ⊢
  exact va_runV (As := as2.map (am_cv ad)) (b := ad a) (C := N5.1.cls) ⟨hx, hb, hml, hown, hts2⟩ hMet ⟨cw, hts2 _ c8, hts2 _ c9⟩ ⟨am_Pc.blind, va_recv hKK.1 hw.2.1 c6 ((am_ws_at ha).trans (by rw [am_ce_obj (x := x / 1000 - 1) (by omega)])), am_Pc.at (as := vR a :: as2) hKK hw.2.1 hw.2.2.1⟩ rfl (by rw [List.length_map]; omega) hls rfl hW8 r1 ⟨by show h.1 + (h2.1 - h.1) ≤ 600000; omega, by show h.2.1 + (h2.2.1 - h.2.1) ≤ 7302249; omega⟩
/-- a constructor's call -/
theorem lq_ci {pc idx x y a mL : Nat} {as2 rest : List am_V} {h : am_H} {C2 : am_C} {Z2 : Option am_V → am_H → Prop} {ad : Nat → Nat} {H : Heap} {locs : List Loc} {LS : Array Slot} (C0 : lw_At p s m meth c b L xs) (hKK : am_KK D ca s) (hrow : am_row ac_LW pc = some (.invokespecial idx, 3, x, y)) (hx9 : x ≠ 900) (hM : ac_L[x % 1000]? = some (C2, mL)) (hE : am_E C2 (0, am_pad mL (vR a :: as2), [], h) Z2) (hn : as2.length + 1 = y) (hcat : ((vR a :: as2).map am_cat).sum ≤ mL) (ha : a < h.1) (hv : ∀ v ∈ as2, am_vk h.1 v) (hw : lq_W D ca s h ad H locs) (hls : LS.size = 4) (hr5 : ∀ w ∈ rest, am_vk h.1 w) (hr8 : (rest.map am_cat).sum ≤ 8) (hZ : ∀ r h2, Z2 r h2 → h2.1 ≤ 600000 ∧ h2.2.1 ≤ 7302249)
    (k : ∀ (r : Option am_V) (h2 : am_H) (ad2 : Nat → Nat) (H2 : Heap) (locs2 : List Loc), (∃ n, am_x ac_P n C2 (0, am_pad mL (vR a :: as2), [], h) = some (r, h2)) → Z2 r h2 → (∀ j, j < h.1 → ad2 j = ad j) → (∀ v, r = some v → am_vk h2.1 v) → lq_W D ca s h2 ad2 H2 locs2 → W p l e room_1 s m #[Value.ref b] below meth c H2 locs2 h2.1 h2.2.1 Q (F0 m (pc + 3) LS ((r.toList ++ rest).map (am_cv ad2)))) : W p l e room_1 s m #[Value.ref b] below meth c H locs h.1 h.2.1 Q (F0 m pc LS (((vR a :: as2).reverse ++ rest).map (am_cv ad))) := by
  obtain ⟨hx, hb, hr, hml, hown, hts, hX, hbl, hlocks, hgv⟩ := C0
  obtain ⟨r1, r3⟩ := lq_row hrow
  rcases r3 with r3 | ⟨C5, mL5, N5, n5, c1, c2, c3, c4, c5, c6, c7, c8, c9⟩
  · exact absurd r3 hx9
  have c1 : ac_L[x % 1000]? = some (C5, mL5) := c1
  rw [hM] at c1
  cases c1
  obtain ⟨n, r, h2, hcal, hz2⟩ := hE
  have hts2 := lq_ts hts
  have hva : ∀ v ∈ vR a :: as2, am_vk h.1 v := fun v hv9 => (List.mem_cons.mp hv9).elim (fun q => by rw [q]; exact ha) (hv v)
  have hMet := ax_sound (l := l) (D := D) (ca := ca) n _ _ _ _ hM c2 _ _ _ _ hcal hw.1 hva hcat ad H.size
  have mo := mn_x n hcal
  have bd := hZ r h2 hz2
  have hmo1 : h.1 ≤ h2.1 := mo.1
  have hmo2 : h.2.1 ≤ h2.2.1 := mo.2
  obtain ⟨y5, b5, ret5, fr5, lo5⟩ := N5
  have c6 : ret5 = none := c6
  subst c6
  have hW8 : 2 * (F0 m pc LS (((vR a :: as2).reverse ++ rest).map (am_cv ad))).monitorRoom + ((rest.map (am_cv ad)).map fun v => v.category).sum ≤ 8 := lv_room (by rw [am_cat_sum]; exact hr8)
  refine lq_back (r := r) (h2 := h2) rfl rfl hw hr5 ?_ (fun ad2 H2 locs2 g1 g2 g3 => k r h2 ad2 H2 locs2 ⟨n, hcal⟩ hz2 g1 g2 g3)
  rw [am_st_rev] at hW8 ⊢
  rcases c9 with c9 | ⟨o1, o2⟩
  · have cw := am_cw (R := room_1) (own := yL_law.cls) (i := idx) (mc := h2.1 - h.1) (ms := h2.2.1 - h.2.1) ax_Ok.1 hts2 rfl rfl c3 (hts2 _ c9)
    exact va_runI (As := as2.map (am_cv ad)) (b := ad a) ⟨hx, hb, hml, hown, hts2⟩ hMet ⟨cw, c7, hts2 _ c8⟩ ⟨am_Pc.blind, am_Pc.at (as := vR a :: as2) hKK hw.2.1 hw.2.2.1⟩ rfl (by rw [List.length_map]; omega) hls rfl hW8 r1 ⟨by show h.1 + (h2.1 - h.1) ≤ 600000; omega, by show h.2.1 + (h2.2.1 - h.2.1) ≤ 7302249; omega⟩
  · exact absurd o1 (by decide)
/-- a new object -/
theorem lq_new {pc index x N : Nat} {C : String} {T : u_T} {rest : List Value} {h : am_H} {ad : Nat → Nat} {H : Heap} {locs : List Loc} {LS : Array Slot} (C0 : lw_At p s m meth c b L xs) (hKK : am_KK D ca s) (hrow : am_row ac_LW pc = some (.new index, 3, x, N)) (f1 : vwCl[x]? = some (C, T, N)) (f8 : Cond.classLink R_law index C ∈ lw_tbl) (f9 : Cond.instantiable C N ∈ lw_tbl) (f10 : Cond.initialized C ∈ lw_tbl) (hrc : h.1 + 1 ≤ 600000) (hrs : h.2.1 + N ≤ 7302249) (hw : lq_W D ca s h ad H locs)
    (k : ∀ (q : Nat) (H1 : Heap), lq_W D ca s (am_mk h (10 + x) N (fun j => am_dv (ac_ft x j))) (am_up ad h.1 q) H1 locs → W p l e room_1 s m #[Value.ref b] below meth c H1 locs (h.1 + 1) (h.2.1 + N) Q (F0 m (pc + 3) LS (.ref q :: rest))) : W p l e room_1 s m #[Value.ref b] below meth c H locs h.1 h.2.1 Q (F0 m pc LS rest) := by
  obtain ⟨hx, hb, hr, hml, hown, hts, hX, hbl, hlocks, hgv⟩ := C0
  obtain ⟨r1, -⟩ := lq_row hrow
  obtain ⟨f4, f5, -, f7⟩ := ax_cl6 x C T N f1
  obtain ⟨h4, h7, h8, h9⟩ := hw
  refine va_new (fs := (List.range N).map (fun j => am_cv ad (am_dv (ac_ft x j)))) hx hb (lq_ts hts) f4 (am_tyf x) f5 hown (hts _ f8) (hts _ f9) (hts _ f10) hKK.1 h7 h8 h9 (fun _ hq => hq) f1 (fun j hj => ?_) hrc hrs r1 (fun q H1 hP hD hS => k q H1 ⟨?_, ?_, ?_, hS⟩)
  · rw [(am_dv_ok (n := 0) (f7 j hj)).2 ad]
    unfold vp_V
    simp [hj]
  · intro j hj
    show am_ckd ac_ft (h.1 + 1) (am_up h.2.2 h.1 (10 + x, N, fun j => am_dv (ac_ft x j)) j)
    have hj : j < h.1 + 1 := hj
    unfold am_up
    by_cases e9 : j = h.1
    · rw [if_pos e9]
      refine Or.inr ⟨Nat.le_add_right _ _, fun i hi => ?_⟩
      show am_vt _ (ac_ft (10 + x - 10) i) (am_dv (ac_ft x i))
      rw [Nat.add_sub_cancel_left]
      exact (am_dv_ok (f7 i hi)).1
    · rw [if_neg e9]
      exact (h4 j (by omega)).mono (Nat.le_succ _)
  all_goals
    have e : am_ws (am_up ad h.1 q) ca (am_mk h (10 + x) N (fun j => am_dv (ac_ft x j))) = am_ws ad ca h ++ [(q, .inr (x, (List.range N).map (fun j => am_cv ad (am_dv (ac_ft x j)))))] := by
      have he : am_ce (am_up ad h.1 q) ca (10 + x, N, fun j => am_dv (ac_ft x j)) = .inr (x, (List.range N).map (fun j => am_cv ad (am_dv (ac_ft x j)))) := by
        rw [am_ce_obj (K := (10 + x, N, fun j => am_dv (ac_ft x j))) rfl]
        refine congrArg (fun z => (Sum.inr (x, z) : va_E)) (List.map_congr_left fun j hj => ?_)
        have hj := List.mem_range.mp hj
        rw [← (am_dv_ok (n := 0) (f7 j hj)).2 ad, ← (am_dv_ok (n := 0) (f7 j hj)).2 (am_up ad h.1 q)]
      rw [← he]
      exact am_ws_push h4
    rw [e]
    first | exact hP | exact hD
end LQ
