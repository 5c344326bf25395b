/-! Branches, fields, arrays. -/
section SM
variable {p : Program} {l : Launch} {e : Env} {R : Room} {s : State} {m : MethodId} {args : Array Value} {below : List Frame} {meth : Method} {c : Code} {Q : State → Prop} {D : va_G} {ca : Nat → ClassId} {ft : am_ft} {A : Nat → Prop} {n0 z0 : Nat} {ad0 : Nat → Nat} {nL : Nat} {cc : ByteArray}
theorem sm_if {cnd : Jvm.ClassFile.Cond} {pc tgt : Nat} {off : Int} {ls st : List am_V} {h : am_H} {a : Int} (hx : p.tables.exec = Jvm.exec) (hb : c.code = cc) (hdg : decode cc pc = .ok (.ifCond cnd off, 3)) (ht : (pc : Int) + off = (tgt : Int))
    (k : am_G p l e R s m args below meth c Q D ca ft A n0 z0 ad0 nL ((if am_cmp cnd a 0 then tgt else pc + 3), ls, st, h)) : am_G p l e R s m args below meth c Q D ca ft A n0 z0 ad0 nL (pc, ls, vI a :: st, h) := by
  intro ad H locs LS h1 h2 h3 h4 h5 h6 h7 h8 h9 h10 h11
  have ha : am_r32 a := h5 (vI a) (by simp)
  have hb9 : am_r32 0 := am_0r
  have e0 : (0 : Int32) = Int32.ofInt 0 := by decide
  have K := k ad H locs LS h1 h2 h3 h4 (fun w hw => h5 w (by simp [hw])) h6 h7 h8 h9 h10 h11
  cases cnd
  · refine lv_if_eq hx hb hdg ht (fun q => ?_) (fun q => ?_)
    · rw [e0] at q
      have q1 : a = 0 := (am_o_eq ha hb9).mp q
      have q2 : am_cmp .eq a 0 = true := by simp [am_cmp]; omega
      simp only [q2] at K
      exact K
    · rw [e0] at q
      have q1 : ¬ (a = 0) := fun z => q ((am_o_eq ha hb9).mpr z)
      have q2 : am_cmp .eq a 0 = false := by simp [am_cmp]; omega
      simp only [q2] at K
      exact K
  · refine lv_if_ne hx hb hdg ht (fun q => ?_) (fun q => ?_)
    · rw [e0] at q
      have q1 : ¬ a = 0 := fun z => q ((am_o_eq ha hb9).mpr z)
      have q2 : am_cmp .ne a 0 = true := by simp [am_cmp]; omega
      simp only [q2] at K
      exact K
    · rw [e0] at q
      have q1 : a = 0 := (am_o_eq ha hb9).mp q
      have q2 : am_cmp .ne a 0 = false := by simp [am_cmp]; omega
      simp only [q2] at K
      exact K
  · refine lv_if_lt hx hb hdg ht (fun q => ?_) (fun q => ?_)
    · rw [e0] at q
      have q1 : a < 0 := (am_o_lt ha hb9).mp q
      have q2 : am_cmp .lt a 0 = true := by simp [am_cmp]; omega
      simp only [q2] at K
      exact K
    · rw [e0] at q
      have q1 : ¬ (a < 0) := fun z => q ((am_o_lt ha hb9).mpr z)
      have q2 : am_cmp .lt a 0 = false := by simp [am_cmp]; omega
      simp only [q2] at K
      exact K
  · refine lv_if_ge hx hb hdg ht (fun q => ?_) (fun q => ?_)
    · rw [e0] at q
      have q1 : 0 ≤ a := (am_o_le hb9 ha).mp q
      have q2 : am_cmp .ge a 0 = true := by simp [am_cmp]; omega
      simp only [q2] at K
      exact K
    · rw [e0] at q
      have q1 : ¬ (0 ≤ a) := fun z => q ((am_o_le hb9 ha).mpr z)
      have q2 : am_cmp .ge a 0 = false := by simp [am_cmp]; omega
      simp only [q2] at K
      exact K
  · refine lv_if_gt hx hb hdg ht (fun q => ?_) (fun q => ?_)
    · rw [e0] at q
      have q1 : 0 < a := (am_o_lt hb9 ha).mp q
      have q2 : am_cmp .gt a 0 = true := by simp [am_cmp]; omega
      simp only [q2] at K
      exact K
    · rw [e0] at q
      have q1 : ¬ (0 < a) := fun z => q ((am_o_lt hb9 ha).mpr z)
      have q2 : am_cmp .gt a 0 = false := by simp [am_cmp]; omega
      simp only [q2] at K
      exact K
  · refine lv_if_le hx hb hdg ht (fun q => ?_) (fun q => ?_)
    · rw [e0] at q
      have q1 : a ≤ 0 := (am_o_le ha hb9).mp q
      have q2 : am_cmp .le a 0 = true := by simp [am_cmp]; omega
      simp only [q2] at K
      exact K
    · rw [e0] at q
      have q1 : ¬ (a ≤ 0) := fun z => q ((am_o_le ha hb9).mpr z)
      have q2 : am_cmp .le a 0 = false := by simp [am_cmp]; omega
      simp only [q2] at K
      exact K
theorem sm_icmp {cnd : Jvm.ClassFile.Cond} {pc tgt : Nat} {off : Int} {ls st : List am_V} {h : am_H} {a b : Int} (hx : p.tables.exec = Jvm.exec) (hb : c.code = cc) (hdg : decode cc pc = .ok (.if_icmp cnd off, 3)) (ht : (pc : Int) + off = (tgt : Int))
    (k : am_G p l e R s m args below meth c Q D ca ft A n0 z0 ad0 nL ((if am_cmp cnd a b then tgt else pc + 3), ls, st, h)) : am_G p l e R s m args below meth c Q D ca ft A n0 z0 ad0 nL (pc, ls, vI b :: vI a :: st, h) := by
  intro ad H locs LS h1 h2 h3 h4 h5 h6 h7 h8 h9 h10 h11
  have ha : am_r32 a := h5 (vI a) (by simp)
  have hb9 : am_r32 b := h5 (vI b) (by simp)
  have K := k ad H locs LS h1 h2 h3 h4 (fun w hw => h5 w (by simp [hw])) h6 h7 h8 h9 h10 h11
  cases cnd
  · refine lv_icmp_eq hx hb hdg ht (fun q => ?_) (fun q => ?_)
    · have q1 : a = b := (am_o_eq ha hb9).mp q
      have q2 : am_cmp .eq a b = true := by simp [am_cmp]; omega
      simp only [q2] at K
      exact K
    · have q1 : ¬ (a = b) := fun z => q ((am_o_eq ha hb9).mpr z)
      have q2 : am_cmp .eq a b = false := by simp [am_cmp]; omega
      simp only [q2] at K
      exact K
  · refine lv_icmp_ne hx hb hdg ht (fun q => ?_) (fun q => ?_)
    · have q1 : ¬ a = b := fun z => q ((am_o_eq ha hb9).mpr z)
      have q2 : am_cmp .ne a b = true := by simp [am_cmp]; omega
      simp only [q2] at K
      exact K
    · have q1 : a = b := (am_o_eq ha hb9).mp q
      have q2 : am_cmp .ne a b = false := by simp [am_cmp]; omega
      simp only [q2] at K
      exact K
  · refine lv_icmp_lt hx hb hdg ht (fun q => ?_) (fun q => ?_)
    · have q1 : a < b := (am_o_lt ha hb9).mp q
      have q2 : am_cmp .lt a b = true := by simp [am_cmp]; omega
      simp only [q2] at K
      exact K
    · have q1 : ¬ (a < b) := fun z => q ((am_o_lt ha hb9).mpr z)
      have q2 : am_cmp .lt a b = false := by simp [am_cmp]; omega
      simp only [q2] at K
      exact K
  · refine lv_icmp_ge hx hb hdg ht (fun q => ?_) (fun q => ?_)
    · have q1 : b ≤ a := (am_o_le hb9 ha).mp q
      have q2 : am_cmp .ge a b = true := by simp [am_cmp]; omega
      simp only [q2] at K
      exact K
    · have q1 : ¬ (b ≤ a) := fun z => q ((am_o_le hb9 ha).mpr z)
      have q2 : am_cmp .ge a b = false := by simp [am_cmp]; omega
      simp only [q2] at K
      exact K
  · refine lv_icmp_gt hx hb hdg ht (fun q => ?_) (fun q => ?_)
    · have q1 : b < a := (am_o_lt hb9 ha).mp q
      have q2 : am_cmp .gt a b = true := by simp [am_cmp]; omega
      simp only [q2] at K
      exact K
    · have q1 : ¬ (b < a) := fun z => q ((am_o_lt hb9 ha).mpr z)
      have q2 : am_cmp .gt a b = false := by simp [am_cmp]; omega
      simp only [q2] at K
      exact K
  · refine lv_icmp_le hx hb hdg ht (fun q => ?_) (fun q => ?_)
    · have q1 : a ≤ b := (am_o_le ha hb9).mp q
      have q2 : am_cmp .le a b = true := by simp [am_cmp]; omega
      simp only [q2] at K
      exact K
    · have q1 : ¬ (a ≤ b) := fun z => q ((am_o_le ha hb9).mpr z)
      have q2 : am_cmp .le a b = false := by simp [am_cmp]; omega
      simp only [q2] at K
      exact K
theorem sm_goto {pc tgt : Nat} {off : Int} {ls st : List am_V} {h : am_H} (hx : p.tables.exec = Jvm.exec) (hb : c.code = cc) (hdg : decode cc pc = .ok (.goto off, 3)) (ht : (pc : Int) + off = (tgt : Int)) (k : am_G p l e R s m args below meth c Q D ca ft A n0 z0 ad0 nL (tgt, ls, st, h)) : am_G p l e R s m args below meth c Q D ca ft A n0 z0 ad0 nL (pc, ls, st, h) := by
  intro ad H locs LS h1 h2 h3 h4 h5 h6 h7 h8 h9 h10 h11
  exact lv_goto hx hb hdg ht (k ad H locs LS h1 h2 h3 h4 h5 h6 h7 h8 h9 h10 h11)
theorem sm_sw1 {pc : Nat} {d lo hi : Int} {offs : Array Int} {len : Nat} {ls st : List am_V} {h : am_H} {a : Int} (hx : p.tables.exec = Jvm.exec) (hb : c.code = cc) (hdg : decode cc pc = .ok (.tableswitch d lo hi offs, len)) (ho : a < lo ∨ hi < a) (ht : 0 ≤ (pc : Int) + d) (k : am_G p l e R s m args below meth c Q D ca ft A n0 z0 ad0 nL (((pc : Int) + d).toNat, ls, st, h)) : am_G p l e R s m args below meth c Q D ca ft A n0 z0 ad0 nL (pc, ls, vI a :: st, h) := by
  intro ad H locs LS h1 h2 h3 h4 h5 h6 h7 h8 h9 h10 h11
  have ha : am_r32 a := h5 (vI a) (by simp)
  exact lv_tableOut hx hb hdg (by rw [am_tI ha]; exact ho) (by omega) (k ad H locs LS h1 h2 h3 h4 (fun w hw => h5 w (by simp [hw])) h6 h7 h8 h9 h10 h11)
theorem sm_sw2 {pc : Nat} {d lo hi o : Int} {offs : Array Int} {len : Nat} {ls st : List am_V} {h : am_H} {a : Int} (hx : p.tables.exec = Jvm.exec) (hb : c.code = cc) (hdg : decode cc pc = .ok (.tableswitch d lo hi offs, len)) (ho : ¬ (a < lo ∨ hi < a)) (hq : offs[(a - lo).toNat]? = some o) (ht : 0 ≤ (pc : Int) + o) (k : am_G p l e R s m args below meth c Q D ca ft A n0 z0 ad0 nL (((pc : Int) + o).toNat, ls, st, h)) : am_G p l e R s m args below meth c Q D ca ft A n0 z0 ad0 nL (pc, ls, vI a :: st, h) := by
  intro ad H locs LS h1 h2 h3 h4 h5 h6 h7 h8 h9 h10 h11
  have ha : am_r32 a := h5 (vI a) (by simp)
  exact lv_tableIn hx hb hdg (by rw [am_tI ha]; omega) (by rw [am_tI ha]; omega) (by rw [am_tI ha]; exact hq) (by omega) (k ad H locs LS h1 h2 h3 h4 (fun w hw => h5 w (by simp [hw])) h6 h7 h8 h9 h10 h11)
theorem am_ce_obj {ad : Nat → Nat} {ca : Nat → ClassId} {K : am_K} {x : Nat} (h : K.1 = 10 + x) : am_ce ad ca K = .inr (x, (List.range K.2.1).map (fun y => am_cv ad (K.2.2 y))) := by
  unfold am_ce
  rw [if_neg (by omega), if_neg (by omega), if_neg (by omega), h, Nat.add_sub_cancel_left]
theorem am_ce_i {ad : Nat → Nat} {ca : Nat → ClassId} {K : am_K} {k : Nat} (h : K.1 = k) (h2 : k < 2) : am_ce ad ca K = .inl (ca k, K.2.1, .inl (fun i => am_toI (K.2.2 i))) := by
  unfold am_ce
  rw [if_pos (by omega), h]
theorem am_ce_l {ad : Nat → Nat} {ca : Nat → ClassId} {K : am_K} (h : K.1 = 2) : am_ce ad ca K = .inl (ca 2, K.2.1, .inr (.inl (fun i => am_toL (K.2.2 i)))) := by
  unfold am_ce
  rw [if_neg (by omega), if_pos h]
theorem am_ce_q {ad : Nat → Nat} {ca : Nat → ClassId} {K : am_K} (h : 3 ≤ K.1) (h2 : K.1 < 7) : am_ce ad ca K = .inl (ca K.1, K.2.1, .inr (.inr (.inr (.inr (fun i => am_toR ad (K.2.2 i)))))) := by
  unfold am_ce
  rw [if_neg (by omega), if_neg (by omega), if_pos h2]
/-- a field's link and what the tables say of its class -/
def am_fl (own : String) (index x y : Nat) (Ts : List Cond) : Prop := ∃ (C : String) (T : u_T) (N : Nat), vwCl[x]? = some (C, T, N) ∧ y < N ∧ Cond.fieldLink own index (T y).1 (T y).2.1 (T y).2.2.1 ∈ Ts ∧ ∀ w ∈ u_ws C T N, w ∈ Ts
theorem am_vt_ne {n k : Nat} {v : am_V} (h : am_vt n k v) : v ≠ vU := by
  rintro rfl
  exact h.1
theorem am_gd_fld {h : am_H} {a x y : Nat} (hg : am_gd ft h) (ha : a < h.1) (hk : (h.2.2 a).1 = 10 + x) (hy : y < (h.2.2 a).2.1) : am_vt h.1 (ft x y) ((h.2.2 a).2.2 y) := by
  rcases hg a ha with q | q
  · omega
  · have := q.2 y hy
    rwa [hk, Nat.add_sub_cancel_left] at this
theorem am_gd_arr {h : am_H} {a : Nat} (hg : am_gd ft h) (ha : a < h.1) (hk : (h.2.2 a).1 < 7) (i : Nat) : am_vt h.1 (am_ek (h.2.2 a).1) ((h.2.2 a).2.2 i) := by
  rcases hg a ha with q | q
  · exact q.2.2 i
  · omega
theorem sm_gf {own : String} {Ts : List Cond} {pc index a x y : Nat} {ls st : List am_V} {h : am_H} (hx : p.tables.exec = Jvm.exec) (hb : c.code = cc) (hown : s.vm.findClass own = some m.cls) (hts : ∀ w ∈ Ts, w.before args s = true) (hK : va_K D vwCl (am_tys ca) s) (hdg : decode cc pc = .ok (.getfield index, 3)) (hf : am_fl own index x y Ts)
    (ha : a < h.1) (hk : (h.2.2 a).1 = 10 + x) (hy : y < (h.2.2 a).2.1) (k : am_G p l e R s m args below meth c Q D ca ft A n0 z0 ad0 nL (pc + 3, ls, (h.2.2 a).2.2 y :: st, h)) : am_G p l e R s m args below meth c Q D ca ft A n0 z0 ad0 nL (pc, ls, vR a :: st, h) := by
  intro ad H locs LS h1 h2 h3 h4 h5 h6 h7 h8 h9 h10 h11
  obtain ⟨C, T, N, f1, f2, f3, f4⟩ := hf
  have hv := am_gd_fld h4 ha hk hy
  refine va_get hx hb hts f4 hown hK h7 a ((am_ws_at ha).trans (by rw [am_ce_obj hk])) f1 y f2 (hts _ f3) (fun _ q => q) (v := am_cv ad ((h.2.2 a).2.2 y)) ?_ hdg (k ad H locs LS h1 h2 h3 h4 (fun w hw => (List.mem_cons.mp hw).elim (fun q => by rw [q]; exact hv.1) (fun q => h5 w (List.mem_cons_of_mem _ q))) h6 h7 h8 h9 h10 h11)
  rw [List.getElem?_map, List.getElem?_range hy]
  rfl
/-- a kind of values and a type -/
def am_tk (k : Nat) (ty : FieldType) : Bool := match k, ty with
  | 0, .int => true
  | 1, .boolean => true
  | 2, .long => true
  | 3, .array _ => true
  | 3, .object _ => true
  | _, _ => false
theorem am_fit {ad : Nat → Nat} {n k : Nat} {v : am_V} {ty : FieldType} (hv : am_vk n v) (hf : am_fok k v = true) (ht : am_tk k ty = true) : narrow ty (am_cv ad v) = am_cv ad v ∧ fits ty (am_cv ad v) = true := by
  rcases v with (x | x) | _ | _ | a
  · have : (k = 0) ∨ (k = 1 ∧ (x = 0 ∨ x = 1)) := by simpa [am_fok] using hf
    rcases this with rfl | ⟨rfl, rfl | rfl⟩
    · cases ty <;> first | (cases ht; done) | exact ⟨rfl, rfl⟩
    · cases ty <;> first | (cases ht; done) | exact ⟨(by decide : narrow .boolean (.int (Int32.ofInt 0)) = .int (Int32.ofInt 0)), (by decide : fits .boolean (.int (Int32.ofInt 0)) = true)⟩
    · cases ty <;> first | (cases ht; done) | exact ⟨(by decide : narrow .boolean (.int (Int32.ofInt 1)) = .int (Int32.ofInt 1)), (by decide : fits .boolean (.int (Int32.ofInt 1)) = true)⟩
  · have : k = 2 := by simpa [am_fok] using hf
    subst this
    cases ty <;> first | (cases ht; done) | exact ⟨rfl, rfl⟩
  · exact hv.elim
  · have : k = 3 := by simpa [am_fok] using hf
    subst this
    cases ty <;> first | (cases ht; done) | exact ⟨rfl, rfl⟩
  · have : k = 3 := by simpa [am_fok] using hf
    subst this
    cases ty <;> first | (cases ht; done) | exact ⟨rfl, rfl⟩
theorem am_gd_wr {h : am_H} {a i : Nat} {v : am_V} (hg : am_gd ft h) (hc : am_ckd ft h.1 ((h.2.2 a).1, (h.2.2 a).2.1, am_up (h.2.2 a).2.2 i v)) : am_gd ft (am_wr h a i v) := by
  intro k hk
  show am_ckd ft h.1 (am_up h.2.2 a _ k)
  unfold am_up
  by_cases e : k = a
  · rw [if_pos e]
    exact hc
  · rw [if_neg e]
    exact hg k hk
theorem am_map_set {ad : Nat → Nat} {n y : Nat} {f : Nat → am_V} {v : am_V} : (List.range n).map (fun j => am_cv ad (am_up f y v j)) = ((List.range n).map (fun j => am_cv ad (f j))).set y (am_cv ad v) := by
  apply List.ext_getElem?
  intro i
  rw [List.getElem?_set, List.getElem?_map, List.getElem?_map]
  by_cases hi : i < n
  · rw [List.getElem?_range hi]
    by_cases e : y = i
    · subst e
      simp [am_up, hi]
    · simp [am_up, e, Ne.symm e]
  · have : (List.range n)[i]? = none := List.getElem?_eq_none (by simp; omega)
    rw [this]
    by_cases e : y = i
    · subst e
      simp [hi]
    · simp [e]
/-- behind a write of a field or an element -/
theorem am_put_go {pc2 a i : Nat} {ls st us : List am_V} {h : am_H} {v : am_V} {ad : Nat → Nat} {H : Heap} {locs : List Loc} {LS : Array Slot} {e1 : va_E} (h1 : ∀ k, k < n0 → ad k = ad0 k) (h2 : n0 ≤ h.1) (h3 : z0 ≤ h.2.1) (h5 : ∀ w ∈ us ++ st, am_vk h.1 w) (h6 : ∀ w ∈ ls, w = vU ∨ am_vk h.1 w) (h10 : am_LR ad ls LS) (h11 : ls.length = nL) (ha : a < h.1) (hc : am_gd ft (am_wr h a i v))
    (he : am_ce ad ca ((h.2.2 a).1, (h.2.2 a).2.1, am_up (h.2.2 a).2.2 i v) = e1) (k : am_G p l e R s m args below meth c Q D ca ft A n0 z0 ad0 nL (pc2, ls, st, am_wr h a i v))
    (hP : va_P D vwCl ((am_ws ad ca h).set a (ad a, e1)) H) (hD : va_D A ((am_ws ad ca h).set a (ad a, e1))) (hS : va_S A s.heap H locs) : W p l e R s m args below meth c H locs (h.1 - n0) (h.2.1 - z0) Q (F0 m pc2 LS (st.map (am_cv ad))) := by
  have e : am_ws ad ca (am_wr h a i v) = (am_ws ad ca h).set a (ad a, e1) := am_ws_set ha he
  rw [← e] at hP hD
  exact k ad H locs LS h1 h2 h3 hc (fun w hw => h5 w (List.mem_append_right _ hw)) h6 hP hD hS h10 h11
theorem sm_pf {own : String} {Ts : List Cond} {pc index a x y : Nat} {ls st : List am_V} {h : am_H} {v : am_V} {C : String} {T : u_T} {N : Nat} (tyf : Nat → FieldType) (hx : p.tables.exec = Jvm.exec) (hb : c.code = cc) (hown : s.vm.findClass own = some m.cls) (hts : ∀ w ∈ Ts, w.before args s = true) (hK : va_K D vwCl (am_tys ca) s) (hdg : decode cc pc = .ok (.putfield index, 3))
    (f1 : vwCl[x]? = some (C, T, N)) (f2 : y < N) (f3 : Cond.fieldLink own index (T y).1 (T y).2.1 (T y).2.2.1 ∈ Ts) (f4 : ∀ w ∈ u_ws C T N, w ∈ Ts) (f5 : ∀ k, k < N → parseFieldDescriptor (T k).2.2.1 = some (tyf k)) (f6 : ∀ a, a < N → ∀ b, b < N → a ≠ b → (T a).2.1 ≠ (T b).2.1) (f7 : am_tk (ft x y) (tyf y) = true)
    (f8 : (T y).2.2.2 = false ∨ ((T y).2.2.2 = true ∧ meth.name = "<init>" ∧ (T y).1 = own))
    (ha : a < h.1) (hk : (h.2.2 a).1 = 10 + x) (hy : y < (h.2.2 a).2.1) (hv : am_fok (ft x y) v = true) (k : am_G p l e R s m args below meth c Q D ca ft A n0 z0 ad0 nL (pc + 3, ls, st, am_wr h a y v)) : am_G p l e R s m args below meth c Q D ca ft A n0 z0 ad0 nL (pc, ls, v :: vR a :: st, h) := by
  intro ad H locs LS h1 h2 h3 h4 h5 h6 h7 h8 h9 h10 h11
  have hvk : am_vk h.1 v := h5 v (by simp)
  obtain ⟨g1, g2⟩ := am_fit (ad := ad) hvk hv f7
  have he : am_ce ad ca ((h.2.2 a).1, (h.2.2 a).2.1, am_up (h.2.2 a).2.2 y v) = .inr (x, ((List.range (h.2.2 a).2.1).map (fun j => am_cv ad ((h.2.2 a).2.2 j))).set y (am_cv ad v)) := (am_ce_obj (K := ((h.2.2 a).1, (h.2.2 a).2.1, am_up (h.2.2 a).2.2 y v)) hk).trans (congrArg (fun z => (Sum.inr (x, z) : va_E)) am_map_set)
  have hc : am_gd ft (am_wr h a y v) := am_gd_wr h4 (Or.inr ⟨by omega, fun i hi => by
    show am_vt h.1 (ft ((h.2.2 a).1 - 10) i) (am_up (h.2.2 a).2.2 y v i)
    rw [hk, Nat.add_sub_cancel_left]
    unfold am_up
    by_cases e : i = y
    · rw [if_pos e, e]
      exact ⟨hvk, hv⟩
    · rw [if_neg e]
      exact am_gd_fld h4 ha hk hi⟩)
  have hl : y < ((List.range (h.2.2 a).2.1).map (fun j => am_cv ad ((h.2.2 a).2.2 j))).length := by simpa using hy
  rcases f8 with f8 | ⟨f8, f9, f10⟩
  · exact va_put hx hb hts f4 tyf f5 f6 hown hK h7 h8 h9 a ((am_ws_at ha).trans (by rw [am_ce_obj hk])) f1 y f2 (hts _ f3) (fun _ q => q) f8 (f5 y f2) g1 g2 hl hdg (fun H1 locs1 hP hD hS => am_put_go (us := [v, vR a]) h1 h2 h3 h5 h6 h10 h11 ha hc he k hP hD hS)
  · exact va_putF hx hb hts f4 tyf f5 f6 hown hK h7 h8 h9 a ((am_ws_at ha).trans (by rw [am_ce_obj hk])) f1 y f2 (hts _ f3) (fun _ q => q) f8 f9 f10 (f5 y f2) g1 g2 hl hdg (fun H1 locs1 hP hD hS => am_put_go (us := [v, vR a]) h1 h2 h3 h5 h6 h10 h11 ha hc he k hP hD hS)
end SM
