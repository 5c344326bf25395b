/-- the table says that there is an array class over arrays of ty -/
def va_AOA (ty : FieldType) (U : State) : Prop := (Cond.arrayOver (.array ty)).before #[] U = true
theorem va_AOA.use {ty : FieldType} {A : Array Value} {U : State} (h : va_AOA ty U) : (Cond.arrayOver (.array ty)).before A U = true := h
/-! ===== BEGIN new T[n][m]: the outer array a place, the inner ones among the pooled ===== -/
/-- f, but v at every address of l -/
def vr_up {α : Type} (f : Nat → α) (l : List Nat) (v : α) : Nat → α := fun a => if a ∈ l then v else f a
theorem vr_up_in {α : Type} {f : Nat → α} {l : List Nat} {v : α} {a : Nat} (h : a ∈ l) : vr_up f l v a = v := if_pos h
theorem vr_up_ne {α : Type} {f : Nat → α} {l : List Nat} {v : α} {a : Nat} (h : a ∉ l) : vr_up f l v a = f a := if_neg h
theorem vr_rows {L l : List Nat} {f : Nat → va_E} {e : va_E} (h : ∀ a, a ∈ l → a ∉ L) : va_pl L f ++ l.map (fun a => (a, e)) = va_pl (L ++ l) (vr_up f l e) := by
  unfold va_pl
  rw [List.map_append]
  congr 1
  · apply List.map_congr_left
    intro a ha
    rw [vr_up_ne (fun q => h a q ha)]
  · apply List.map_congr_left
    intro a ha
    rw [vr_up_in ha]
theorem vr_lay {X rows : va_W} {x : Nat × va_E} {pl : va_W} {D : va_G} {cl : List vw_C} {H : Heap} (hP : va_P D cl (((X ++ pl) ++ [x]) ++ rows) H) : va_P D cl ((X ++ [x]) ++ (pl ++ rows)) H := by
  rw [List.append_assoc (X ++ pl)] at hP
  have h := va_P.swap hP
  rw [← List.append_assoc X] at h
  have h2 := va_P.swap h
  rw [List.append_assoc (X ++ [x])] at h2
  exact h2
theorem vr_layD {X rows : va_W} {x : Nat × va_E} {pl : va_W} {A : Nat → Prop} (hD : va_D A (((X ++ pl) ++ [x]) ++ rows)) : va_D A ((X ++ [x]) ++ (pl ++ rows)) := by
  rw [List.append_assoc (X ++ pl)] at hD
  have h := va_D.swap hD
  rw [← List.append_assoc X] at h
  have h2 := va_D.swap h
  rw [List.append_assoc (X ++ [x])] at h2
  exact h2
theorem vr_outer (c : ClassId) (N h0 : Nat) : ∀ i : Nat, Jvm.Free.Multi.outerC c N h0 i = arrV c N (fun j => va_rf (if j < i then some (h0 + 1 + j) else none))
  | 0 => by
    show ({ cls := c, slots := Array.replicate N .null, vm := .none } : Cell) = _
    rw [arrV_new]
    refine congrArg (arrV c N) (funext fun j => ?_)
    simp [va_rf]
  | i + 1 => by
    show (Jvm.Free.Multi.outerC c N h0 i).setSlot i (.ref (h0 + 1 + i)) = _
    rw [vr_outer c N h0 i, arrV_store]
    refine congrArg (arrV c N) (funext fun j => ?_)
    by_cases e : j = i
    · subst e
      simp [updV, va_rf]
    · by_cases h : j < i
      · simp [updV, e, h, Nat.lt_succ_of_lt h]
      · simp [updV, e, h, show ¬ j < i + 1 by omega]
section VGM
variable {p : Program} {l : Launch} {e : Env} {R : Room} {s : State} {m : MethodId} {args : Array Value} {below : List Frame} {meth : Method} {c : Code} {H : Heap} {locs : List Loc} {cells slots : Nat} {Q : State → Prop}
variable {cc : ByteArray} {pc : Nat} {ls : Array Slot} {rest : List Value} {D : va_G} {cl : List vw_C} {A : Nat → Prop} {a : Nat} {tys : List (ClassId × FieldType)} {ws : va_W} {H0 : Heap}
theorem va_mna {X : va_W} {L : List Nat} {f : Nat → va_E} {cc : ByteArray} (hexec : p.tables.exec = Jvm.exec) (hb : c.code = cc) {own : String} {index : Nat} {ty : FieldType} {cy : ClassId} (hown : s.vm.findClass own = some m.cls) (hclink : (Cond.classLink own index ("[" ++ (FieldType.array ty).toString)).before args s = true) (hover : va_AOA ty s) (harr : (Cond.arrayClass ty).before args s = true) (hcy : s.vm.findClass (FieldType.array ty).toString = some cy)
    (hK : va_K D cl tys s) (hP : va_P D cl (X ++ va_pl L f) H) (hD : va_D A (X ++ va_pl L f)) (hS : va_S A H0 H locs) (hA : ∀ q, H0.size ≤ q → A q) {n k : Int32} {N' K' : Nat} {z : vp_A} (hn : ¬ n < 0) (hk : ¬ k < 0) (hN : n.toNatClampNeg = N') (hM : k.toNatClampNeg = K')
    (hb1 : N' * 4 ≤ 536870912) (hb2 : K' * componentBytes ty ≤ 536870912) (hb3 : K' ≤ 536870912) (hdf : fits ty (defaultValue ty) = true) (hdd : (defaultValue ty).isDefault = true) (hcells : cells + (1 + N') ≤ R.cells) (hslots : slots + (N' + N' * K') ≤ R.slots) (hz : ∀ c : ClassId, Jvm.Free.Multi.innerC c K' (defaultValue ty) = vp_cell c z) (hdg : decode cc pc = .ok (.multianewarray index 2, 4))
    (kk : ∀ (q : Nat) (r : Nat → Nat) (cA : ClassId) (H1 : Heap), (∀ i j : Nat, i < N' → j < N' → r i = r j → i = j) → (∀ i : Nat, i < N' → r i ∉ L) → va_K D cl (tys ++ [(cA, .array ty)]) s →
      va_P D cl ((X ++ [(q, .inl (cA, N', .inr (.inr (.inr (.inr (fun i => if i < N' then some (r i) else none))))))]) ++ va_pl (L ++ (List.range N').map r) (vr_up f ((List.range N').map r) (.inl (cy, z)))) H1 → va_D A ((X ++ [(q, .inl (cA, N', .inr (.inr (.inr (.inr (fun i => if i < N' then some (r i) else none))))))]) ++ va_pl (L ++ (List.range N').map r) (vr_up f ((List.range N').map r) (.inl (cy, z)))) → va_S A H0 H1 locs →
      W p l e R s m args below meth c H1 locs (cells + 1 + N') (slots + N' + N' * K') Q (F0 m (pc + 4) ls (.ref q :: rest))) : W p l e R s m args below meth c H locs cells slots Q (F0 m pc ls (.int k :: .int n :: rest)) := by
  subst hN
  subst hM
  intro T hT Xs
  obtain ⟨vm₁, cA, comp, -, fA, fC, hO, -, X', step⟩ := Xs.multianewarray2F hexec hown hclink (va_AOA.use hover) harr (g := F0 m pc ls (.int k :: .int n :: rest)) rfl (by rw [hb]; exact hdg) rfl hn hk hb1 hb2 hb3 hdf hdd hcells hslots
  have ec : some cy = some comp := hcy.symm.trans fC
  cases ec
  generalize hF : Jvm.Free.Multi.fill (T.setVm vm₁) cA cy n.toNatClampNeg k.toNatClampNeg (defaultValue ty) n.toNatClampNeg = F at X' step
  have hTh : (T.setVm vm₁).heap = H := hT
  obtain ⟨f1, f2, -, -⟩ := Jvm.Free.Multi.fill_facts (T.setVm vm₁) cA cy n.toNatClampNeg k.toNatClampNeg (defaultValue ty) n.toNatClampNeg
  rw [hF, hTh] at f1 f2
  have hold : ∀ x : Nat, x < H.size → F.heap[x]? = H[x]? := fun x hx => by
    have := Jvm.Free.Multi.fill_old (T.setVm vm₁) cA cy n.toNatClampNeg k.toNatClampNeg (defaultValue ty) (a := x) (by rw [hTh]; exact hx) n.toNatClampNeg
    rw [hF, hTh] at this
    exact this
  have hrow : ∀ j : Nat, j < n.toNatClampNeg → F.heap[H.size + 1 + j]? = some (vp_cell cy z) := fun j hj => by
    have := Jvm.Free.Multi.fill_inner (T.setVm vm₁) cA cy n.toNatClampNeg k.toNatClampNeg (defaultValue ty) n.toNatClampNeg j hj
    rw [hF, hTh, hz] at this
    exact this
  have hout : Jvm.Free.Multi.outerC cA n.toNatClampNeg H.size n.toNatClampNeg = vp_cell cA (n.toNatClampNeg, .inr (.inr (.inr (.inr (fun i => if i < n.toNatClampNeg then some (H.size + 1 + i) else none))))) := by
    rw [vp_cell_q]
    exact vr_outer cA n.toNatClampNeg H.size n.toNatClampNeg
  rw [hout] at f2
  have hlt : ∀ a, a ∈ L → a < H.size := fun a ha => by
    obtain ⟨k9, hk9⟩ := va_pl_get (X := X) (f := f) ha
    exact (hP k9 _ hk9).lt
  have hnl : ∀ i : Nat, i < n.toNatClampNeg → H.size + 1 + i ∉ L := fun i _ h => by
    have := hlt _ h
    omega
  have hnm : ∀ a, a ∈ (List.range n.toNatClampNeg).map (fun i => H.size + 1 + i) → a ∉ L := fun a ha h => by
    obtain ⟨i, -, rfl⟩ := List.mem_map.mp ha
    have := hlt _ h
    omega
  have hP0 : va_P D cl (X ++ va_pl L f) F.heap := hP.kept (fun k9 x hx => hold x.1 ((hP k9 x hx).lt))
  have hP1 : va_P D cl ((X ++ va_pl L f) ++ [(H.size, .inl (cA, n.toNatClampNeg, .inr (.inr (.inr (.inr (fun i => if i < n.toNatClampNeg then some (H.size + 1 + i) else none))))))]) F.heap := hP0.app (fun k9 x hx => by
    have h0 : k9 < 1 := (List.getElem?_eq_some_iff.mp hx).1
    rw [show k9 = 0 by omega] at hx
    cases hx
    exact f2)
  have hP2 : va_P D cl (((X ++ va_pl L f) ++ [(H.size, .inl (cA, n.toNatClampNeg, .inr (.inr (.inr (.inr (fun i => if i < n.toNatClampNeg then some (H.size + 1 + i) else none))))))]) ++ ((List.range n.toNatClampNeg).map (fun i => H.size + 1 + i)).map (fun a => (a, .inl (cy, z)))) F.heap := hP1.app (fun k9 x hx => by
    obtain ⟨a, ha, rfl⟩ := List.mem_map.mp (List.mem_of_getElem? hx)
    obtain ⟨i, hi, rfl⟩ := List.mem_map.mp ha
    exact hrow i (List.mem_range.mp hi))
  have hD2 : va_D A (((X ++ va_pl L f) ++ [(H.size, .inl (cA, n.toNatClampNeg, .inr (.inr (.inr (.inr (fun i => if i < n.toNatClampNeg then some (H.size + 1 + i) else none))))))]) ++ ((List.range n.toNatClampNeg).map (fun i => H.size + 1 + i)).map (fun a => (a, .inl (cy, z)))) := by
    have hD1 := hD.push (e := .inl (cA, n.toNatClampNeg, .inr (.inr (.inr (.inr (fun i => if i < n.toNatClampNeg then some (H.size + 1 + i) else none)))))) hP rfl (hA _ hS.1)
    generalize hW1 : (X ++ va_pl L f) ++ [(H.size, .inl (cA, n.toNatClampNeg, .inr (.inr (.inr (.inr (fun i => if i < n.toNatClampNeg then some (H.size + 1 + i) else none))))))] = W1 at hD1 hP1 ⊢
    have hle : ∀ (k9 : Nat) (x : Nat × va_E), W1[k9]? = some x → x.1 ≤ H.size := fun k9 x hx => by
      rw [← hW1] at hx
      by_cases hl : k9 < (X ++ va_pl L f).length
      · rw [List.getElem?_append_left hl] at hx
        exact Nat.le_of_lt ((hP k9 x hx).lt)
      · rw [List.getElem?_append_right (by omega)] at hx
        have h0 : k9 - (X ++ va_pl L f).length < 1 := (List.getElem?_eq_some_iff.mp hx).1
        rw [show k9 - (X ++ va_pl L f).length = 0 by omega] at hx
        cases hx
        exact Nat.le_refl _
    have hr : ∀ (k9 : Nat) (x : Nat × va_E), (((List.range n.toNatClampNeg).map (fun i => H.size + 1 + i)).map (fun a => ((a, .inl (cy, z)) : Nat × va_E)))[k9]? = some x → x.1 = H.size + 1 + k9 := fun k9 x hx => by
      rw [List.getElem?_map, List.getElem?_map] at hx
      by_cases h9 : k9 < n.toNatClampNeg
      · rw [List.getElem?_range h9] at hx
        cases hx
        rfl
      · have hn0 : (List.range n.toNatClampNeg)[k9]? = none := List.getElem?_eq_none (by rw [List.length_range]; omega)
        rw [hn0] at hx
        cases hx
    refine ⟨fun i j x y hi hj hxy => ?_, fun k9 x hx => ?_⟩
    · by_cases h1 : i < W1.length <;> by_cases h2 : j < W1.length
      · rw [List.getElem?_append_left h1] at hi
        rw [List.getElem?_append_left h2] at hj
        exact hD1.1 i j x y hi hj hxy
      · rw [List.getElem?_append_left h1] at hi
        rw [List.getElem?_append_right (by omega)] at hj
        have := hle _ _ hi
        have := hr _ _ hj
        omega
      · rw [List.getElem?_append_right (by omega)] at hi
        rw [List.getElem?_append_left h2] at hj
        have := hle _ _ hj
        have := hr _ _ hi
        omega
      · rw [List.getElem?_append_right (by omega)] at hi hj
        have := hr _ _ hi
        have := hr _ _ hj
        omega
    · by_cases h1 : k9 < W1.length
      · rw [List.getElem?_append_left h1] at hx
        exact hD1.2 k9 x hx
      · rw [List.getElem?_append_right (by omega)] at hx
        have := hr _ _ hx
        exact hA _ (by have := hS.1; omega)
  have hAr : ArrOfT s cA (.array ty) := fun N9 z9 => by
    obtain ⟨-, k9, hk9, cm9, hkk9⟩ := (hO 0 0 0).1
    exact ⟨(fun q hq => by cases hq), k9, hk9, cm9, hkk9⟩
  have hK2 : va_K D cl (tys ++ [(cA, .array ty)]) s := ⟨hK.1, fun k9 x hx => by
    by_cases hl : k9 < tys.length
    · rw [List.getElem?_append_left hl] at hx
      exact hK.2 k9 x hx
    · rw [List.getElem?_append_right (by omega)] at hx
      have h0 : k9 - tys.length < 1 := (List.getElem?_eq_some_iff.mp hx).1
      rw [show k9 - tys.length = 0 by omega] at hx
      cases hx
      exact ⟨hAr, fA⟩⟩
  obtain ⟨t, a1, b1⟩ := kk H.size (fun i => H.size + 1 + i) cA F.heap (fun i j _ _ h => by have h9 : H.size + 1 + i = H.size + 1 + j := h; omega) hnl hK2 (by rw [← vr_rows hnm]; exact vr_lay hP2) (by rw [← vr_rows hnm]; exact vr_layD hD2) ⟨by rw [f1]; have := hS.1; omega, fun x h1 h2 => (hold x (Nat.lt_of_lt_of_le h1 hS.1)).trans (hS.2.1 x h1 h2), hS.2.2⟩ F rfl X'
  refine ⟨t, step t ?_, b1⟩
  have e : T.heap.size = H.size := by rw [hT]
  rw [e]
  exact a1
end VGM
/-! ===== END ===== -/

/-! ===== BEGIN printed: names, fields, word lists, decode rows ===== -/
def RX0 : String := "StrandBoxes$Boxes"
def TX0 : u_T := fun k => match k with
  | 0 => ("StrandBoxes$Boxes", "strands", "I", true)
  | 1 => ("StrandBoxes$Boxes", "points", "I", true)
  | 2 => ("StrandBoxes$Boxes", "letters", "I", true)
  | 3 => ("StrandBoxes$Boxes", "count", "I", true)
  | 4 => ("StrandBoxes$Boxes", "partners", "[[I", true)
  | 5 => ("StrandBoxes$Boxes", "rings", "[I", true)
  | 6 => ("StrandBoxes$Boxes", "lengths", "[I", true)
  | 7 => ("StrandBoxes$Boxes", "spellings", "[[I", true)
  | 8 => ("StrandBoxes$Boxes", "beneath", "[[I", true)
  | 9 => ("StrandBoxes$Boxes", "draft", "[I", true)
  | _ => ("StrandBoxes$Boxes", "seen", "[Z", true)
def tyX0 : Nat → FieldType := fun k => match k with
  | 0 => .int
  | 1 => .int
  | 2 => .int
  | 3 => .int
  | 4 => .array (.array .int)
  | 5 => .array .int
  | 6 => .array .int
  | 7 => .array (.array .int)
  | 8 => .array (.array .int)
  | 9 => .array .int
  | _ => .array .boolean
abbrev wsX00 : List Cond := u_ws RX0 TX0 11
theorem nmX0 : ∀ a, a < 11 → ∀ b, b < 11 → a ≠ b → (TX0 a).2.1 ≠ (TX0 b).2.1 := by decide +kernel
theorem tyX0_ok : ∀ k, k < 11 → parseFieldDescriptor (TX0 k).2.2.1 = some (tyX0 k) := by decide +kernel
abbrev cX0_init : ByteArray := prog_2_method_1_code
def yX0_init : MethodName := ⟨RX0, "<init>", "(I)V"⟩
abbrev cX0_countPairings : ByteArray := prog_2_method_2_code
def yX0_countPairings : MethodName := ⟨RX0, "countPairings", "(I)I"⟩
abbrev cX0_listPairings : ByteArray := prog_2_method_3_code
def yX0_listPairings : MethodName := ⟨RX0, "listPairings", "()V"⟩
abbrev cX0_pairBy : ByteArray := prog_2_method_4_code
def yX0_pairBy : MethodName := ⟨RX0, "pairBy", "([I[I)V"⟩
abbrev cX0_freeBehind : ByteArray := prog_2_method_5_code
def yX0_freeBehind : MethodName := ⟨RX0, "freeBehind", "(II)I"⟩
abbrev cX0_countUp : ByteArray := prog_2_method_6_code
def yX0_countUp : MethodName := ⟨RX0, "countUp", "([I)V"⟩
abbrev cX0_numberOf : ByteArray := prog_2_method_7_code
def yX0_numberOf : MethodName := ⟨RX0, "numberOf", "([I)I"⟩
abbrev cX0_countPlane : ByteArray := prog_2_method_8_code
def yX0_countPlane : MethodName := ⟨RX0, "countPlane", "()I"⟩
abbrev cX0_isPlane : ByteArray := prog_2_method_9_code
def yX0_isPlane : MethodName := ⟨RX0, "isPlane", "(I)Z"⟩
abbrev cX0_isBetween : ByteArray := prog_2_method_10_code
def yX0_isBetween : MethodName := ⟨RX0, "isBetween", "(III)Z"⟩
abbrev cX0_placeRound : ByteArray := prog_2_method_11_code
def yX0_placeRound : MethodName := ⟨RX0, "placeRound", "(I)I"⟩
abbrev cX0_countThrough : ByteArray := prog_2_method_12_code
def yX0_countThrough : MethodName := ⟨RX0, "countThrough", "(I)I"⟩
abbrev cX0_upsideDown : ByteArray := prog_2_method_13_code
def yX0_upsideDown : MethodName := ⟨RX0, "upsideDown", "(I)I"⟩
abbrev cX0_across : ByteArray := prog_2_method_14_code
def yX0_across : MethodName := ⟨RX0, "across", "(I)I"⟩
abbrev cX0_closeRings : ByteArray := prog_2_method_15_code
def yX0_closeRings : MethodName := ⟨RX0, "closeRings", "([I)I"⟩
abbrev cX0_forgetSeen : ByteArray := prog_2_method_16_code
def yX0_forgetSeen : MethodName := ⟨RX0, "forgetSeen", "()V"⟩
abbrev cX0_stackLetters : ByteArray := prog_2_method_17_code
def yX0_stackLetters : MethodName := ⟨RX0, "stackLetters", "()V"⟩
abbrev cX0_letterAt : ByteArray := prog_2_method_18_code
def yX0_letterAt : MethodName := ⟨RX0, "letterAt", "(I)I"⟩
abbrev cX0_isLetter : ByteArray := prog_2_method_19_code
def yX0_isLetter : MethodName := ⟨RX0, "isLetter", "(I)Z"⟩
abbrev cX0_ofLetter : ByteArray := prog_2_method_20_code
def yX0_ofLetter : MethodName := ⟨RX0, "ofLetter", "(I)I"⟩
abbrev cX0_pair : ByteArray := prog_2_method_21_code
def yX0_pair : MethodName := ⟨RX0, "pair", "([III)V"⟩
abbrev cX0_ofPairs : ByteArray := prog_2_method_22_code
def yX0_ofPairs : MethodName := ⟨RX0, "ofPairs", "(J)I"⟩
abbrev cX0_join : ByteArray := prog_2_method_23_code
def yX0_join : MethodName := ⟨RX0, "join", "([I[I)I"⟩
abbrev cX0_follow : ByteArray := prog_2_method_24_code
def yX0_follow : MethodName := ⟨RX0, "follow", "([I[II)I"⟩
abbrev cX0_countInnerRings : ByteArray := prog_2_method_25_code
def yX0_countInnerRings : MethodName := ⟨RX0, "countInnerRings", "([I[I)I"⟩
abbrev cX0_spellAll : ByteArray := prog_2_method_26_code
def yX0_spellAll : MethodName := ⟨RX0, "spellAll", "()V"⟩
abbrev cX0_spellBehind : ByteArray := prog_2_method_27_code
def yX0_spellBehind : MethodName := ⟨RX0, "spellBehind", "(III)V"⟩
abbrev cX0_letterOf : ByteArray := prog_2_method_28_code
def yX0_letterOf : MethodName := ⟨RX0, "letterOf", "(II)I"⟩
abbrev cX0_stackOn : ByteArray := prog_2_method_29_code
def yX0_stackOn : MethodName := ⟨RX0, "stackOn", "(II)I"⟩
def RX1 : String := "StrandBoxes$Crossings"
def TX1 : u_T := fun k => match k with
  | 0 => ("StrandBoxes$Crossings", "strands", "I", false)
  | 1 => ("StrandBoxes$Crossings", "size", "I", false)
  | 2 => ("StrandBoxes$Crossings", "letters", "[I", true)
  | 3 => ("StrandBoxes$Crossings", "wholes", "[I", true)
  | _ => ("StrandBoxes$Crossings", "summed", "Z", false)
def tyX1 : Nat → FieldType := fun k => match k with
  | 0 => .int
  | 1 => .int
  | 2 => .array .int
  | 3 => .array .int
  | _ => .boolean
abbrev wsX10 : List Cond := u_ws RX1 TX1 5
theorem nmX1 : ∀ a, a < 5 → ∀ b, b < 5 → a ≠ b → (TX1 a).2.1 ≠ (TX1 b).2.1 := by decide +kernel
theorem tyX1_ok : ∀ k, k < 5 → parseFieldDescriptor (TX1 k).2.2.1 = some (tyX1 k) := by decide +kernel
abbrev cX1_init : ByteArray := prog_3_method_1_code
def yX1_init : MethodName := ⟨RX1, "<init>", "()V"⟩
abbrev cX1_begin : ByteArray := prog_3_method_2_code
def yX1_begin : MethodName := ⟨RX1, "begin", "(I)V"⟩
abbrev cX1_allows : ByteArray := prog_3_method_3_code
def yX1_allows : MethodName := ⟨RX1, "allows", "(I)Z"⟩
abbrev cX1_append : ByteArray := prog_3_method_4_code
def yX1_append : MethodName := ⟨RX1, "append", "(I)Z"⟩
abbrev cX1_dropLast : ByteArray := prog_3_method_5_code
def yX1_dropLast : MethodName := ⟨RX1, "dropLast", "()Z"⟩
abbrev cX1_wholeAt : ByteArray := prog_3_method_6_code
def yX1_wholeAt : MethodName := ⟨RX1, "wholeAt", "(ILStrandBoxes$Boxes;)I"⟩
abbrev cX1_addStates : ByteArray := prog_3_method_7_code
def yX1_addStates : MethodName := ⟨RX1, "addStates", "(LStrandBoxes$Boxes;)V"⟩
abbrev cX1_addState : ByteArray := prog_3_method_8_code
def yX1_addState : MethodName := ⟨RX1, "addState", "(II)V"⟩
def RX2 : String := "StrandBoxes$Halves"
def TX2 : u_T := fun k => match k with
  | 0 => ("StrandBoxes$Halves", "strands", "I", true)
  | 1 => ("StrandBoxes$Halves", "partners", "[[I", true)
  | 2 => ("StrandBoxes$Halves", "left", "[I", true)
  | 3 => ("StrandBoxes$Halves", "table", "[[I", true)
  | 4 => ("StrandBoxes$Halves", "draft", "[I", true)
  | 5 => ("StrandBoxes$Halves", "seen", "[Z", true)
  | _ => ("StrandBoxes$Halves", "size", "I", false)
def tyX2 : Nat → FieldType := fun k => match k with
  | 0 => .int
  | 1 => .array (.array .int)
  | 2 => .array .int
  | 3 => .array (.array .int)
  | 4 => .array .int
  | 5 => .array .boolean
  | _ => .int
abbrev wsX20 : List Cond := u_ws RX2 TX2 7
theorem nmX2 : ∀ a, a < 7 → ∀ b, b < 7 → a ≠ b → (TX2 a).2.1 ≠ (TX2 b).2.1 := by decide +kernel
theorem tyX2_ok : ∀ k, k < 7 → parseFieldDescriptor (TX2 k).2.2.1 = some (tyX2 k) := by decide +kernel
abbrev cX2_init : ByteArray := prog_4_method_1_code
def yX2_init : MethodName := ⟨RX2, "<init>", "(I)V"⟩
abbrev cX2_nextDraft : ByteArray := prog_4_method_2_code
def yX2_nextDraft : MethodName := ⟨RX2, "nextDraft", "()V"⟩
abbrev cX2_keepDraft : ByteArray := prog_4_method_3_code
def yX2_keepDraft : MethodName := ⟨RX2, "keepDraft", "()V"⟩
abbrev cX2_isHalf : ByteArray := prog_4_method_4_code
def yX2_isHalf : MethodName := ⟨RX2, "isHalf", "([I)Z"⟩
abbrev cX2_keepsWithin : ByteArray := prog_4_method_5_code
def yX2_keepsWithin : MethodName := ⟨RX2, "keepsWithin", "([III)Z"⟩
abbrev cX2_countLeaving : ByteArray := prog_4_method_6_code
def yX2_countLeaving : MethodName := ⟨RX2, "countLeaving", "(I)I"⟩
abbrev cX2_find : ByteArray := prog_4_method_7_code
def yX2_find : MethodName := ⟨RX2, "find", "(II)I"⟩
abbrev cX2_lay : ByteArray := prog_4_method_8_code
def yX2_lay : MethodName := ⟨RX2, "lay", "(II)I"⟩
abbrev cX2_leadsOut : ByteArray := prog_4_method_9_code
def yX2_leadsOut : MethodName := ⟨RX2, "leadsOut", "([I[II)Z"⟩
abbrev cX2_goRound : ByteArray := prog_4_method_10_code
def yX2_goRound : MethodName := ⟨RX2, "goRound", "([I[II)V"⟩
abbrev cX2_rank : ByteArray := prog_4_method_11_code
def yX2_rank : MethodName := ⟨RX2, "rank", "(III)I"⟩
abbrev cX2_fillTable : ByteArray := prog_4_method_12_code
def yX2_fillTable : MethodName := ⟨RX2, "fillTable", "(III)I"⟩
abbrev cX2_fillRow : ByteArray := prog_4_method_13_code
def yX2_fillRow : MethodName := ⟨RX2, "fillRow", "([IIII)V"⟩
abbrev cX2_raise : ByteArray := prog_4_method_14_code
def yX2_raise : MethodName := ⟨RX2, "raise", "(III)I"⟩
abbrev cX2_swapRows : ByteArray := prog_4_method_15_code
def yX2_swapRows : MethodName := ⟨RX2, "swapRows", "(III)V"⟩
abbrev cX2_clearBelow : ByteArray := prog_4_method_16_code
def yX2_clearBelow : MethodName := ⟨RX2, "clearBelow", "(IIII)V"⟩
def RX3 : String := "StrandBoxes$Sum"
def TX3 : u_T := fun k => match k with
  | 0 => ("StrandBoxes$Sum", "strands", "I", false)
  | 1 => ("StrandBoxes$Sum", "size", "I", false)
  | 2 => ("StrandBoxes$Sum", "numbers", "[I", true)
  | 3 => ("StrandBoxes$Sum", "powers", "[I", true)
  | _ => ("StrandBoxes$Sum", "factors", "[J", true)
def tyX3 : Nat → FieldType := fun k => match k with
  | 0 => .int
  | 1 => .int
  | 2 => .array .int
  | 3 => .array .int
  | _ => .array .long
abbrev wsX30 : List Cond := u_ws RX3 TX3 5
theorem nmX3 : ∀ a, a < 5 → ∀ b, b < 5 → a ≠ b → (TX3 a).2.1 ≠ (TX3 b).2.1 := by decide +kernel
theorem tyX3_ok : ∀ k, k < 5 → parseFieldDescriptor (TX3 k).2.2.1 = some (tyX3 k) := by decide +kernel
abbrev cX3_init : ByteArray := prog_5_method_1_code
def yX3_init : MethodName := ⟨RX3, "<init>", "()V"⟩
abbrev cX3_begin : ByteArray := prog_5_method_2_code
def yX3_begin : MethodName := ⟨RX3, "begin", "(I)V"⟩
abbrev cX3_take : ByteArray := prog_5_method_3_code
def yX3_take : MethodName := ⟨RX3, "take", "(LStrandBoxes$Sum;)V"⟩
abbrev cX3_isLike : ByteArray := prog_5_method_4_code
def yX3_isLike : MethodName := ⟨RX3, "isLike", "(LStrandBoxes$Sum;)Z"⟩
abbrev cX3_isAt : ByteArray := prog_5_method_5_code
def yX3_isAt : MethodName := ⟨RX3, "isAt", "(III)Z"⟩
abbrev cX3_isFactor : ByteArray := prog_5_method_6_code
def yX3_isFactor : MethodName := ⟨RX3, "isFactor", "(J)Z"⟩
abbrev cX3_join : ByteArray := prog_5_method_7_code
def yX3_join : MethodName := ⟨RX3, "join", "(IIJ)Z"⟩
abbrev cX3_change : ByteArray := prog_5_method_8_code
def yX3_change : MethodName := ⟨RX3, "change", "(IJ)Z"⟩
abbrev cX3_insert : ByteArray := prog_5_method_9_code
def yX3_insert : MethodName := ⟨RX3, "insert", "(IIIJ)Z"⟩
abbrev cX3_moveTail : ByteArray := prog_5_method_10_code
def yX3_moveTail : MethodName := ⟨RX3, "moveTail", "(II)V"⟩
abbrev cX3_joinAll : ByteArray := prog_5_method_11_code
def yX3_joinAll : MethodName := ⟨RX3, "joinAll", "(LStrandBoxes$Sum;I)Z"⟩
abbrev cX3_joinProducts : ByteArray := prog_5_method_12_code
def yX3_joinProducts : MethodName := ⟨RX3, "joinProducts", "(LStrandBoxes$Sum;LStrandBoxes$Sum;LStrandBoxes$Boxes;)Z"⟩
abbrev cX3_fitsProduct : ByteArray := prog_5_method_13_code
def yX3_fitsProduct : MethodName := ⟨RX3, "fitsProduct", "(JJ)Z"⟩
def RX4 : String := "StrandBoxes"
def TX4 : u_T := fun k => match k with
  | 0 => ("StrandBoxes", "boxes", "[LStrandBoxes$Boxes;", true)
  | 1 => ("StrandBoxes", "halfRows", "[LStrandBoxes$Halves;", true)
  | 2 => ("StrandBoxes", "sums", "[LStrandBoxes$Sum;", true)
  | 3 => ("StrandBoxes", "made", "LStrandBoxes$Sum;", true)
  | _ => ("StrandBoxes", "crossings", "LStrandBoxes$Crossings;", true)
def tyX4 : Nat → FieldType := fun k => match k with
  | 0 => .array (.object "StrandBoxes$Boxes")
  | 1 => .array (.object "StrandBoxes$Halves")
  | 2 => .array (.object "StrandBoxes$Sum")
  | 3 => .object "StrandBoxes$Sum"
  | _ => .object "StrandBoxes$Crossings"
abbrev wsX40 : List Cond := u_ws RX4 TX4 5
theorem nmX4 : ∀ a, a < 5 → ∀ b, b < 5 → a ≠ b → (TX4 a).2.1 ≠ (TX4 b).2.1 := by decide +kernel
theorem tyX4_ok : ∀ k, k < 5 → parseFieldDescriptor (TX4 k).2.2.1 = some (tyX4 k) := by decide +kernel
abbrev cX4_init : ByteArray := prog_1_method_1_code
def yX4_init : MethodName := ⟨RX4, "<init>", "()V"⟩
abbrev cX4_many : ByteArray := prog_1_method_2_code
def yX4_many : MethodName := ⟨RX4, "many", "(II)I"⟩
abbrev cX4_partner : ByteArray := prog_1_method_3_code
def yX4_partner : MethodName := ⟨RX4, "partner", "(III)I"⟩
abbrev cX4_about : ByteArray := prog_1_method_4_code
def yX4_about : MethodName := ⟨RX4, "about", "(III)I"⟩
abbrev cX4_stack : ByteArray := prog_1_method_5_code
def yX4_stack : MethodName := ⟨RX4, "stack", "(III)I"⟩
abbrev cX4_box : ByteArray := prog_1_method_6_code
def yX4_box : MethodName := ⟨RX4, "box", "(IJ)I"⟩
abbrev cX4_plain : ByteArray := prog_1_method_7_code
def yX4_plain : MethodName := ⟨RX4, "plain", "(II)I"⟩
abbrev cX4_word : ByteArray := prog_1_method_8_code
def yX4_word : MethodName := ⟨RX4, "word", "(III)I"⟩
abbrev cX4_clear : ByteArray := prog_1_method_9_code
def yX4_clear : MethodName := ⟨RX4, "clear", "(II)I"⟩
abbrev cX4_add : ByteArray := prog_1_method_10_code
def yX4_add : MethodName := ⟨RX4, "add", "(IIIJ)I"⟩
abbrev cX4_work : ByteArray := prog_1_method_11_code
def yX4_work : MethodName := ⟨RX4, "work", "(IIII)I"⟩
abbrev cX4_sum : ByteArray := prog_1_method_12_code
def yX4_sum : MethodName := ⟨RX4, "sum", "(II)I"⟩
abbrev cX4_term : ByteArray := prog_1_method_13_code
def yX4_term : MethodName := ⟨RX4, "term", "(III)J"⟩
abbrev cX4_same : ByteArray := prog_1_method_14_code
def yX4_same : MethodName := ⟨RX4, "same", "(II)I"⟩
abbrev cX4_closed : ByteArray := prog_1_method_15_code
def yX4_closed : MethodName := ⟨RX4, "closed", "(II)J"⟩
abbrev cX4_halves : ByteArray := prog_1_method_16_code
def yX4_halves : MethodName := ⟨RX4, "halves", "(II)I"⟩
abbrev cX4_half : ByteArray := prog_1_method_17_code
def yX4_half : MethodName := ⟨RX4, "half", "(IIII)I"⟩
abbrev cX4_form : ByteArray := prog_1_method_18_code
def yX4_form : MethodName := ⟨RX4, "form", "(IIII)I"⟩
abbrev cX4_free : ByteArray := prog_1_method_19_code
def yX4_free : MethodName := ⟨RX4, "free", "(IIII)I"⟩
abbrev cX4_row : ByteArray := prog_1_method_20_code
def yX4_row : MethodName := ⟨RX4, "row", "(I)I"⟩
abbrev cX4_cross : ByteArray := prog_1_method_21_code
def yX4_cross : MethodName := ⟨RX4, "cross", "(I)I"⟩
abbrev cX4_back : ByteArray := prog_1_method_22_code
def yX4_back : MethodName := ⟨RX4, "back", "()I"⟩
abbrev cX4_power : ByteArray := prog_1_method_23_code
def yX4_power : MethodName := ⟨RX4, "power", "(I)I"⟩
abbrev cX4_isStrands : ByteArray := prog_1_method_24_code
def yX4_isStrands : MethodName := ⟨RX4, "isStrands", "(I)Z"⟩
abbrev cX4_isSum : ByteArray := prog_1_method_25_code
def yX4_isSum : MethodName := ⟨RX4, "isSum", "(I)Z"⟩
abbrev cX4_isThrough : ByteArray := prog_1_method_26_code
def yX4_isThrough : MethodName := ⟨RX4, "isThrough", "(II)Z"⟩
abbrev cX4_isBox : ByteArray := prog_1_method_27_code
def yX4_isBox : MethodName := ⟨RX4, "isBox", "(II)Z"⟩
abbrev cX4_isPrime : ByteArray := prog_1_method_28_code
def yX4_isPrime : MethodName := ⟨RX4, "isPrime", "(I)Z"⟩
abbrev cX4_make : ByteArray := prog_1_method_29_code
def yX4_make : MethodName := ⟨RX4, "make", "(ILStrandBoxes$Sum;LStrandBoxes$Sum;)Z"⟩
def RX5 : String := "StrandBoxesModel"
def TX5 : u_T := fun k => match k with
  | 0 => ("StrandBoxesModel", "table", "[I", true)
  | 1 => ("StrandBoxesModel", "lastLetter", "[I", true)
  | 2 => ("StrandBoxesModel", "ahead", "[I", true)
  | 3 => ("StrandBoxesModel", "letters", "[I", true)
  | 4 => ("StrandBoxesModel", "strands", "[I", true)
  | 5 => ("StrandBoxesModel", "terms", "[I", true)
  | 6 => ("StrandBoxesModel", "termBox", "[I", true)
  | 7 => ("StrandBoxesModel", "termPower", "[I", true)
  | 8 => ("StrandBoxesModel", "termFactor", "[J", true)
  | 9 => ("StrandBoxesModel", "rowStrands", "I", false)
  | 10 => ("StrandBoxesModel", "crossings", "I", false)
  | 11 => ("StrandBoxesModel", "crossing", "[I", true)
  | 12 => ("StrandBoxesModel", "taken", "[Z", true)
  | 13 => ("StrandBoxesModel", "made", "[I", true)
  | 14 => ("StrandBoxesModel", "met", "[Z", true)
  | 15 => ("StrandBoxesModel", "rings", "I", false)
  | 16 => ("StrandBoxesModel", "queue", "[I", true)
  | 17 => ("StrandBoxesModel", "size", "I", false)
  | 18 => ("StrandBoxesModel", "rowBox", "[I", true)
  | 19 => ("StrandBoxesModel", "rowPower", "[I", true)
  | 20 => ("StrandBoxesModel", "rowFactor", "[J", true)
  | 21 => ("StrandBoxesModel", "halfA", "[I", true)
  | 22 => ("StrandBoxesModel", "halfB", "[I", true)
  | 23 => ("StrandBoxesModel", "forms", "[I", true)
  | 24 => ("StrandBoxesModel", "all", "[I", true)
  | 25 => ("StrandBoxesModel", "state", "[I", true)
  | _ => ("StrandBoxesModel", "next", "[I", true)
def tyX5 : Nat → FieldType := fun k => match k with
  | 0 => .array .int
  | 1 => .array .int
  | 2 => .array .int
  | 3 => .array .int
  | 4 => .array .int
  | 5 => .array .int
  | 6 => .array .int
  | 7 => .array .int
  | 8 => .array .long
  | 9 => .int
  | 10 => .int
  | 11 => .array .int
  | 12 => .array .boolean
  | 13 => .array .int
  | 14 => .array .boolean
  | 15 => .int
  | 16 => .array .int
  | 17 => .int
  | 18 => .array .int
  | 19 => .array .int
  | 20 => .array .long
  | 21 => .array .int
  | 22 => .array .int
  | 23 => .array .int
  | 24 => .array .int
  | 25 => .array .int
  | _ => .array .int
abbrev wsX50 : List Cond := u_ws RX5 TX5 27
theorem nmX5 : ∀ a, a < 27 → ∀ b, b < 27 → a ≠ b → (TX5 a).2.1 ≠ (TX5 b).2.1 := by decide +kernel
theorem tyX5_ok : ∀ k, k < 27 → parseFieldDescriptor (TX5 k).2.2.1 = some (tyX5 k) := by decide +kernel
abbrev cX5_init : ByteArray := prog_7_method_1_code
def yX5_init : MethodName := ⟨RX5, "<init>", "()V"⟩
abbrev cX5_in : ByteArray := prog_7_method_2_code
def yX5_in : MethodName := ⟨RX5, "in", "(JJJ)Z"⟩
abbrev cX5_isWide : ByteArray := prog_7_method_3_code
def yX5_isWide : MethodName := ⟨RX5, "isWide", "(I)Z"⟩
abbrev cX5_boxes : ByteArray := prog_7_method_4_code
def yX5_boxes : MethodName := ⟨RX5, "boxes", "(I)I"⟩
abbrev cX5_first : ByteArray := prog_7_method_5_code
def yX5_first : MethodName := ⟨RX5, "first", "(I)I"⟩
abbrev cX5_isBox : ByteArray := prog_7_method_6_code
def yX5_isBox : MethodName := ⟨RX5, "isBox", "(II)Z"⟩
abbrev cX5_at : ByteArray := prog_7_method_7_code
def yX5_at : MethodName := ⟨RX5, "at", "(II)I"⟩
abbrev cX5_decode : ByteArray := prog_7_method_8_code
def yX5_decode : MethodName := ⟨RX5, "decode", "(II)V"⟩
abbrev cX5_numberOf : ByteArray := prog_7_method_9_code
def yX5_numberOf : MethodName := ⟨RX5, "numberOf", "(I)I"⟩
abbrev cX5_lead : ByteArray := prog_7_method_10_code
def yX5_lead : MethodName := ⟨RX5, "lead", "(IIII)I"⟩
abbrev cX5_stacked : ByteArray := prog_7_method_11_code
def yX5_stacked : MethodName := ⟨RX5, "stacked", "(III)I"⟩
abbrev cX5_ringsClosed : ByteArray := prog_7_method_12_code
def yX5_ringsClosed : MethodName := ⟨RX5, "ringsClosed", "(II)I"⟩
abbrev cX5_isLetter : ByteArray := prog_7_method_13_code
def yX5_isLetter : MethodName := ⟨RX5, "isLetter", "(II)Z"⟩
abbrev cX5_plainBox : ByteArray := prog_7_method_14_code
def yX5_plainBox : MethodName := ⟨RX5, "plainBox", "(II)I"⟩
abbrev cX5_findWords : ByteArray := prog_7_method_15_code
def yX5_findWords : MethodName := ⟨RX5, "findWords", "(I)V"⟩
abbrev cX5_isPlane : ByteArray := prog_7_method_16_code
def yX5_isPlane : MethodName := ⟨RX5, "isPlane", "(II)Z"⟩
abbrev cX5_round : ByteArray := prog_7_method_17_code
def yX5_round : MethodName := ⟨RX5, "round", "(II)I"⟩
abbrev cX5_many : ByteArray := prog_7_method_18_code
def yX5_many : MethodName := ⟨RX5, "many", "(II)I"⟩
abbrev cX5_partner : ByteArray := prog_7_method_19_code
def yX5_partner : MethodName := ⟨RX5, "partner", "(III)I"⟩
abbrev cX5_through : ByteArray := prog_7_method_20_code
def yX5_through : MethodName := ⟨RX5, "through", "(II)I"⟩
abbrev cX5_upsideDown : ByteArray := prog_7_method_21_code
def yX5_upsideDown : MethodName := ⟨RX5, "upsideDown", "(II)I"⟩
abbrev cX5_about : ByteArray := prog_7_method_22_code
def yX5_about : MethodName := ⟨RX5, "about", "(III)I"⟩
abbrev cX5_stack : ByteArray := prog_7_method_23_code
def yX5_stack : MethodName := ⟨RX5, "stack", "(III)I"⟩
abbrev cX5_box : ByteArray := prog_7_method_24_code
def yX5_box : MethodName := ⟨RX5, "box", "(IJ)I"⟩
abbrev cX5_plain : ByteArray := prog_7_method_25_code
def yX5_plain : MethodName := ⟨RX5, "plain", "(II)I"⟩
abbrev cX5_word : ByteArray := prog_7_method_26_code
def yX5_word : MethodName := ⟨RX5, "word", "(III)I"⟩
abbrev cX5_isSum : ByteArray := prog_7_method_27_code
def yX5_isSum : MethodName := ⟨RX5, "isSum", "(I)Z"⟩
abbrev cX5_load : ByteArray := prog_7_method_28_code
def yX5_load : MethodName := ⟨RX5, "load", "(I)V"⟩
abbrev cX5_store : ByteArray := prog_7_method_29_code
def yX5_store : MethodName := ⟨RX5, "store", "(II)I"⟩
abbrev cX5_move : ByteArray := prog_7_method_30_code
def yX5_move : MethodName := ⟨RX5, "move", "(II)V"⟩
abbrev cX5_comes : ByteArray := prog_7_method_31_code
def yX5_comes : MethodName := ⟨RX5, "comes", "(IIJ)Z"⟩
abbrev cX5_clear : ByteArray := prog_7_method_32_code
def yX5_clear : MethodName := ⟨RX5, "clear", "(II)I"⟩
abbrev cX5_add : ByteArray := prog_7_method_33_code
def yX5_add : MethodName := ⟨RX5, "add", "(IIIJ)I"⟩
abbrev cX5_work : ByteArray := prog_7_method_34_code
def yX5_work : MethodName := ⟨RX5, "work", "(IIII)I"⟩
abbrev cX5_sum : ByteArray := prog_7_method_35_code
def yX5_sum : MethodName := ⟨RX5, "sum", "(II)I"⟩
abbrev cX5_term : ByteArray := prog_7_method_36_code
def yX5_term : MethodName := ⟨RX5, "term", "(III)J"⟩
abbrev cX5_same : ByteArray := prog_7_method_37_code
def yX5_same : MethodName := ⟨RX5, "same", "(II)I"⟩
abbrev cX5_closed : ByteArray := prog_7_method_38_code
def yX5_closed : MethodName := ⟨RX5, "closed", "(II)J"⟩
abbrev cX5_isHalf : ByteArray := prog_7_method_39_code
def yX5_isHalf : MethodName := ⟨RX5, "isHalf", "(II[I)Z"⟩
abbrev cX5_lay : ByteArray := prog_7_method_40_code
def yX5_lay : MethodName := ⟨RX5, "lay", "(III[I)I"⟩
abbrev cX5_areHalves : ByteArray := prog_7_method_41_code
def yX5_areHalves : MethodName := ⟨RX5, "areHalves", "(II)Z"⟩
abbrev cX5_halves : ByteArray := prog_7_method_42_code
def yX5_halves : MethodName := ⟨RX5, "halves", "(II)I"⟩
abbrev cX5_half : ByteArray := prog_7_method_43_code
def yX5_half : MethodName := ⟨RX5, "half", "(IIII)I"⟩
abbrev cX5_formOf : ByteArray := prog_7_method_44_code
def yX5_formOf : MethodName := ⟨RX5, "formOf", "(I)I"⟩
abbrev cX5_form : ByteArray := prog_7_method_45_code
def yX5_form : MethodName := ⟨RX5, "form", "(IIII)I"⟩
abbrev cX5_isPrime : ByteArray := prog_7_method_46_code
def yX5_isPrime : MethodName := ⟨RX5, "isPrime", "(I)Z"⟩
abbrev cX5_inverse : ByteArray := prog_7_method_47_code
def yX5_inverse : MethodName := ⟨RX5, "inverse", "(II)I"⟩
abbrev cX5_free : ByteArray := prog_7_method_48_code
def yX5_free : MethodName := ⟨RX5, "free", "(IIII)I"⟩
abbrev cX5_reduce : ByteArray := prog_7_method_49_code
def yX5_reduce : MethodName := ⟨RX5, "reduce", "(IIIII)V"⟩
abbrev cX5_row : ByteArray := prog_7_method_50_code
def yX5_row : MethodName := ⟨RX5, "row", "(I)I"⟩
abbrev cX5_cross : ByteArray := prog_7_method_51_code
def yX5_cross : MethodName := ⟨RX5, "cross", "(I)I"⟩
abbrev cX5_back : ByteArray := prog_7_method_52_code
def yX5_back : MethodName := ⟨RX5, "back", "()I"⟩
abbrev cX5_addState : ByteArray := prog_7_method_53_code
def yX5_addState : MethodName := ⟨RX5, "addState", "(I)V"⟩
abbrev cX5_power : ByteArray := prog_7_method_54_code
def yX5_power : MethodName := ⟨RX5, "power", "(I)I"⟩
def RJ9 : String := "java/lang/Math"
def TJ9 : u_T := fun k => match k with
  | _ => ("", "", "", false)
def tyJ9 : Nat → FieldType := fun k => match k with
  | _ => .int
abbrev wsJ90 : List Cond := u_ws RJ9 TJ9 0
theorem nmJ9 : ∀ a, a < 0 → ∀ b, b < 0 → a ≠ b → (TJ9 a).2.1 ≠ (TJ9 b).2.1 := by decide +kernel
theorem tyJ9_ok : ∀ k, k < 0 → parseFieldDescriptor (TJ9 k).2.2.1 = some (tyJ9 k) := by decide +kernel
abbrev cJ9_floorMod_7cf53 : ByteArray := prog_8_method_50_code
def yJ9_floorMod_7cf53 : MethodName := ⟨RJ9, "floorMod", "(II)I"⟩
abbrev cJ9_abs_0f7a4 : ByteArray := prog_8_method_59_code
def yJ9_abs_0f7a4 : MethodName := ⟨RJ9, "abs", "(I)I"⟩
abbrev cJ9_abs_067f4 : ByteArray := prog_8_method_61_code
def yJ9_abs_067f4 : MethodName := ⟨RJ9, "abs", "(J)J"⟩
abbrev cJ9_min_7cf53 : ByteArray := prog_8_method_69_code
def yJ9_min_7cf53 : MethodName := ⟨RJ9, "min", "(II)I"⟩
def RJ10 : String := "java/lang/System"
def TJ10 : u_T := fun k => match k with
  | _ => ("", "", "", false)
def tyJ10 : Nat → FieldType := fun k => match k with
  | _ => .int
abbrev wsJ100 : List Cond := u_ws RJ10 TJ10 0
theorem nmJ10 : ∀ a, a < 0 → ∀ b, b < 0 → a ≠ b → (TJ10 a).2.1 ≠ (TJ10 b).2.1 := by decide +kernel
theorem tyJ10_ok : ∀ k, k < 0 → parseFieldDescriptor (TJ10 k).2.2.1 = some (tyJ10 k) := by decide +kernel
def RL : String := "StrandBoxesLaw"
abbrev cL_law : ByteArray := code
def yL_law : MethodName := ⟨RL, "law", "([I)Z"⟩
abbrev vwCl : List vw_C := [(RX0, TX0, 11), (RX1, TX1, 5), (RX2, TX2, 7), (RX3, TX3, 5), (RX4, TX4, 5), (RX5, TX5, 27)]
