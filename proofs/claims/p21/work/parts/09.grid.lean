/-! new int[n][k]. -/
section SM
variable {p : Program} {l : Launch} {e : Env} {R : Room} {s : State} {m : MethodId} {args : Array Value} {below : List Frame} {meth : Method} {c : Code} {Q : State → Prop} {D : va_G} {ca : Nat → ClassId} {ft : am_ft} {A : Nat → Prop} {n0 z0 : Nat} {ad0 : Nat → Nat} {nL : Nat} {cc : ByteArray}
def am_ga (ad : Nat → Nat) (b n q : Nat) (r : Nat → Nat) : Nat → Nat := fun j => if j = b then q else if b < j ∧ j < b + 1 + n then r (j - b - 1) else ad j
theorem am_ga_lt {ad : Nat → Nat} {b n q : Nat} {r : Nat → Nat} : ∀ k, k < b → am_ga ad b n q r k = ad k := fun k hk => by
  unfold am_ga
  rw [if_neg (by omega), if_neg (by omega)]
theorem am_ga_b {ad : Nat → Nat} {b n q : Nat} {r : Nat → Nat} : am_ga ad b n q r b = q := by
  unfold am_ga
  rw [if_pos rfl]
theorem am_ga_r {ad : Nat → Nat} {b n q i : Nat} {r : Nat → Nat} (hi : i < n) : am_ga ad b n q r (b + 1 + i) = r i := by
  unfold am_ga
  rw [if_neg (by omega), if_pos (by omega)]
  congr 1
  omega
theorem am_ws_grid {ad : Nat → Nat} {h : am_H} {n k q : Nat} {r : Nat → Nat} {f : Nat → va_E} (hg : am_gd ft h) : am_ws (am_ga ad h.1 n q r) ca (am_grid h n k) = (am_ws ad ca h ++ [(q, .inl (ca 3, n, .inr (.inr (.inr (.inr (fun i => if i < n then some (r i) else none))))))]) ++ va_pl ([] ++ (List.range n).map r) (vr_up f ((List.range n).map r) (.inl (ca 0, k, .inl (fun _ => 0)))) := by
  have h1 : am_ws (am_ga ad h.1 n q r) ca h = am_ws ad ca h := am_ws_cg hg am_ga_lt
  rw [← h1]
  unfold am_ws va_pl
  show (List.range (h.1 + 1 + n)).map _ = _
  rw [List.range_add, List.range_succ, List.map_append, List.map_append, List.nil_append]
  congr 1
  · congr 1
    · refine List.map_congr_left fun j hj => ?_
      have hj := List.mem_range.mp hj
      unfold am_grid
      simp only []
      rw [if_neg (by omega), if_neg (by omega)]
    · rw [List.map_singleton, am_ga_b]
      congr 2
      unfold am_grid
      simp only [if_pos]
      rw [am_ce_q (by show 3 ≤ 3; omega) (by show 3 < 7; omega)]
      refine congrArg (fun z => (Sum.inl (ca 3, n, .inr (.inr (.inr (.inr z)))) : va_E)) (funext fun i => ?_)
      show am_toR _ (if i < n then vR (h.1 + 1 + i) else vN) = _
      by_cases hi : i < n
      · rw [if_pos hi, if_pos hi]
        exact congrArg some (am_ga_r hi)
      · rw [if_neg hi, if_neg hi]
        rfl
  · rw [List.map_map, List.map_map]
    refine List.map_congr_left fun i hi => ?_
    have hi := List.mem_range.mp hi
    show (am_ga ad h.1 n q r (h.1 + 1 + i), am_ce _ ca ((am_grid h n k).2.2 (h.1 + 1 + i))) = (r i, vr_up f _ _ (r i))
    rw [am_ga_r hi, vr_up_in (List.mem_map.mpr ⟨i, List.mem_range.mpr hi, rfl⟩)]
    congr 1
    unfold am_grid
    simp only []
    rw [if_neg (by omega), if_pos (by omega)]
    exact am_ce_i (K := (0, k, fun _ => vI 0)) rfl (by omega)
theorem sm_mna {own : String} {Ts : List Cond} {pc index : Nat} {n k : Int} {ls st : List am_V} {h : am_H} (hx : p.tables.exec = Jvm.exec) (hb : c.code = cc) (hown : s.vm.findClass own = some m.cls) (hts : ∀ w ∈ Ts, w.before args s = true) (hK : va_K D vwCl (am_tys ca) s) (hA : ∀ q, s.heap.size ≤ q → A q) (hdg : decode cc pc = .ok (.multianewarray index 2, 4))
    (f8 : Cond.classLink own index ("[" ++ (FieldType.array .int).toString) ∈ Ts) (f9 : va_AOA .int s) (f10 : Cond.arrayClass .int ∈ Ts) (hn0 : 0 ≤ n) (hn : n ≤ 1024) (hk0 : 0 ≤ k) (hk : k ≤ 1024)
    (hrc : h.1 + 1 + n.toNat - n0 ≤ R.cells) (hrs : h.2.1 + n.toNat + n.toNat * k.toNat - z0 ≤ R.slots) (kk : am_G p l e R s m args below meth c Q D ca ft A n0 z0 ad0 nL (pc + 4, ls, vR h.1 :: st, am_grid h n.toNat k.toNat)) : am_G p l e R s m args below meth c Q D ca ft A n0 z0 ad0 nL (pc, ls, vI k :: vI n :: st, h) := by
  intro ad H locs LS h1 h2 h3 h4 h5 h6 h7 h8 h9 h10 h11
  have h4 : am_gd ft h := h4
  have h2 : n0 ≤ h.1 := h2
  have h3 : z0 ≤ h.2.1 := h3
  have hrn : am_r32 n := h5 (vI n) (by simp)
  have hrk : am_r32 k := h5 (vI k) (by simp)
  have neg : ∀ z : Int, am_r32 z → 0 ≤ z → ¬ Int32.ofInt z < 0 := fun z hz h0 q => by
    have := (am_o_lt hz am_0r).mp q
    omega
  have cl : ∀ z : Int, am_r32 z → (Int32.ofInt z).toNatClampNeg = z.toNat := fun z hz => by
    show (Int32.ofInt z).toInt.toNat = z.toNat
    rw [am_tI hz]
  have hcy : s.vm.findClass (FieldType.array .int).toString = some (ca 0) := (hK.2 0 _ (am_tys_at ca (k := 0) (by omega))).2
  have e0 : ∀ f : Nat → va_E, am_ws ad ca h ++ va_pl [] f = am_ws ad ca h := fun f => by simp [va_pl]
  have hs5 : ∀ w ∈ st, am_vk h.1 w := fun w hw => h5 w (by simp [hw])
  refine va_mna (X := am_ws ad ca h) (L := []) (f := fun _ => .inl (ca 0, 0, .inl (fun _ => 0))) (ty := .int) (cy := ca 0) (z := (k.toNat, .inl (fun _ => 0))) hx hb hown (hts _ f8) f9 (hts _ f10) hcy hK (by rw [e0]; exact h7) (by rw [e0]; exact h8) h9 hA (neg n hrn hn0) (neg k hrk hk0) (cl n hrn) (cl k hrk) (by omega) (by show k.toNat * 4 ≤ 536870912; omega) (by omega) rfl rfl (show h.1 - n0 + (1 + n.toNat) ≤ R.cells by omega) (show h.2.1 - z0 + (n.toNat + n.toNat * k.toNat) ≤ R.slots by omega) (fun c9 => ?_) hdg (fun q r cA H1 hr1 hr2 hK1 hP hD hS => ?_)
  · rw [vp_cell_i, ← arrV_new]
    rfl
  · have e : cA = ca 3 := by
      have g1 := (hK1.2 7 (cA, .array .int) rfl).2
      have g2 := (hK.2 3 _ (am_tys_at ca (k := 3) (by omega))).2
      exact Option.some.inj (Eq.trans (Eq.symm g1) g2)
    subst e
    rw [← am_ws_grid (ft := ft) (ad := ad) h4] at hP hD
    have K := kk (am_ga ad h.1 n.toNat q r) H1 locs LS (fun j hj => (am_ga_lt j (by omega)).trans (h1 j hj)) (show n0 ≤ h.1 + 1 + n.toNat by omega) (show z0 ≤ h.2.1 + n.toNat + n.toNat * k.toNat by omega) (fun j hj => by
        have hj : j < h.1 + 1 + n.toNat := hj
        show am_ckd ft (h.1 + 1 + n.toNat) ((am_grid h n.toNat k.toNat).2.2 j)
        unfold am_grid
        simp only []
        by_cases e9 : j = h.1
        · rw [if_pos e9]
          refine Or.inl ⟨show 3 < 7 by omega, show n.toNat ≤ 1024 by omega, fun i => ?_⟩
          show am_vt _ 3 (if i < n.toNat then vR (h.1 + 1 + i) else vN)
          by_cases hi : i < n.toNat
          · rw [if_pos hi]
            exact ⟨show h.1 + 1 + i < _ by omega, rfl⟩
          · rw [if_neg hi]
            exact ⟨trivial, rfl⟩
        · rw [if_neg e9]
          by_cases e8 : h.1 < j ∧ j < h.1 + 1 + n.toNat
          · rw [if_pos e8]
            exact Or.inl ⟨show 0 < 7 by omega, show k.toNat ≤ 1024 by omega, fun i => ⟨am_0r, rfl⟩⟩
          · rw [if_neg e8]
            exact (h4 j (by omega)).mono (by omega))
      (fun w hw => (List.mem_cons.mp hw).elim (fun z => by rw [z]; show h.1 < h.1 + 1 + n.toNat; omega) (fun z => (hs5 w z).mono (show h.1 ≤ h.1 + 1 + n.toNat by omega)))
      (fun w hw => (h6 w hw).elim Or.inl (fun z => Or.inr (z.mono (show h.1 ≤ h.1 + 1 + n.toNat by omega)))) hP hD hS (h10.cg am_ga_lt h6) h11
    have e2 : (vR h.1 :: st).map (am_cv (am_ga ad h.1 n.toNat q r)) = .ref q :: st.map (am_cv ad) := by
      rw [List.map_cons, am_st_cg am_ga_lt hs5]
      show Value.ref (am_ga ad h.1 n.toNat q r h.1) :: _ = _
      rw [am_ga_b]
    exact W.cs (show h.1 - n0 + 1 + n.toNat = h.1 + 1 + n.toNat - n0 by omega) (show h.2.1 - z0 + n.toNat + n.toNat * k.toNat = h.2.1 + n.toNat + n.toNat * k.toNat - z0 by omega) (by rw [← e2]; exact K)
end SM
