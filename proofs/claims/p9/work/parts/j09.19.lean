set_option maxRecDepth 1000000 in
theorem okj_117 : (List.range' 117 3).all ck_j = true := by decide +kernel
set_option maxRecDepth 1000000 in
theorem okj_120 : (List.range' 120 3).all ck_j = true := by decide +kernel
set_option maxRecDepth 1000000 in
theorem okj_123 : (List.range' 123 3).all ck_j = true := by decide +kernel
set_option maxRecDepth 1000000 in
theorem okj_126 : (List.range' 126 3).all ck_j = true := by decide +kernel
set_option maxRecDepth 1000000 in
theorem okj_129 : (List.range' 129 3).all ck_j = true := by decide +kernel
set_option maxRecDepth 1000000 in
theorem okj_132 : (List.range' 132 3).all ck_j = true := by decide +kernel
set_option maxRecDepth 1000000 in
theorem okj_135 : (List.range' 135 3).all ck_j = true := by decide +kernel
set_option maxRecDepth 1000000 in
theorem okj_138 : (List.range' 138 3).all ck_j = true := by decide +kernel
set_option maxRecDepth 1000000 in
theorem okj_141 : (List.range' 141 3).all ck_j = true := by decide +kernel
set_option maxRecDepth 1000000 in
theorem okj_144 : (List.range' 144 3).all ck_j = true := by decide +kernel
set_option maxRecDepth 1000000 in
theorem okj_147 : (List.range' 147 3).all ck_j = true := by decide +kernel
set_option maxRecDepth 1000000 in
theorem okj_150 : (List.range' 150 3).all ck_j = true := by decide +kernel
theorem okc_all : ∀ j, j < 153 → ck_c j
  | 0, _ => okc_0
  | 1, _ => okc_1
  | 2, _ => okc_2
  | 3, _ => okc_3
  | 4, _ => okc_4
  | 5, _ => okc_5
  | 6, _ => okc_6
  | 7, _ => okc_7
  | 8, _ => okc_8
  | 9, _ => okc_9
  | 10, _ => okc_10
  | 11, _ => okc_11
  | 12, _ => okc_12
  | 13, _ => okc_13
  | 14, _ => okc_14
  | 15, _ => okc_15
  | 16, _ => okc_16
  | 17, _ => okc_17
  | 18, _ => okc_18
  | 19, _ => okc_19
  | 20, _ => okc_20
  | 21, _ => okc_21
  | 22, _ => okc_22
  | 23, _ => okc_23
  | 24, _ => okc_24
  | 25, _ => okc_25
  | 26, _ => okc_26
  | 27, _ => okc_27
  | 28, _ => okc_28
  | 29, _ => okc_29
  | 30, _ => okc_30
  | 31, _ => okc_31
  | 32, _ => okc_32
  | 33, _ => okc_33
  | 34, _ => okc_34
  | 35, _ => okc_35
  | 36, _ => okc_36
  | 37, _ => okc_37
  | 38, _ => okc_38
  | 39, _ => okc_39
  | 40, _ => okc_40
  | 41, _ => okc_41
  | 42, _ => okc_42
  | 43, _ => okc_43
  | 44, _ => okc_44
  | 45, _ => okc_45
  | 46, _ => okc_46
  | 47, _ => okc_47
  | 48, _ => okc_48
  | 49, _ => okc_49
  | 50, _ => okc_50
  | 51, _ => okc_51
  | 52, _ => okc_52
  | 53, _ => okc_53
  | 54, _ => okc_54
  | 55, _ => okc_55
  | 56, _ => okc_56
  | 57, _ => okc_57
  | 58, _ => okc_58
  | 59, _ => okc_59
  | 60, _ => okc_60
  | 61, _ => okc_61
  | 62, _ => okc_62
  | 63, _ => okc_63
  | 64, _ => okc_64
  | 65, _ => okc_65
  | 66, _ => okc_66
  | 67, _ => okc_67
  | 68, _ => okc_68
  | 69, _ => okc_69
  | 70, _ => okc_70
  | 71, _ => okc_71
  | 72, _ => okc_72
  | 73, _ => okc_73
  | 74, _ => okc_74
  | 75, _ => okc_75
  | 76, _ => okc_76
  | 77, _ => okc_77
  | 78, _ => okc_78
  | 79, _ => okc_79
  | 80, _ => okc_80
  | 81, _ => okc_81
  | 82, _ => okc_82
  | 83, _ => okc_83
  | 84, _ => okc_84
  | 85, _ => okc_85
  | 86, _ => okc_86
  | 87, _ => okc_87
  | 88, _ => okc_88
  | 89, _ => okc_89
  | 90, _ => okc_90
  | 91, _ => okc_91
  | 92, _ => okc_92
  | 93, _ => okc_93
  | 94, _ => okc_94
  | 95, _ => okc_95
  | 96, _ => okc_96
  | 97, _ => okc_97
  | 98, _ => okc_98
  | 99, _ => okc_99
  | 100, _ => okc_100
  | 101, _ => okc_101
  | 102, _ => okc_102
  | 103, _ => okc_103
  | 104, _ => okc_104
  | 105, _ => okc_105
  | 106, _ => okc_106
  | 107, _ => okc_107
  | 108, _ => okc_108
  | 109, _ => okc_109
  | 110, _ => okc_110
  | 111, _ => okc_111
  | 112, _ => okc_112
  | 113, _ => okc_113
  | 114, _ => okc_114
  | 115, _ => okc_115
  | 116, _ => okc_116
  | 117, _ => okc_117
  | 118, _ => okc_118
  | 119, _ => okc_119
  | 120, _ => okc_120
  | 121, _ => okc_121
  | 122, _ => okc_122
  | 123, _ => okc_123
  | 124, _ => okc_124
  | 125, _ => okc_125
  | 126, _ => okc_126
  | 127, _ => okc_127
  | 128, _ => okc_128
  | 129, _ => okc_129
  | 130, _ => okc_130
  | 131, _ => okc_131
  | 132, _ => okc_132
  | 133, _ => okc_133
  | 134, _ => okc_134
  | 135, _ => okc_135
  | 136, _ => okc_136
  | 137, _ => okc_137
  | 138, _ => okc_138
  | 139, _ => okc_139
  | 140, _ => okc_140
  | 141, _ => okc_141
  | 142, _ => okc_142
  | 143, _ => okc_143
  | 144, _ => okc_144
  | 145, _ => okc_145
  | 146, _ => okc_146
  | 147, _ => okc_147
  | 148, _ => okc_148
  | 149, _ => okc_149
  | 150, _ => okc_150
  | 151, _ => okc_151
  | 152, _ => okc_152
  | j + 153, h => absurd h (by omega)
theorem okm_all : ∀ j, j < 153 → ck_m j = true := by
  intro j hj
  by_cases q0 : j < 9
  · exact List.all_eq_true.mp okm_0 j (List.mem_range'_1.mpr (by omega))
  by_cases q9 : j < 18
  · exact List.all_eq_true.mp okm_9 j (List.mem_range'_1.mpr (by omega))
  by_cases q18 : j < 27
  · exact List.all_eq_true.mp okm_18 j (List.mem_range'_1.mpr (by omega))
  by_cases q27 : j < 36
  · exact List.all_eq_true.mp okm_27 j (List.mem_range'_1.mpr (by omega))
  by_cases q36 : j < 45
  · exact List.all_eq_true.mp okm_36 j (List.mem_range'_1.mpr (by omega))
  by_cases q45 : j < 54
  · exact List.all_eq_true.mp okm_45 j (List.mem_range'_1.mpr (by omega))
  by_cases q54 : j < 63
  · exact List.all_eq_true.mp okm_54 j (List.mem_range'_1.mpr (by omega))
  by_cases q63 : j < 72
  · exact List.all_eq_true.mp okm_63 j (List.mem_range'_1.mpr (by omega))
  by_cases q72 : j < 81
  · exact List.all_eq_true.mp okm_72 j (List.mem_range'_1.mpr (by omega))
  by_cases q81 : j < 90
  · exact List.all_eq_true.mp okm_81 j (List.mem_range'_1.mpr (by omega))
  by_cases q90 : j < 99
  · exact List.all_eq_true.mp okm_90 j (List.mem_range'_1.mpr (by omega))
  by_cases q99 : j < 108
  · exact List.all_eq_true.mp okm_99 j (List.mem_range'_1.mpr (by omega))
  by_cases q108 : j < 117
  · exact List.all_eq_true.mp okm_108 j (List.mem_range'_1.mpr (by omega))
  by_cases q117 : j < 126
  · exact List.all_eq_true.mp okm_117 j (List.mem_range'_1.mpr (by omega))
  by_cases q126 : j < 135
  · exact List.all_eq_true.mp okm_126 j (List.mem_range'_1.mpr (by omega))
  by_cases q135 : j < 144
  · exact List.all_eq_true.mp okm_135 j (List.mem_range'_1.mpr (by omega))
  exact List.all_eq_true.mp okm_144 j (List.mem_range'_1.mpr (by omega))
theorem okj_all : ∀ j, j < 153 → ck_j j = true := by
  intro j hj
  by_cases q0 : j < 3
  · exact List.all_eq_true.mp okj_0 j (List.mem_range'_1.mpr (by omega))
  by_cases q3 : j < 6
  · exact List.all_eq_true.mp okj_3 j (List.mem_range'_1.mpr (by omega))
  by_cases q6 : j < 9
  · exact List.all_eq_true.mp okj_6 j (List.mem_range'_1.mpr (by omega))
  by_cases q9 : j < 12
  · exact List.all_eq_true.mp okj_9 j (List.mem_range'_1.mpr (by omega))
  by_cases q12 : j < 15
  · exact List.all_eq_true.mp okj_12 j (List.mem_range'_1.mpr (by omega))
  by_cases q15 : j < 18
  · exact List.all_eq_true.mp okj_15 j (List.mem_range'_1.mpr (by omega))
  by_cases q18 : j < 21
  · exact List.all_eq_true.mp okj_18 j (List.mem_range'_1.mpr (by omega))
  by_cases q21 : j < 24
  · exact List.all_eq_true.mp okj_21 j (List.mem_range'_1.mpr (by omega))
  by_cases q24 : j < 27
  · exact List.all_eq_true.mp okj_24 j (List.mem_range'_1.mpr (by omega))
  by_cases q27 : j < 30
  · exact List.all_eq_true.mp okj_27 j (List.mem_range'_1.mpr (by omega))
  by_cases q30 : j < 33
  · exact List.all_eq_true.mp okj_30 j (List.mem_range'_1.mpr (by omega))
  by_cases q33 : j < 36
  · exact List.all_eq_true.mp okj_33 j (List.mem_range'_1.mpr (by omega))
  by_cases q36 : j < 39
  · exact List.all_eq_true.mp okj_36 j (List.mem_range'_1.mpr (by omega))
  by_cases q39 : j < 42
  · exact List.all_eq_true.mp okj_39 j (List.mem_range'_1.mpr (by omega))
  by_cases q42 : j < 45
  · exact List.all_eq_true.mp okj_42 j (List.mem_range'_1.mpr (by omega))
  by_cases q45 : j < 48
  · exact List.all_eq_true.mp okj_45 j (List.mem_range'_1.mpr (by omega))
  by_cases q48 : j < 51
  · exact List.all_eq_true.mp okj_48 j (List.mem_range'_1.mpr (by omega))
  by_cases q51 : j < 54
  · exact List.all_eq_true.mp okj_51 j (List.mem_range'_1.mpr (by omega))
  by_cases q54 : j < 57
  · exact List.all_eq_true.mp okj_54 j (List.mem_range'_1.mpr (by omega))
  by_cases q57 : j < 60
  · exact List.all_eq_true.mp okj_57 j (List.mem_range'_1.mpr (by omega))
  by_cases q60 : j < 63
  · exact List.all_eq_true.mp okj_60 j (List.mem_range'_1.mpr (by omega))
  by_cases q63 : j < 66
  · exact List.all_eq_true.mp okj_63 j (List.mem_range'_1.mpr (by omega))
  by_cases q66 : j < 69
  · exact List.all_eq_true.mp okj_66 j (List.mem_range'_1.mpr (by omega))
  by_cases q69 : j < 72
  · exact List.all_eq_true.mp okj_69 j (List.mem_range'_1.mpr (by omega))
  by_cases q72 : j < 75
  · exact List.all_eq_true.mp okj_72 j (List.mem_range'_1.mpr (by omega))
  by_cases q75 : j < 78
  · exact List.all_eq_true.mp okj_75 j (List.mem_range'_1.mpr (by omega))
  by_cases q78 : j < 81
  · exact List.all_eq_true.mp okj_78 j (List.mem_range'_1.mpr (by omega))
  by_cases q81 : j < 84
  · exact List.all_eq_true.mp okj_81 j (List.mem_range'_1.mpr (by omega))
  by_cases q84 : j < 87
  · exact List.all_eq_true.mp okj_84 j (List.mem_range'_1.mpr (by omega))
  by_cases q87 : j < 90
  · exact List.all_eq_true.mp okj_87 j (List.mem_range'_1.mpr (by omega))
  by_cases q90 : j < 93
  · exact List.all_eq_true.mp okj_90 j (List.mem_range'_1.mpr (by omega))
  by_cases q93 : j < 96
  · exact List.all_eq_true.mp okj_93 j (List.mem_range'_1.mpr (by omega))
  by_cases q96 : j < 99
  · exact List.all_eq_true.mp okj_96 j (List.mem_range'_1.mpr (by omega))
  by_cases q99 : j < 102
  · exact List.all_eq_true.mp okj_99 j (List.mem_range'_1.mpr (by omega))
  by_cases q102 : j < 105
  · exact List.all_eq_true.mp okj_102 j (List.mem_range'_1.mpr (by omega))
  by_cases q105 : j < 108
  · exact List.all_eq_true.mp okj_105 j (List.mem_range'_1.mpr (by omega))
  by_cases q108 : j < 111
  · exact List.all_eq_true.mp okj_108 j (List.mem_range'_1.mpr (by omega))
  by_cases q111 : j < 114
  · exact List.all_eq_true.mp okj_111 j (List.mem_range'_1.mpr (by omega))
  by_cases q114 : j < 117
  · exact List.all_eq_true.mp okj_114 j (List.mem_range'_1.mpr (by omega))
  by_cases q117 : j < 120
  · exact List.all_eq_true.mp okj_117 j (List.mem_range'_1.mpr (by omega))
  by_cases q120 : j < 123
  · exact List.all_eq_true.mp okj_120 j (List.mem_range'_1.mpr (by omega))
  by_cases q123 : j < 126
  · exact List.all_eq_true.mp okj_123 j (List.mem_range'_1.mpr (by omega))
  by_cases q126 : j < 129
  · exact List.all_eq_true.mp okj_126 j (List.mem_range'_1.mpr (by omega))
  by_cases q129 : j < 132
  · exact List.all_eq_true.mp okj_129 j (List.mem_range'_1.mpr (by omega))
  by_cases q132 : j < 135
  · exact List.all_eq_true.mp okj_132 j (List.mem_range'_1.mpr (by omega))
  by_cases q135 : j < 138
  · exact List.all_eq_true.mp okj_135 j (List.mem_range'_1.mpr (by omega))
  by_cases q138 : j < 141
  · exact List.all_eq_true.mp okj_138 j (List.mem_range'_1.mpr (by omega))
  by_cases q141 : j < 144
  · exact List.all_eq_true.mp okj_141 j (List.mem_range'_1.mpr (by omega))
  by_cases q144 : j < 147
  · exact List.all_eq_true.mp okj_144 j (List.mem_range'_1.mpr (by omega))
  by_cases q147 : j < 150
  · exact List.all_eq_true.mp okj_147 j (List.mem_range'_1.mpr (by omega))
  exact List.all_eq_true.mp okj_150 j (List.mem_range'_1.mpr (by omega))
theorem ax_m153 : am_m153 := by
  intro j C mL N hj hN
  have hlt : j < 153 := (List.getElem?_eq_some_iff.mp hj).1
  have h := okm_all j hlt
  unfold ck_m at h
  rw [hj, hN] at h
  simp only [Bool.and_eq_true, decide_eq_true_eq] at h
  exact ⟨List.mem_filter.mpr ⟨okc_all j hlt C mL N hj hN, rfl⟩, ck_w_ok h.1, h.2.1, h.2.2.1, h.2.2.2⟩
set_option maxRecDepth 1000000 in
theorem ax_u0 : (u_ws RX0 TX0 11).all (fun w => decide (w ∈ lw_tbl) && goodWord w) = true := by decide +kernel
theorem ax_k0 : ∀ k, k < 11 → am_tk (ac_ft 0 k) (tyX0 k) = true := by decide +kernel
set_option maxRecDepth 1000000 in
theorem ax_u1 : (u_ws RX1 TX1 5).all (fun w => decide (w ∈ lw_tbl) && goodWord w) = true := by decide +kernel
theorem ax_k1 : ∀ k, k < 5 → am_tk (ac_ft 1 k) (tyX1 k) = true := by decide +kernel
set_option maxRecDepth 1000000 in
theorem ax_u2 : (u_ws RX2 TX2 7).all (fun w => decide (w ∈ lw_tbl) && goodWord w) = true := by decide +kernel
theorem ax_k2 : ∀ k, k < 7 → am_tk (ac_ft 2 k) (tyX2 k) = true := by decide +kernel
set_option maxRecDepth 1000000 in
theorem ax_u3 : (u_ws RX3 TX3 5).all (fun w => decide (w ∈ lw_tbl) && goodWord w) = true := by decide +kernel
theorem ax_k3 : ∀ k, k < 5 → am_tk (ac_ft 3 k) (tyX3 k) = true := by decide +kernel
set_option maxRecDepth 1000000 in
theorem ax_u4 : (u_ws RX4 TX4 5).all (fun w => decide (w ∈ lw_tbl) && goodWord w) = true := by decide +kernel
theorem ax_k4 : ∀ k, k < 5 → am_tk (ac_ft 4 k) (tyX4 k) = true := by decide +kernel
set_option maxRecDepth 1000000 in
theorem ax_u5 : (u_ws RX5 TX5 27).all (fun w => decide (w ∈ lw_tbl) && goodWord w) = true := by decide +kernel
theorem ax_k5 : ∀ k, k < 27 → am_tk (ac_ft 5 k) (tyX5 k) = true := by decide +kernel
theorem ax_mem {l : List Cond} (h : l.all (fun w => decide (w ∈ lw_tbl) && goodWord w) = true) : ∀ w ∈ l, w ∈ am_Tb := fun w hw => by
  have := List.all_eq_true.mp h w hw
  simp only [Bool.and_eq_true, decide_eq_true_eq] at this
  exact List.mem_filter.mpr this
theorem ax_cl6 : am_cl6 := by
  intro x C T N h
  match x, h with
  | 0, h => cases h; exact ⟨ax_mem ax_u0, tyX0_ok, nmX0, ax_k0⟩
  | 1, h => cases h; exact ⟨ax_mem ax_u1, tyX1_ok, nmX1, ax_k1⟩
  | 2, h => cases h; exact ⟨ax_mem ax_u2, tyX2_ok, nmX2, ax_k2⟩
  | 3, h => cases h; exact ⟨ax_mem ax_u3, tyX3_ok, nmX3, ax_k3⟩
  | 4, h => cases h; exact ⟨ax_mem ax_u4, tyX4_ok, nmX4, ax_k4⟩
  | 5, h => cases h; exact ⟨ax_mem ax_u5, tyX5_ok, nmX5, ax_k5⟩
  | x + 6, h => simp [vwCl] at h
/-- THE CODE TABLES ARE THE BYTES' -/
theorem ax_Ok : am_Ok ac_P ax_N am_Tb := am_Ok_of ax_cl6 ax_m153 okj_all
/-- a run of the small machine over the claim's code is a contract -/
theorem ax_sound {l : Launch} {D : va_G} {ca : Nat → ClassId} (n : Nat) : am_SS ac_P ax_N am_Tb l D ca n := am_sound ax_Ok n
/-- from t, in a method with code C, the run ends, and Z holds of its answer and heap -/
def am_E (C : am_C) (t : am_S) (Z : Option am_V → am_H → Prop) : Prop := ∃ (n : Nat) (r : Option am_V) (h2 : am_H), am_x ac_P n C t = some (r, h2) ∧ Z r h2
theorem am_x_s {P : am_P} {n : Nat} {C : am_C} {t t2 : am_S} (h : am_1 P.1 C t = some (.inl t2)) : am_x P (n + 1) C t = am_x P n C t2 := by
  rw [am_x, h]
theorem am_x_r {P : am_P} {n : Nat} {C : am_C} {t : am_S} {q : Option am_V × am_H} (h : am_1 P.1 C t = some (.inr (.inr q))) : am_x P (n + 1) C t = some q := by
  rw [am_x, h]
theorem am_x_up {P : am_P} : ∀ (n : Nat) {C : am_C} {t : am_S} {q : Option am_V × am_H}, am_x P n C t = some q → am_x P (n + 1) C t = some q
  | 0, C, t, q, h => by cases h
  | n + 1, C, t, q, h => by
    rw [am_x] at h ⊢
    split at h
    · cases h
    · rename_i t2 e1
      exact am_x_up n h
    · rename_i q2 e1
      split at h
      · cases h
      · rename_i M hM
        split at h
        · rename_i hc
          split at h
          · cases h
          · rename_i r2 h3
            have e5 := am_x_up n h3
            have e6 := am_x_up n h
            simp only [e1, hM, if_pos hc, e5]
            exact e6
        · cases h
    · rename_i q2 e1
      exact h
theorem am_x_le {P : am_P} {n : Nat} {C : am_C} {t : am_S} {q : Option am_V × am_H} (h : am_x P n C t = some q) : ∀ k, am_x P (n + k) C t = some q
  | 0 => h
  | k + 1 => am_x_up (n + k) (am_x_le h k)
theorem am_E.imp {C : am_C} {t : am_S} {Z Z2 : Option am_V → am_H → Prop} (h : am_E C t Z) (hz : ∀ r h2, Z r h2 → Z2 r h2) : am_E C t Z2 := by
  obtain ⟨n, r, h2, h3, h4⟩ := h
  exact ⟨n, r, h2, h3, hz r h2 h4⟩
theorem am_E.go {C : am_C} {pc : Nat} {ls st : List am_V} {h : am_H} {row : am_I} {t2 : am_S} {Z : Option am_V → am_H → Prop} (hrow : am_row C pc = some row) (hs : am_sem ac_ft row.1 row.2.1 row.2.2.1 row.2.2.2 (pc, ls, st, h) = some (.inl t2)) (k : am_E C t2 Z) : am_E C (pc, ls, st, h) Z := by
  obtain ⟨n, r, h2, h3, h4⟩ := k
  refine ⟨n + 1, r, h2, ?_, h4⟩
  rw [am_x_s (t2 := t2)]
  · exact h3
  · unfold am_1
    rw [hrow]
    exact hs
theorem am_E.ret {C : am_C} {pc : Nat} {ls st : List am_V} {h : am_H} {row : am_I} {r : Option am_V} {h2 : am_H} {Z : Option am_V → am_H → Prop} (hrow : am_row C pc = some row) (hs : am_sem ac_ft row.1 row.2.1 row.2.2.1 row.2.2.2 (pc, ls, st, h) = some (.inr (.inr (r, h2)))) (k : Z r h2) : am_E C (pc, ls, st, h) Z := by
  refine ⟨1, r, h2, am_x_r ?_, k⟩
  unfold am_1
  rw [hrow]
  exact hs
theorem am_E.call {C : am_C} {pc : Nat} {ls st : List am_V} {h : am_H} {row : am_I} {q : Nat × List am_V × am_S} {M : am_C × Nat} {Z Z2 : Option am_V → am_H → Prop} (hrow : am_row C pc = some row) (hs : am_sem ac_ft row.1 row.2.1 row.2.2.1 row.2.2.2 (pc, ls, st, h) = some (.inr (.inl q))) (hM : ac_L[q.1]? = some M) (hc : (q.2.1.map am_cat).sum ≤ M.2)
    (hk : am_E M.1 (0, am_pad M.2 q.2.1, [], q.2.2.2.2.2) Z2) (k : ∀ r h2, Z2 r h2 → am_E C (q.2.2.1, q.2.2.2.1, r.toList ++ q.2.2.2.2.1, h2) Z) : am_E C (pc, ls, st, h) Z := by
  obtain ⟨n, r, h2, h3, h4⟩ := hk
  obtain ⟨n5, r5, h5, h6, h7⟩ := k r h2 h4
  refine ⟨(n + n5) + 1, r5, h5, ?_, h7⟩
  have e1 : am_1 ac_P.1 C (pc, ls, st, h) = some (.inr (.inl q)) := by
    unfold am_1
    rw [hrow]
    exact hs
  have e2 : ac_P.2[q.1]? = some M := hM
  have e3 := am_x_le h3 n5
  have e4 := am_x_le h6 n
  rw [Nat.add_comm n5 n] at e4
  rw [am_x, e1]
  simp only []
  rw [e2]
  simp only []
  rw [if_pos hc, e3]
  exact e4
/-! Runs: what touches the cells. -/
theorem am_wr_same {h : am_H} {a i k n : Nat} {f : Nat → am_V} {v : am_V} (hc : h.2.2 a = (k, n, f)) : (am_wr h a i v).2.2 a = (k, n, am_up f i v) := by
  unfold am_wr am_up
  simp [hc]
theorem am_wr_ne {h : am_H} {a b i : Nat} {v : am_V} (hb : b ≠ a) : (am_wr h a i v).2.2 b = h.2.2 b := by
  unfold am_wr am_up
  simp [hb]
theorem am_up_s {α : Type} {f : Nat → α} {i : Nat} {v : α} : am_up f i v i = v := by simp [am_up]
theorem am_up_n {α : Type} {f : Nat → α} {i j : Nat} {v : α} (h : j ≠ i) : am_up f i v j = f j := by simp [am_up, h]
section AE
variable {C : am_C} {pc : Nat} {ls st : List am_V} {h : am_H} {Z : Option am_V → am_H → Prop}
theorem ae_gf {i x y a n : Nat} {f : Nat → am_V} {v : am_V} (hrow : am_row C pc = some (.getfield i, 3, x, y)) (ha : a < h.1) (hc : h.2.2 a = (10 + x, n, f)) (hy : y < n) (hv : f y = v) (k : am_E C (pc + 3, ls, v :: st, h) Z) : am_E C (pc, ls, vR a :: st, h) Z := by
  refine am_E.go hrow ?_ k
  show am_gf 3 x y (pc, ls, vR a :: st, h) = _
  unfold am_gf
  simp only [hc]
  rw [if_pos ⟨ha, trivial, hy⟩, hv]
theorem ae_pf {i x y a n : Nat} {f : Nat → am_V} {v : am_V} (hrow : am_row C pc = some (.putfield i, 3, x, y)) (ha : a < h.1) (hc : h.2.2 a = (10 + x, n, f)) (hy : y < n) (hv : am_fok (ac_ft x y) v = true) (k : am_E C (pc + 3, ls, st, am_wr h a y v) Z) : am_E C (pc, ls, v :: vR a :: st, h) Z := by
  refine am_E.go hrow ?_ k
  show am_pf ac_ft 3 x y (pc, ls, v :: vR a :: st, h) = _
  unfold am_pf
  simp only [hc]
  rw [if_pos ⟨ha, trivial, hy, hv⟩]
theorem ae_ald {ins : Instr} {ok : Nat → Bool} {x y a kd n j : Nat} {i : Int} {f : Nat → am_V} {v : am_V} (hrow : am_row C pc = some (ins, 1, x, y)) (hs : am_sem ac_ft ins = am_ald ok) (ha : a < h.1) (hc : h.2.2 a = (kd, n, f)) (hok : ok kd = true) (hi : i = (j : Int)) (hj : j < n) (hv : f j = v) (k : am_E C (pc + 1, ls, v :: st, h) Z) : am_E C (pc, ls, vI i :: vR a :: st, h) Z := by
  refine am_E.go hrow ?_ k
  show am_sem ac_ft ins 1 x y (pc, ls, vI i :: vR a :: st, h) = _
  rw [hs]
  unfold am_ald
  simp only [hc]
  rw [if_pos ⟨ha, hok, by omega, by omega⟩, hi, Int.toNat_natCast, hv]
theorem ae_ast {ins : Instr} {kd x y a n j : Nat} {i : Int} {f : Nat → am_V} {v : am_V} (hrow : am_row C pc = some (ins, 1, x, y)) (hs : am_sem ac_ft ins = am_ast kd kd) (ha : a < h.1) (hc : h.2.2 a = (kd, n, f)) (hi : i = (j : Int)) (hj : j < n) (hv : am_fok kd v = true) (k : am_E C (pc + 1, ls, st, am_wr h a j v) Z) : am_E C (pc, ls, v :: vI i :: vR a :: st, h) Z := by
  refine am_E.go hrow ?_ k
  show am_sem ac_ft ins 1 x y (pc, ls, v :: vI i :: vR a :: st, h) = _
  rw [hs]
  unfold am_ast
  simp only [hc]
  rw [if_pos ⟨ha, trivial, hv, by omega, by omega⟩, hi, Int.toNat_natCast]
end AE
/-- seen is all false, nothing else changes: from the loop's head, k places are done -/
theorem rn_forget_loop {o a N len : Nat} (hN : N ≤ len) (hN8 : N ≤ 8) (hoa : o ≠ a) : ∀ (d k : Nat) (h : am_H) (g f : Nat → am_V), d + k = N → o < h.1 → a < h.1 → h.2.2 o = (10, 11, g) → g 1 = vI (N : Int) → g 10 = vR a → h.2.2 a = (1, len, f) → (∀ j, j < k → f j = vI 0) →
    am_E ac_X0_forgetSeen (2, [vR o, vI (k : Int)], [], h) (fun r h2 => r = none ∧ h2.1 = h.1 ∧ h2.2.1 = h.2.1 ∧ (∀ b, b ≠ a → h2.2.2 b = h.2.2 b) ∧ ∃ f2, h2.2.2 a = (1, len, f2) ∧ (∀ j, j < N → f2 j = vI 0) ∧ ∀ j, N ≤ j → f2 j = f j)
  | 0, k, h, g, f, hd, ho, ha, hc, h1, h10, hca, hf => by
    iterate 2 (refine am_E.go rfl rfl ?_; dsimp only [Nat.reduceAdd])
    refine ae_gf (x := 0) (y := 1) rfl ho hc (by omega) h1 ?_
    refine am_E.go rfl rfl ?_; dsimp only [Nat.reduceAdd]
    rw [show am_cmp .ge (k : Int) (N : Int) = true by simp [am_cmp]; omega]
    refine am_E.ret rfl rfl ⟨rfl, rfl, rfl, fun _ _ => rfl, f, hca, fun j hj => hf j (by omega), fun _ _ => rfl⟩
  | d + 1, k, h, g, f, hd, ho, ha, hc, h1, h10, hca, hf => by
    iterate 2 (refine am_E.go rfl rfl ?_; dsimp only [Nat.reduceAdd])
    refine ae_gf (x := 0) (y := 1) rfl ho hc (by omega) h1 ?_
    refine am_E.go rfl rfl ?_; dsimp only [Nat.reduceAdd]
    rw [show am_cmp .ge (k : Int) (N : Int) = false by simp [am_cmp]; omega]
    refine am_E.go rfl rfl ?_; dsimp only [Nat.reduceAdd]
    refine ae_gf (x := 0) (y := 10) rfl ho hc (by omega) h10 ?_
    iterate 2 (refine am_E.go rfl rfl ?_; dsimp only [Nat.reduceAdd])
    refine ae_ast (kd := 1) rfl rfl ha hca rfl (j := k) (by omega) rfl ?_
    iterate 2 (refine am_E.go rfl rfl ?_; dsimp only [Nat.reduceAdd])
    have e : am_w ((k : Int) + 1) = ((k + 1 : Nat) : Int) := by
      rw [am_w_id (by unfold am_r32; omega)]
      omega
    show am_E _ (2, [vR o, vI (am_w ((k : Int) + 1))], [], am_wr h a k (vI 0)) _
    rw [e]
    refine (rn_forget_loop hN hN8 hoa d (k + 1) (am_wr h a k (vI 0)) g (am_up f k (vI 0)) (by omega) ho ha (by rw [am_wr_ne hoa]; exact hc) h1 h10 (am_wr_same hca) (fun j hj => ?_)).imp (fun r h2 q => ?_)
    · by_cases e9 : j = k
      · rw [e9, am_up_s]
      · rw [am_up_n e9]
        exact hf j (by omega)
    · obtain ⟨q1, q2, q3, q4, f2, q5, q6, q7⟩ := q
      exact ⟨q1, q2, q3, fun b hb => by rw [q4 b hb, am_wr_ne hb], f2, q5, q6, fun j hj => by rw [q7 j hj, am_up_n (by omega)]⟩
/-! Runs: calls on an object, new cells, copies. -/
section AE
variable {C : am_C} {pc : Nat} {ls st : List am_V} {h : am_H} {Z : Option am_V → am_H → Prop}
theorem ae_callv {ins : Instr} {x y mL a n : Nat} {f : Nat → am_V} {as2 rest : List am_V} {C2 : am_C} {Z2 : Option am_V → am_H → Prop} (hrow : am_row C pc = some (ins, 3, x, y)) (hs : am_sem ac_ft ins = am_inv) (hx : 1000 ≤ x) (hy : y ≤ st.length) (has : (st.take y).reverse = vR a :: as2) (hrest : st.drop y = rest) (hcat : (rest.map am_cat).sum ≤ 8) (ha : a < h.1) (hc : h.2.2 a = (9 + x / 1000, n, f))
    (hM : ac_L[x % 1000]? = some (C2, mL)) (hcat2 : ((vR a :: as2).map am_cat).sum ≤ mL) (hk : am_E C2 (0, am_pad mL (vR a :: as2), [], h) Z2) (k : ∀ r h2, Z2 r h2 → am_E C (pc + 3, ls, r.toList ++ rest, h2) Z) : am_E C (pc, ls, st, h) Z := by
  have hr : am_rcv h x (st.take y).reverse = true := by
    rw [has]
    unfold am_rcv
    rw [if_neg (by omega)]
    simp only [hc, Bool.and_eq_true, decide_eq_true_eq]
    exact ⟨ha, trivial⟩
  have hr2 : ((st.drop y).map am_cat).sum ≤ 8 := by
    rw [hrest]
    exact hcat
  refine am_E.call (q := (x % 1000, vR a :: as2, pc + 3, ls, rest, h)) (M := (C2, mL)) hrow ?_ hM hcat2 hk k
  show am_sem ac_ft ins 3 x y (pc, ls, st, h) = _
  rw [hs]
  unfold am_inv
  rw [if_neg (by omega), if_neg (by omega), if_pos ⟨hy, hr2, hr⟩, has, hrest]
theorem ae_newa {ins : Instr} {len lo top x y n : Nat} {i : Int} (hrow : am_row C pc = some (ins, len, x, y)) (hs : am_sem ac_ft ins = am_newa lo top) (hi : i = (n : Int)) (hn : n ≤ 1024) (hx : lo ≤ x ∧ x ≤ top) (k : am_E C (pc + len, ls, vR h.1 :: st, am_mk h x n (fun _ => am_dv x)) Z) : am_E C (pc, ls, vI i :: st, h) Z := by
  refine am_E.go hrow ?_ k
  show am_sem ac_ft ins len x y (pc, ls, vI i :: st, h) = _
  rw [hs]
  unfold am_newa
  simp only []
  rw [if_pos ⟨by omega, by omega, hx.1, hx.2⟩, hi, Int.toNat_natCast]
theorem ae_mna {j d x y n m : Nat} {i i2 : Int} (hrow : am_row C pc = some (.multianewarray j d, 4, x, y)) (hi : i = (n : Int)) (hi2 : i2 = (m : Int)) (hn : n ≤ 1024) (hm : m ≤ 1024) (k : am_E C (pc + 4, ls, vR h.1 :: st, am_grid h n m) Z) : am_E C (pc, ls, vI i2 :: vI i :: st, h) Z := by
  refine am_E.go hrow ?_ k
  show am_mna 4 x y (pc, ls, vI i2 :: vI i :: st, h) = _
  unfold am_mna
  simp only []
  rw [if_pos ⟨by omega, by omega, by omega, by omega⟩, hi, hi2, Int.toNat_natCast, Int.toNat_natCast]
theorem ae_aast {x y a b j n : Nat} {i : Int} {kd n2 : Nat} {f g : Nat → am_V} (hrow : am_row C pc = some (.aastore, 1, x, y)) (ha : a < h.1) (hb : b < h.1) (hc : h.2.2 a = (kd, n, f)) (hd : h.2.2 b = (am_comp kd, n2, g)) (h4 : 4 ≤ kd) (h7 : kd < 7) (hi : i = (j : Int)) (hj : j < n) (k : am_E C (pc + 1, ls, st, am_wr h a j (vR b)) Z) : am_E C (pc, ls, vR b :: vI i :: vR a :: st, h) Z := by
  refine am_E.go hrow ?_ k
  show am_aast 1 x y (pc, ls, vR b :: vI i :: vR a :: st, h) = _
  unfold am_aast
  simp only [hc, hd]
  rw [if_pos ⟨ha, hb, h4, h7, trivial, by omega, by omega⟩, hi, Int.toNat_natCast]
/-- the heap behind a copy of n places -/
def am_cp (h : am_H) (a sp b dp n : Nat) : am_H := (h.1, h.2.1, am_up h.2.2 b ((h.2.2 b).1, (h.2.2 b).2.1, am_cpy (h.2.2 a).2.2 (h.2.2 b).2.2 sp dp n))
theorem ae_copy {j y a b ka na nb sp dp n : Nat} {i1 i2 i3 : Int} {f g : Nat → am_V} (hrow : am_row C pc = some (.invokestatic j, 3, 901, y)) (ha : a < h.1) (hb : b < h.1) (hc : h.2.2 a = (ka, na, f)) (hd : h.2.2 b = (ka, nb, g)) (hk : ka = 0 ∨ ka = 2) (h1 : i1 = (sp : Int)) (h2 : i2 = (dp : Int)) (h3 : i3 = (n : Int)) (h4 : sp + n ≤ na) (h5 : dp + n ≤ nb) (k : am_E C (pc + 3, ls, [], am_cp h a sp b dp n) Z) : am_E C (pc, ls, [vI i3, vI i2, vR b, vI i1, vR a], h) Z := by
  refine am_E.go hrow ?_ k
  show am_acopy 3 901 y (pc, ls, [vI i3, vI i2, vR b, vI i1, vR a], h) = _
  subst h1
  subst h2
  subst h3
  unfold am_acopy am_cp
  simp only [hc, hd]
  rw [if_pos ⟨ha, hb, trivial, hk, by omega, by omega, by omega, by omega, by omega⟩]
  simp only [Int.toNat_natCast]
end AE
/-- across: the point in the same place on the other side -/
theorem rn_across {o n : Nat} {g : Nat → am_V} {S p : Int} {h : am_H} (ho : o < h.1) (hc : h.2.2 o = (10, n, g)) (hn : 0 < n) (hS : g 0 = vI S) : am_E ac_X0_across (0, [vR o, vI p], [], h) (fun r h2 => r = some (vI (if p < S then am_w (p + S) else am_w (p - S))) ∧ h2 = h) := by
  iterate 2 (refine am_E.go rfl rfl ?_; dsimp only [Nat.reduceAdd])
  refine ae_gf (x := 0) (y := 0) rfl ho hc hn hS ?_
  refine am_E.go rfl rfl ?_; dsimp only [Nat.reduceAdd]
  by_cases q : p < S
  · rw [show am_cmp .ge p S = false by simp [am_cmp]; omega, if_pos q]
    iterate 2 (refine am_E.go rfl rfl ?_; dsimp only [Nat.reduceAdd])
    refine ae_gf (x := 0) (y := 0) rfl ho hc hn hS ?_
    iterate 2 (refine am_E.go rfl rfl ?_; dsimp only [Nat.reduceAdd])
    exact am_E.ret rfl rfl ⟨rfl, rfl⟩
  · rw [show am_cmp .ge p S = true by simp [am_cmp]; omega, if_neg q]
    iterate 2 (refine am_E.go rfl rfl ?_; dsimp only [Nat.reduceAdd])
    refine ae_gf (x := 0) (y := 0) rfl ho hc hn hS ?_
    iterate 1 (refine am_E.go rfl rfl ?_; dsimp only [Nat.reduceAdd])
    exact am_E.ret rfl rfl ⟨rfl, rfl⟩
theorem rn_X0_count2 (h : am_H) : am_E ac_X0_countPairings (0, [vI 2, vU, vU], [], h) (fun r h2 => r = some (vI 1) ∧ h2 = h) := by
  repeat (refine am_E.go rfl rfl ?_; dsimp only [Nat.reduceAdd])
  exact am_E.ret rfl rfl ⟨rfl, rfl⟩
theorem rn_X0_count4 (h : am_H) : am_E ac_X0_countPairings (0, [vI 4, vU, vU], [], h) (fun r h2 => r = some (vI 3) ∧ h2 = h) := by
  repeat (refine am_E.go rfl rfl ?_; dsimp only [Nat.reduceAdd])
  exact am_E.ret rfl rfl ⟨rfl, rfl⟩
theorem rn_X0_count6 (h : am_H) : am_E ac_X0_countPairings (0, [vI 6, vU, vU], [], h) (fun r h2 => r = some (vI 15) ∧ h2 = h) := by
  repeat (refine am_E.go rfl rfl ?_; dsimp only [Nat.reduceAdd])
  exact am_E.ret rfl rfl ⟨rfl, rfl⟩
theorem rn_X0_count8 (h : am_H) : am_E ac_X0_countPairings (0, [vI 8, vU, vU], [], h) (fun r h2 => r = some (vI 105) ∧ h2 = h) := by
  repeat (refine am_E.go rfl rfl ?_; dsimp only [Nat.reduceAdd])
  exact am_E.ret rfl rfl ⟨rfl, rfl⟩
/-! Heaps of a fixed shape: F tells of each cell its kind, its length, and of each place whether it holds a number of the contents c or a value that stays. -/
abbrev aq_T : Type := Nat ⊕ am_V
def aq_w (t : aq_T) (x : Int) : am_V := match t with
  | .inl 2 => vL x
  | .inl _ => vI x
  | .inr v => v
abbrev aq_F : Type := Nat → Nat × Nat × (Nat → aq_T)
abbrev aq_C : Type := Nat → Int → Int
def aq_h (m s : Nat) (F : aq_F) (c : aq_C) : am_H := (m, s, fun a => ((F a).1, (F a).2.1, fun i => aq_w ((F a).2.2 i) (c a (i : Int))))
def aq_u (c : aq_C) (a : Nat) (i x : Int) : aq_C := fun b j => if b = a ∧ j = i then x else c b j
theorem aq_us {c : aq_C} {a : Nat} {i x : Int} : aq_u c a i x a i = x := by simp [aq_u]
theorem aq_un {c : aq_C} {a b : Nat} {i j x : Int} (h : b ≠ a ∨ j ≠ i) : aq_u c a i x b j = c b j := by
  unfold aq_u
  rw [if_neg]
  omega
theorem aq_hc {m s : Nat} {F : aq_F} {c : aq_C} {a kd n : Nat} {tg : Nat → aq_T} (hF : F a = (kd, n, tg)) : (aq_h m s F c).2.2 a = (kd, n, fun i => aq_w (tg i) (c a (i : Int))) := by
  show ((F a).1, (F a).2.1, fun i => aq_w ((F a).2.2 i) (c a (i : Int))) = _
  rw [hF]
theorem aq_wr {m s : Nat} {F : aq_F} {c : aq_C} {a i kd n t : Nat} {x : Int} {tg : Nat → aq_T} (hF : F a = (kd, n, tg)) (ht : tg i = .inl t) : am_wr (aq_h m s F c) a i (aq_w (.inl t) x) = aq_h m s F (aq_u c a (i : Int) x) := by
  have e : (fun b => if b = a then (((aq_h m s F c).2.2 a).1, ((aq_h m s F c).2.2 a).2.1, am_up ((aq_h m s F c).2.2 a).2.2 i (aq_w (.inl t) x)) else (aq_h m s F c).2.2 b) = (aq_h m s F (aq_u c a (i : Int) x)).2.2 := by
    funext b
    by_cases hb : b = a
    · subst hb
      rw [if_pos rfl, aq_hc hF, aq_hc hF]
      refine congrArg (fun f => (kd, n, f)) ?_
      funext j
      unfold am_up
      by_cases hj : j = i
      · subst hj
        rw [if_pos rfl, aq_us, ht]
      · rw [if_neg hj, aq_un (Or.inr (by omega))]
    · rw [if_neg hb]
      show ((F b).1, (F b).2.1, fun i => aq_w ((F b).2.2 i) (c b (i : Int))) = ((F b).1, (F b).2.1, fun k => aq_w ((F b).2.2 k) (aq_u c a (i : Int) x b (k : Int)))
      refine congrArg (fun f => ((F b).1, (F b).2.1, f)) ?_
      funext j
      rw [aq_un (Or.inl hb)]
  show (m, s, fun b => if b = a then (((aq_h m s F c).2.2 a).1, ((aq_h m s F c).2.2 a).2.1, am_up ((aq_h m s F c).2.2 a).2.2 i (aq_w (.inl t) x)) else (aq_h m s F c).2.2 b) = (m, s, (aq_h m s F (aq_u c a (i : Int) x)).2.2)
  rw [e]
/-- several steps, none of them a call or an end -/
def am_stp (C : am_C) : Nat → am_S → Option am_S
  | 0, s => some s
  | n + 1, s => match am_1 ac_ft C s with
    | some (.inl t) => am_stp C n t
    | _ => none
theorem am_E.blk {C : am_C} : ∀ (n : Nat) {s t : am_S} {Z : Option am_V → am_H → Prop}, am_stp C n s = some t → am_E C t Z → am_E C s Z
  | 0, s, t, Z, h, k => by
    cases h
    exact k
  | n + 1, s, t, Z, h, k => by
    rw [am_stp] at h
    split at h
    · rename_i t2 e
      obtain ⟨n5, r, h2, h3, h4⟩ := am_E.blk n h k
      exact ⟨n5 + 1, r, h2, by rw [am_x_s e]; exact h3, h4⟩
    · cases h
def am_cP (cd : Jvm.ClassFile.Cond) (x y : Int) : Prop := match cd with
  | .eq => x = y
  | .ne => x ≠ y
  | .lt => x < y
  | .ge => y ≤ x
  | .gt => y < x
  | .le => x ≤ y
def am_cN (cd : Jvm.ClassFile.Cond) (x y : Int) : Prop := match cd with
  | .eq => x ≠ y
  | .ne => x = y
  | .lt => y ≤ x
  | .ge => x < y
  | .gt => x ≤ y
  | .le => y < x
theorem am_cPt {cd : Jvm.ClassFile.Cond} {x y : Int} (h : am_cmp cd x y = true) : am_cP cd x y := by
  cases cd <;> simp only [am_cmp, decide_eq_true_eq] at h <;> simp only [am_cP] <;> omega
theorem am_cNt {cd : Jvm.ClassFile.Cond} {x y : Int} (h : am_cmp cd x y = false) : am_cN cd x y := by
  cases cd <;> simp only [am_cmp, decide_eq_false_iff_not] at h <;> simp only [am_cN] <;> omega
theorem am_ri {x : Int} (h1 : -2147483648 ≤ x) (h2 : x < 2147483648) : am_r32 x := ⟨h1, h2⟩
theorem am_rl {x : Int} (h1 : -9223372036854775808 ≤ x) (h2 : x < 9223372036854775808) : am_r64 x := ⟨h1, h2⟩
section AE
variable {C : am_C} {pc : Nat} {ls st : List am_V} {h : am_H} {Z : Option am_V → am_H → Prop} {m s : Nat} {F : aq_F} {c : aq_C}
theorem ae_icmp {cd : Jvm.ClassFile.Cond} {off : Int} {x y : Nat} {a b : Int} (hrow : am_row C pc = some (.if_icmp cd off, 3, x, y)) (k1 : am_cP cd a b → am_E C (x, ls, st, h) Z) (k2 : am_cN cd a b → am_E C (pc + 3, ls, st, h) Z) : am_E C (pc, ls, vI b :: vI a :: st, h) Z := by
  refine am_E.go hrow (t2 := ((if am_cmp cd a b then x else pc + 3), ls, st, h)) rfl ?_
  cases e : am_cmp cd a b with
  | true => rw [if_pos rfl]; exact k1 (am_cPt e)
  | false => rw [if_neg (by simp)]; exact k2 (am_cNt e)
theorem ae_if0 {cd : Jvm.ClassFile.Cond} {off : Int} {x y : Nat} {a : Int} (hrow : am_row C pc = some (.ifCond cd off, 3, x, y)) (k1 : am_cP cd a 0 → am_E C (x, ls, st, h) Z) (k2 : am_cN cd a 0 → am_E C (pc + 3, ls, st, h) Z) : am_E C (pc, ls, vI a :: st, h) Z := by
  refine am_E.go hrow (t2 := ((if am_cmp cd a 0 then x else pc + 3), ls, st, h)) rfl ?_
  cases e : am_cmp cd a 0 with
  | true => rw [if_pos rfl]; exact k1 (am_cPt e)
  | false => rw [if_neg (by simp)]; exact k2 (am_cNt e)
theorem ae_bin {ins : Instr} {f : Int → Int → Option Int} {x y : Nat} {a b z : Int} (hrow : am_row C pc = some (ins, 1, x, y)) (hs : am_sem ac_ft ins = am_bin f) (hz : f a b = some z) (k : am_E C (pc + 1, ls, vI z :: st, h) Z) : am_E C (pc, ls, vI b :: vI a :: st, h) Z := by
  refine am_E.go hrow ?_ k
  show am_sem ac_ft ins 1 x y (pc, ls, vI b :: vI a :: st, h) = _
  rw [hs]
  show (f a b).map _ = _
  rw [hz]
  rfl
theorem ae_binl {ins : Instr} {f : Int → Int → Option Int} {x y : Nat} {a b z : Int} (hrow : am_row C pc = some (ins, 1, x, y)) (hs : am_sem ac_ft ins = am_binl f) (hz : f a b = some z) (k : am_E C (pc + 1, ls, vL z :: st, h) Z) : am_E C (pc, ls, vL b :: vL a :: st, h) Z := by
  refine am_E.go hrow ?_ k
  show am_sem ac_ft ins 1 x y (pc, ls, vL b :: vL a :: st, h) = _
  rw [hs]
  show (f a b).map _ = _
  rw [hz]
  rfl
theorem ae_add {x y : Nat} {a b : Int} (hrow : am_row C pc = some (.iadd, 1, x, y)) (hr : am_r32 (a + b)) (k : am_E C (pc + 1, ls, vI (a + b) :: st, h) Z) : am_E C (pc, ls, vI b :: vI a :: st, h) Z := ae_bin hrow rfl (by rw [am_w_id hr]) k
theorem ae_sub {x y : Nat} {a b : Int} (hrow : am_row C pc = some (.isub, 1, x, y)) (hr : am_r32 (a - b)) (k : am_E C (pc + 1, ls, vI (a - b) :: st, h) Z) : am_E C (pc, ls, vI b :: vI a :: st, h) Z := ae_bin hrow rfl (by rw [am_w_id hr]) k
theorem ae_mul {x y : Nat} {a b : Int} (hrow : am_row C pc = some (.imul, 1, x, y)) (hr : am_r32 (a * b)) (k : am_E C (pc + 1, ls, vI (a * b) :: st, h) Z) : am_E C (pc, ls, vI b :: vI a :: st, h) Z := ae_bin hrow rfl (by rw [am_w_id hr]) k
theorem ae_iinc {i x y : Nat} {n a : Int} (hrow : am_row C pc = some (.iinc i n, 3, x, y)) (hl : ls[i]? = some (vI a)) (hr : am_r32 (a + n)) (k : am_E C (pc + 3, (am_cl ls i).set i (vI (a + n)), st, h) Z) : am_E C (pc, ls, st, h) Z := by
  refine am_E.go hrow ?_ k
  show am_iinc i n 3 x y (pc, ls, st, h) = _
  unfold am_iinc
  simp only [hl]
  rw [am_w_id hr]
theorem aq_gf {i x y o n : Nat} {tg : Nat → aq_T} {v : am_V} (hrow : am_row C pc = some (.getfield i, 3, x, y)) (ho : o < m) (hF : F o = (10 + x, n, tg)) (hy : y < n) (hv : aq_w (tg y) (c o (y : Int)) = v) (k : am_E C (pc + 3, ls, v :: st, aq_h m s F c) Z) : am_E C (pc, ls, vR o :: st, aq_h m s F c) Z :=
  ae_gf hrow ho (aq_hc hF) hy hv k
theorem aq_pf {i x y o n : Nat} {tg : Nat → aq_T} {z : Int} (hrow : am_row C pc = some (.putfield i, 3, x, y)) (ho : o < m) (hF : F o = (10 + x, n, tg)) (hy : y < n) (ht : tg y = .inl 0) (hv : am_fok (ac_ft x y) (vI z) = true) (k : am_E C (pc + 3, ls, st, aq_h m s F (aq_u c o (y : Int) z)) Z) : am_E C (pc, ls, vI z :: vR o :: st, aq_h m s F c) Z :=
  ae_pf (h := aq_h m s F c) hrow ho (aq_hc hF) hy hv (by rw [show vI z = aq_w (.inl 0) z from rfl, aq_wr hF ht]; exact k)
theorem aq_al {ins : Instr} {ok : Nat → Bool} {x y a kd n : Nat} {i : Int} {tg : Nat → aq_T} {v : am_V} (hrow : am_row C pc = some (ins, 1, x, y)) (hs : am_sem ac_ft ins = am_ald ok) (ha : a < m) (hF : F a = (kd, n, tg)) (hok : ok kd = true) (h0 : 0 ≤ i) (hi : i < (n : Int)) (hv : aq_w (tg i.toNat) (c a i) = v) (k : am_E C (pc + 1, ls, v :: st, aq_h m s F c) Z) : am_E C (pc, ls, vI i :: vR a :: st, aq_h m s F c) Z := by
  refine ae_ald (h := aq_h m s F c) (j := i.toNat) (f := fun j => aq_w (tg j) (c a (j : Int))) hrow hs ha (aq_hc hF) hok (by omega) (by omega) ?_ k
  rw [← hv]
  show aq_w (tg i.toNat) (c a ((i.toNat : Nat) : Int)) = _
  rw [Int.toNat_of_nonneg h0]
/-- a table that stays -/
theorem aq_alt {ins : Instr} {ok : Nat → Bool} {x y a kd n : Nat} {i : Int} {t : Int → Int} (hrow : am_row C pc = some (ins, 1, x, y)) (hs : am_sem ac_ft ins = am_ald ok) (ha : a < m) (hF : F a = (kd, n, fun j => .inr (vI (t (j : Int))))) (hok : ok kd = true) (h0 : 0 ≤ i) (hi : i < (n : Int)) (k : am_E C (pc + 1, ls, vI (t i) :: st, aq_h m s F c) Z) : am_E C (pc, ls, vI i :: vR a :: st, aq_h m s F c) Z :=
  aq_al hrow hs ha hF hok h0 hi (by show vI (t ((i.toNat : Nat) : Int)) = _; rw [Int.toNat_of_nonneg h0]) k
theorem aq_as {ins : Instr} {x y a kd n : Nat} {i z : Int} {tg : Nat → aq_T} (hrow : am_row C pc = some (ins, 1, x, y)) (hs : am_sem ac_ft ins = am_ast kd kd) (ha : a < m) (hF : F a = (kd, n, tg)) (h0 : 0 ≤ i) (hi : i < (n : Int)) (ht : tg i.toNat = .inl 0) (hv : am_fok kd (vI z) = true) (k : am_E C (pc + 1, ls, st, aq_h m s F (aq_u c a i z)) Z) : am_E C (pc, ls, vI z :: vI i :: vR a :: st, aq_h m s F c) Z := by
  refine ae_ast (h := aq_h m s F c) (j := i.toNat) hrow hs ha (aq_hc hF) (by omega) (by omega) hv ?_
  rw [show vI z = aq_w (.inl 0) z from rfl, aq_wr hF ht, Int.toNat_of_nonneg h0]
  exact k
theorem aq_asl {ins : Instr} {x y a n : Nat} {i z : Int} {tg : Nat → aq_T} (hrow : am_row C pc = some (ins, 1, x, y)) (hs : am_sem ac_ft ins = am_ast 2 2) (ha : a < m) (hF : F a = (2, n, tg)) (h0 : 0 ≤ i) (hi : i < (n : Int)) (ht : tg i.toNat = .inl 2) (k : am_E C (pc + 1, ls, st, aq_h m s F (aq_u c a i z)) Z) : am_E C (pc, ls, vL z :: vI i :: vR a :: st, aq_h m s F c) Z := by
  refine ae_ast (h := aq_h m s F c) (j := i.toNat) hrow hs ha (aq_hc hF) (by omega) (by omega) rfl ?_
  rw [show vL z = aq_w (.inl 2) z from rfl, aq_wr hF ht, Int.toNat_of_nonneg h0]
  exact k
theorem aq_len {x y a kd n : Nat} {tg : Nat → aq_T} (hrow : am_row C pc = some (.arraylength, 1, x, y)) (ha : a < m) (hF : F a = (kd, n, tg)) (hk : kd < 7) (k : am_E C (pc + 1, ls, vI (n : Int) :: st, aq_h m s F c) Z) : am_E C (pc, ls, vR a :: st, aq_h m s F c) Z := by
  refine am_E.go hrow ?_ k
  show am_len 1 x y (pc, ls, vR a :: st, aq_h m s F c) = _
  unfold am_len
  simp only [aq_hc hF]
  rw [if_pos ⟨ha, hk⟩]
theorem aq_callv {ins : Instr} {x y mL a n : Nat} {tg : Nat → aq_T} {as2 rest : List am_V} {C2 : am_C} {Z2 : Option am_V → am_H → Prop} (hrow : am_row C pc = some (ins, 3, x, y)) (hs : am_sem ac_ft ins = am_inv) (hx : 1000 ≤ x) (hy : y ≤ st.length) (has : (st.take y).reverse = vR a :: as2) (hrest : st.drop y = rest) (hcat : (rest.map am_cat).sum ≤ 8) (ha : a < m) (hF : F a = (9 + x / 1000, n, tg))
    (hM : ac_L[x % 1000]? = some (C2, mL)) (hcat2 : ((vR a :: as2).map am_cat).sum ≤ mL) (hk : am_E C2 (0, am_pad mL (vR a :: as2), [], aq_h m s F c) Z2) (k : ∀ r h2, Z2 r h2 → am_E C (pc + 3, ls, r.toList ++ rest, h2) Z) : am_E C (pc, ls, st, aq_h m s F c) Z :=
  ae_callv (h := aq_h m s F c) hrow hs hx hy has hrest hcat ha (aq_hc hF) hM hcat2 hk k
end AE
/-- the contents are the same off the cells of S -/
def aq_sm (S : Nat → Prop) (c d : aq_C) : Prop := ∀ a, ¬ S a → ∀ i, d a i = c a i
theorem aq_sm0 {S : Nat → Prop} {c : aq_C} : aq_sm S c c := fun _ _ _ => rfl
theorem aq_smt {S : Nat → Prop} {c d e : aq_C} (h1 : aq_sm S c d) (h2 : aq_sm S d e) : aq_sm S c e := fun a ha i => by rw [h2 a ha i, h1 a ha i]
theorem aq_smu {S : Nat → Prop} {c d e : aq_C} {a : Nat} {i x : Int} (h1 : aq_sm S c d) (he : aq_u d a i x = e) (ha : S a) : aq_sm S c e := fun b hb j => by
  have hne : b ≠ a := fun q => hb (by rw [q]; exact ha)
  rw [← he, aq_un (Or.inl hne), h1 b hb j]
theorem aq_smi {S S2 : Nat → Prop} {c d : aq_C} (h : aq_sm S c d) (hi : ∀ a, S a → S2 a) : aq_sm S2 c d := fun a ha i => h a (fun q => ha (hi a q)) i
/-- a method's end: the heap is as it was, P holds of the answer -/
def aq_P (m s : Nat) (F : aq_F) (c : aq_C) (P : Option am_V → Prop) : Option am_V → am_H → Prop := fun r h2 => h2 = aq_h m s F c ∧ P r
/-- a method's end: the contents have changed on S alone, P holds of the answer and the contents -/
def aq_Z (m s : Nat) (F : aq_F) (S : Nat → Prop) (c : aq_C) (P : Option am_V → aq_C → Prop) : Option am_V → am_H → Prop := fun r h2 => ∃ d, h2 = aq_h m s F d ∧ aq_sm S c d ∧ P r d
/-- some number -/
def aq_vi (r : Option am_V) : Prop := ∃ v, r = some (vI v)
/-- 0 or 1 -/
def aq_vb (r : Option am_V) : Prop := ∃ v, r = some (vI v) ∧ (v = 0 ∨ v = 1)
/-- the first N places of cell a lie from lo up to below hi -/
def aq_rg (a : Nat) (N lo hi : Int) (c : aq_C) : Prop := ∀ i, 0 ≤ i → i < N → lo ≤ c a i ∧ c a i < hi
theorem aq_rgu {a : Nat} {N lo hi i x : Int} {c d : aq_C} (h : aq_rg a N lo hi c) (he : aq_u c a i x = d) (h1 : lo ≤ x) (h2 : x < hi) : aq_rg a N lo hi d := by
  intro j h3 h4
  rw [← he]
  unfold aq_u
  split
  · exact ⟨h1, h2⟩
  · exact h j h3 h4
theorem aq_rgn {a b : Nat} {N lo hi i x : Int} {c d : aq_C} (h : aq_rg a N lo hi c) (he : aq_u c b i x = d) (hb : a ≠ b) : aq_rg a N lo hi d := by
  intro j h3 h4
  rw [← he, aq_un (Or.inl hb)]
  exact h j h3 h4
theorem aq_rgs {S : Nat → Prop} {a : Nat} {N lo hi : Int} {c d : aq_C} (h : aq_rg a N lo hi c) (hs : aq_sm S c d) (ha : ¬ S a) : aq_rg a N lo hi d := by
  intro j h3 h4
  rw [hs a ha]
  exact h j h3 h4
theorem am_lcf (a b : Int) : ((if a < b then (-1 : Int) else if a = b then 0 else 1) = -1 ∧ a < b) ∨ ((if a < b then (-1 : Int) else if a = b then 0 else 1) = 0 ∧ a = b) ∨ ((if a < b then (-1 : Int) else if a = b then 0 else 1) = 1 ∧ b < a) := by
  by_cases h1 : a < b
  · rw [if_pos h1]
    exact Or.inl ⟨rfl, h1⟩
  · rw [if_neg h1]
    by_cases h2 : a = b
    · rw [if_pos h2]
      exact Or.inr (Or.inl ⟨rfl, h2⟩)
    · rw [if_neg h2]
      exact Or.inr (Or.inr ⟨rfl, by omega⟩)
theorem ae_retb {C : am_C} {pc : Nat} {ls : List am_V} {h : am_H} {Z : Option am_V → am_H → Prop} {y : Nat} {v : Int} (hrow : am_row C pc = some (.ireturn, 1, 1, y)) (hv : v = 0 ∨ v = 1) (k : Z (some (vI v)) h) : am_E C (pc, ls, [vI v], h) Z := by
  rcases hv with e | e <;> subst e <;> exact am_E.ret hrow rfl k
/-- references in an array of N places: nothing behind its end -/
def aq_g (N j a : Nat) : aq_T := .inr (if j < N then vR a else vN)
theorem aq_gi {N j a : Nat} {x : Int} (h : j < N) : aq_w (aq_g N j a) x = vR a := by
  unfold aq_g aq_w
  rw [if_pos h]
theorem aq_gi2 {N j a o : Nat} {x : Int} (h : j < N) (e : a = o) : aq_w (aq_g N j a) x = vR o := by
  rw [aq_gi h, e]
def pr_1 : List (List Int) := [[1, 0]]
def pr_2 : List (List Int) := [[1, 0, 3, 2], [2, 3, 0, 1], [3, 2, 1, 0]]
def pr_3 : List (List Int) := [[1, 0, 3, 2, 5, 4], [1, 0, 4, 5, 2, 3], [1, 0, 5, 4, 3, 2], [2, 3, 0, 1, 5, 4], [2, 4, 0, 5, 1, 3], [2, 5, 0, 4, 3, 1], [3, 2, 1, 0, 5, 4], [3, 4, 5, 0, 1, 2], [3, 5, 4, 0, 2, 1], [4, 2, 1, 5, 0, 3], [4, 3, 5, 1, 0, 2], [4, 5, 3, 2, 0, 1], [5, 2, 1, 4, 3, 0], [5, 3, 4, 1, 2, 0], [5, 4, 3, 2, 1, 0]]
def pr_4 : List (List Int) := [[1, 0, 3, 2, 5, 4, 7, 6], [1, 0, 3, 2, 6, 7, 4, 5], [1, 0, 3, 2, 7, 6, 5, 4], [1, 0, 4, 5, 2, 3, 7, 6], [1, 0, 4, 6, 2, 7, 3, 5], [1, 0, 4, 7, 2, 6, 5, 3], [1, 0, 5, 4, 3, 2, 7, 6], [1, 0, 5, 6, 7, 2, 3, 4], [1, 0, 5, 7, 6, 2, 4, 3], [1, 0, 6, 4, 3, 7, 2, 5], [1, 0, 6, 5, 7, 3, 2, 4], [1, 0, 6, 7, 5, 4, 2, 3], [1, 0, 7, 4, 3, 6, 5, 2], [1, 0, 7, 5, 6, 3, 4, 2], [1, 0, 7, 6, 5, 4, 3, 2], [2, 3, 0, 1, 5, 4, 7, 6], [2, 3, 0, 1, 6, 7, 4, 5], [2, 3, 0, 1, 7, 6, 5, 4], [2, 4, 0, 5, 1, 3, 7, 6], [2, 4, 0, 6, 1, 7, 3, 5], [2, 4, 0, 7, 1, 6, 5, 3], [2, 5, 0, 4, 3, 1, 7, 6], [2, 5, 0, 6, 7, 1, 3, 4], [2, 5, 0, 7, 6, 1, 4, 3], [2, 6, 0, 4, 3, 7, 1, 5], [2, 6, 0, 5, 7, 3, 1, 4], [2, 6, 0, 7, 5, 4, 1, 3], [2, 7, 0, 4, 3, 6, 5, 1], [2, 7, 0, 5, 6, 3, 4, 1], [2, 7, 0, 6, 5, 4, 3, 1], [3, 2, 1, 0, 5, 4, 7, 6], [3, 2, 1, 0, 6, 7, 4, 5], [3, 2, 1, 0, 7, 6, 5, 4], [3, 4, 5, 0, 1, 2, 7, 6], [3, 4, 6, 0, 1, 7, 2, 5], [3, 4, 7, 0, 1, 6, 5, 2], [3, 5, 4, 0, 2, 1, 7, 6], [3, 5, 6, 0, 7, 1, 2, 4], [3, 5, 7, 0, 6, 1, 4, 2], [3, 6, 4, 0, 2, 7, 1, 5], [3, 6, 5, 0, 7, 2, 1, 4], [3, 6, 7, 0, 5, 4, 1, 2], [3, 7, 4, 0, 2, 6, 5, 1], [3, 7, 5, 0, 6, 2, 4, 1], [3, 7, 6, 0, 5, 4, 2, 1], [4, 2, 1, 5, 0, 3, 7, 6], [4, 2, 1, 6, 0, 7, 3, 5], [4, 2, 1, 7, 0, 6, 5, 3], [4, 3, 5, 1, 0, 2, 7, 6], [4, 3, 6, 1, 0, 7, 2, 5], [4, 3, 7, 1, 0, 6, 5, 2], [4, 5, 3, 2, 0, 1, 7, 6], [4, 5, 6, 7, 0, 1, 2, 3], [4, 5, 7, 6, 0, 1, 3, 2], [4, 6, 3, 2, 0, 7, 1, 5], [4, 6, 5, 7, 0, 2, 1, 3], [4, 6, 7, 5, 0, 3, 1, 2], [4, 7, 3, 2, 0, 6, 5, 1], [4, 7, 5, 6, 0, 2, 3, 1], [4, 7, 6, 5, 0, 3, 2, 1], [5, 2, 1, 4, 3, 0, 7, 6], [5, 2, 1, 6, 7, 0, 3, 4], [5, 2, 1, 7, 6, 0, 4, 3], [5, 3, 4, 1, 2, 0, 7, 6], [5, 3, 6, 1, 7, 0, 2, 4], [5, 3, 7, 1, 6, 0, 4, 2], [5, 4, 3, 2, 1, 0, 7, 6], [5, 4, 6, 7, 1, 0, 2, 3], [5, 4, 7, 6, 1, 0, 3, 2], [5, 6, 3, 2, 7, 0, 1, 4], [5, 6, 4, 7, 2, 0, 1, 3], [5, 6, 7, 4, 3, 0, 1, 2], [5, 7, 3, 2, 6, 0, 4, 1], [5, 7, 4, 6, 2, 0, 3, 1], [5, 7, 6, 4, 3, 0, 2, 1], [6, 2, 1, 4, 3, 7, 0, 5], [6, 2, 1, 5, 7, 3, 0, 4], [6, 2, 1, 7, 5, 4, 0, 3], [6, 3, 4, 1, 2, 7, 0, 5], [6, 3, 5, 1, 7, 2, 0, 4], [6, 3, 7, 1, 5, 4, 0, 2], [6, 4, 3, 2, 1, 7, 0, 5], [6, 4, 5, 7, 1, 2, 0, 3], [6, 4, 7, 5, 1, 3, 0, 2], [6, 5, 3, 2, 7, 1, 0, 4], [6, 5, 4, 7, 2, 1, 0, 3], [6, 5, 7, 4, 3, 1, 0, 2], [6, 7, 3, 2, 5, 4, 0, 1], [6, 7, 4, 5, 2, 3, 0, 1], [6, 7, 5, 4, 3, 2, 0, 1], [7, 2, 1, 4, 3, 6, 5, 0], [7, 2, 1, 5, 6, 3, 4, 0], [7, 2, 1, 6, 5, 4, 3, 0], [7, 3, 4, 1, 2, 6, 5, 0], [7, 3, 5, 1, 6, 2, 4, 0], [7, 3, 6, 1, 5, 4, 2, 0], [7, 4, 3, 2, 1, 6, 5, 0], [7, 4, 5, 6, 1, 2, 3, 0], [7, 4, 6, 5, 1, 3, 2, 0], [7, 5, 3, 2, 6, 1, 4, 0], [7, 5, 4, 6, 2, 1, 3, 0], [7, 5, 6, 4, 3, 1, 2, 0], [7, 6, 3, 2, 5, 4, 1, 0], [7, 6, 4, 5, 2, 3, 1, 0], [7, 6, 5, 4, 3, 2, 1, 0]]
def pr_n (n : Int) : List (List Int) := if n = 1 then pr_1 else if n = 2 then pr_2 else if n = 3 then pr_3 else pr_4
/-- the partner of p in box b -/
def prt (n b p : Int) : Int := ((pr_n n).getD b.toNat []).getD p.toNat 0
def bx_t (o n K : Nat) : Nat → aq_T := fun y => match y with
  | 0 => .inr (vI (n : Int))
  | 1 => .inr (vI (2 * (n : Int)))
  | 2 => .inr (vI (2 * (n : Int) - 2))
  | 3 => .inr (vI (K : Int))
  | 4 => .inr (vR (o + 1))
  | 5 => .inr (vR (o + 2 + K))
  | 6 => .inr (vR (o + 3 + K))
  | 7 => .inr (vR (o + 4 + K))
  | 8 => .inr (vR (o + 5 + 2 * K))
  | 9 => .inr (vR (o + 6 + 3 * K))
  | 10 => .inr (vR (o + 7 + 3 * K))
  | _ => .inl 0
/-- the object, draft and seen -/
def bx_0 (m : Nat) (F : aq_F) (o n K : Nat) : Prop := o + 8 + 3 * K ≤ m ∧ 1 ≤ n ∧ n ≤ 4 ∧ K ≤ 105 ∧ F o = (10, 11, bx_t o n K) ∧ F (o + 6 + 3 * K) = (0, 2 * n, fun _ => .inl 0) ∧ F (o + 7 + 3 * K) = (1, 2 * n, fun _ => .inl 0)
/-- partners, each row a table -/
def bx_p (F : aq_F) (o n K : Nat) (tP : Int → Int → Int) : Prop := F (o + 1) = (3, K, fun j => aq_g K j (o + 2 + j)) ∧ (∀ b, b < K → F (o + 2 + b) = (0, 2 * n, fun j => .inr (vI (tP (b : Int) (j : Int))))) ∧ ∀ b p : Int, 0 ≤ b → b < K → 0 ≤ p → p < 2 * (n : Int) → 0 ≤ tP b p ∧ tP b p < 2 * (n : Int) ∧ tP b p = prt (n : Int) b p
/-- lengths, spellings, beneath -/
def bx_w (F : aq_F) (o n K : Nat) (tL : Int → Int) (tG tN : Int → Int → Int) : Prop := F (o + 3 + K) = (0, K, fun j => .inr (vI (tL (j : Int)))) ∧ F (o + 4 + K) = (3, K, fun j => aq_g K j (o + 5 + K + j)) ∧ (∀ b, b < K → F (o + 5 + K + b) = (0, 6, fun j => .inr (vI (tG (b : Int) (j : Int))))) ∧ F (o + 5 + 2 * K) = (3, K, fun j => aq_g K j (o + 6 + 2 * K + j)) ∧ (∀ b, b < K → F (o + 6 + 2 * K + b) = (0, 2 * n - 2, fun j => .inr (vI (tN (b : Int) (j : Int))))) ∧
  (∀ b : Int, 0 ≤ b → b < K → -1 ≤ tL b ∧ tL b ≤ 6) ∧ (∀ b i : Int, 0 ≤ b → b < K → 0 ≤ i → i < tL b → 0 ≤ tG b i ∧ tG b i < 2 * (n : Int) - 2) ∧ ∀ b k : Int, 0 ≤ b → b < K → 0 ≤ k → k < 2 * (n : Int) - 2 → 0 ≤ tN b k ∧ tN b k < 5000 ∧ tN b k % 1000 < (K : Int)
/-- rings -/
def bx_r (F : aq_F) (o K : Nat) (tR : Int → Int) : Prop := F (o + 2 + K) = (0, K, fun j => .inr (vI (tR (j : Int)))) ∧ ∀ b : Int, 0 ≤ b → b < K → 0 ≤ tR b ∧ tR b ≤ 8
theorem am_and15 (x : Int) : 0 ≤ am_and x 15 ∧ am_and x 15 < 16 := by
  unfold am_and
  have h1 : (Int32.ofInt x &&& Int32.ofInt 15).toInt = ((Int32.ofInt x).toBitVec &&& (Int32.ofInt 15).toBitVec).toInt := by
    rw [← Int32.toBitVec_and]
    rfl
  rw [h1]
  have h2 : (Int32.ofInt 15).toBitVec = 15#32 := by decide
  rw [h2]
  have h3 : ((Int32.ofInt x).toBitVec &&& 15#32).toNat ≤ 15 := by
    rw [BitVec.toNat_and]
    exact Nat.and_le_right
  rw [BitVec.toInt_eq_toNat_cond]
  split <;> omega
theorem am_rem_s {x y : Int} (h : y ≠ 0) : am_rem x y = some (x.tmod y) := by
  unfold am_rem
  rw [if_neg h]
theorem am_div_s {x y : Int} (h : y ≠ 0) : am_div x y = some (am_w (x.tdiv y)) := by
  unfold am_div
  rw [if_neg h]
theorem am_divl_s {x y : Int} (h : y ≠ 0) : am_divl x y = some (am_wl (x.tdiv y)) := by
  unfold am_divl
  rw [if_neg h]
theorem am_rem_e {x y : Int} (h : 0 ≤ x) (hy : 0 < y) : am_rem x y = some (x % y) := by
  rw [am_rem_s (by omega), Int.tmod_eq_emod_of_nonneg h]
theorem am_div_e {x y : Int} (h : 0 ≤ x) (hx : x < 2147483648) (hy : 0 < y) : am_div x y = some (x / y) := by
  rw [am_div_s (by omega), Int.tdiv_eq_ediv_of_nonneg h, am_w_id]
  have h1 : 0 ≤ x / y := Int.ediv_nonneg h (by omega)
  have h2 : x / y ≤ x := Int.ediv_le_self y h
  exact am_ri (by omega) (by omega)

theorem qn_X0_across {m s : Nat} {F : aq_F} {c : aq_C} {o n K : Nat} (hB : bx_0 m F o n K) {p : Int} (h0 : 0 ≤ p) (h1 : p < 2 * (n : Int)) : am_E ac_X0_across (0, [vR o, vI p], [], aq_h m s F c) (aq_P m s F c (fun r => ∃ v, r = some (vI v) ∧ ((p < (n : Int) ∧ v = p + (n : Int)) ∨ ((n : Int) ≤ p ∧ v = p - (n : Int))))) := by
  obtain ⟨hm, hn1, hn4, hK, hFo, hFd, hFs⟩ := hB
  refine am_E.go (t2 := (1, [vR o, vI p], [vI p], aq_h m s F c)) rfl rfl ?_
  refine am_E.go (t2 := (2, [vR o, vI p], [vR o, vI p], aq_h m s F c)) rfl rfl ?_
  refine aq_gf (v := vI (n : Int)) rfl (by omega) hFo (by decide) rfl ?_
  show am_E _ (5, [vR o, vI p], [vI (n : Int), vI p], aq_h m s F c) _
  refine ae_icmp rfl (fun (q_1 : (n : Int) ≤ p) => ?_) (fun (q_1 : p < (n : Int)) => ?_)
  · refine am_E.go (t2 := (18, [vR o, vI p], [vI p], aq_h m s F c)) rfl rfl ?_
    refine am_E.go (t2 := (19, [vR o, vI p], [vR o, vI p], aq_h m s F c)) rfl rfl ?_
    refine aq_gf (v := vI (n : Int)) rfl (by omega) hFo (by decide) rfl ?_
    show am_E _ (22, [vR o, vI p], [vI (n : Int), vI p], aq_h m s F c) _
    refine ae_sub rfl (am_ri (by omega) (by omega)) ?_
    show am_E _ (23, [vR o, vI p], [vI (p - (n : Int))], aq_h m s F c) _
    refine am_E.ret rfl rfl ?_
    exact ⟨rfl, _, rfl, by omega⟩
  · refine am_E.go (t2 := (9, [vR o, vI p], [vI p], aq_h m s F c)) rfl rfl ?_
    refine am_E.go (t2 := (10, [vR o, vI p], [vR o, vI p], aq_h m s F c)) rfl rfl ?_
    refine aq_gf (v := vI (n : Int)) rfl (by omega) hFo (by decide) rfl ?_
    show am_E _ (13, [vR o, vI p], [vI (n : Int), vI p], aq_h m s F c) _
    refine ae_add rfl (am_ri (by omega) (by omega)) ?_
    show am_E _ (14, [vR o, vI p], [vI (p + (n : Int))], aq_h m s F c) _
    refine am_E.go (t2 := (23, [vR o, vI p], [vI (p + (n : Int))], aq_h m s F c)) rfl rfl ?_
    refine am_E.ret rfl rfl ?_
    exact ⟨rfl, _, rfl, by omega⟩

theorem qn_X0_placeRound {m s : Nat} {F : aq_F} {c : aq_C} {o n K : Nat} (hB : bx_0 m F o n K) {p : Int} : am_E ac_X0_placeRound (0, [vR o, vI p], [], aq_h m s F c) (aq_P m s F c aq_vi) := by
  obtain ⟨hm, hn1, hn4, hK, hFo, hFd, hFs⟩ := hB
  refine am_E.go (t2 := (1, [vR o, vI p], [vI p], aq_h m s F c)) rfl rfl ?_
  refine am_E.go (t2 := (2, [vR o, vI p], [vR o, vI p], aq_h m s F c)) rfl rfl ?_
  refine aq_gf (v := vI (n : Int)) rfl (by omega) hFo (by decide) rfl ?_
  show am_E _ (5, [vR o, vI p], [vI (n : Int), vI p], aq_h m s F c) _
  refine ae_icmp rfl (fun (q_1 : (n : Int) ≤ p) => ?_) (fun (q_1 : p < (n : Int)) => ?_)
  · refine am_E.go (t2 := (13, [vR o, vI p], [vR o], aq_h m s F c)) rfl rfl ?_
    refine aq_gf (v := vI (n : Int)) rfl (by omega) hFo (by decide) rfl ?_
    show am_E _ (16, [vR o, vI p], [vI (n : Int)], aq_h m s F c) _
    refine am_E.go (t2 := (17, [vR o, vI p], [vR o, vI (n : Int)], aq_h m s F c)) rfl rfl ?_
    refine aq_gf (v := vI (2 * (n : Int))) rfl (by omega) hFo (by decide) rfl ?_
    show am_E _ (20, [vR o, vI p], [vI (2 * (n : Int)), vI (n : Int)], aq_h m s F c) _
    refine am_E.go (t2 := (21, [vR o, vI p], [vI (am_w ((n : Int) + (2 * (n : Int))))], aq_h m s F c)) rfl rfl ?_
    refine am_E.go (t2 := (22, [vR o, vI p], [vI 1, vI (am_w ((n : Int) + (2 * (n : Int))))], aq_h m s F c)) rfl rfl ?_
    refine am_E.go (t2 := (23, [vR o, vI p], [vI (am_w ((am_w ((n : Int) + (2 * (n : Int)))) - 1))], aq_h m s F c)) rfl rfl ?_
    refine am_E.go (t2 := (24, [vR o, vI p], [vI p, vI (am_w ((am_w ((n : Int) + (2 * (n : Int)))) - 1))], aq_h m s F c)) rfl rfl ?_
    refine am_E.go (t2 := (25, [vR o, vI p], [vI (am_w ((am_w ((am_w ((n : Int) + (2 * (n : Int)))) - 1)) - p))], aq_h m s F c)) rfl rfl ?_
    refine am_E.ret rfl rfl ?_
    exact ⟨rfl, _, rfl⟩
  · refine am_E.go (t2 := (9, [vR o, vI p], [vI p], aq_h m s F c)) rfl rfl ?_
    refine am_E.go (t2 := (25, [vR o, vI p], [vI p], aq_h m s F c)) rfl rfl ?_
    refine am_E.ret rfl rfl ?_
    exact ⟨rfl, _, rfl⟩

theorem qn_X0_isBetween {m s : Nat} {F : aq_F} {c : aq_C} {o n K : Nat} (hB : bx_0 m F o n K) {p q r : Int} : am_E ac_X0_isBetween (0, [vR o, vI p, vI q, vI r, vU], [], aq_h m s F c) (aq_P m s F c aq_vb) := by
  obtain ⟨hm, hn1, hn4, hK, hFo, hFd, hFs⟩ := hB
  refine am_E.go (t2 := (1, [vR o, vI p, vI q, vI r, vU], [vR o], aq_h m s F c)) rfl rfl ?_
  refine am_E.go (t2 := (2, [vR o, vI p, vI q, vI r, vU], [vI r, vR o], aq_h m s F c)) rfl rfl ?_
  refine aq_callv (y := 2) (as2 := [vI r]) (rest := []) rfl rfl (by decide) (Nat.le_of_ble_eq_true rfl) rfl rfl (Nat.le_of_ble_eq_true rfl) (by omega) hFo rfl (Nat.le_of_ble_eq_true rfl) (qn_X0_placeRound ⟨hm, hn1, hn4, hK, hFo, hFd, hFs⟩) ?_
  rintro r5 h5 ⟨rfl, v_1, rfl⟩
  show am_E _ (5, [vR o, vI p, vI q, vI r, vU], [vI v_1], aq_h m s F c) _
  refine am_E.go (t2 := (7, [vR o, vI p, vI q, vI r, vI v_1], [], aq_h m s F c)) rfl rfl ?_
  refine am_E.go (t2 := (8, [vR o, vI p, vI q, vI r, vI v_1], [vI p], aq_h m s F c)) rfl rfl ?_
  refine am_E.go (t2 := (10, [vR o, vI p, vI q, vI r, vI v_1], [vI v_1, vI p], aq_h m s F c)) rfl rfl ?_
  refine ae_icmp rfl (fun (q_2 : v_1 ≤ p) => ?_) (fun (q_2 : p < v_1) => ?_)
  · refine am_E.go (t2 := (24, [vR o, vI p, vI q, vI r, vI v_1], [vI 0], aq_h m s F c)) rfl rfl ?_
    refine am_E.ret rfl rfl ?_
    exact ⟨rfl, _, rfl, by omega⟩
  · refine am_E.go (t2 := (15, [vR o, vI p, vI q, vI r, vI v_1], [vI v_1], aq_h m s F c)) rfl rfl ?_
    refine am_E.go (t2 := (16, [vR o, vI p, vI q, vI r, vI v_1], [vI q, vI v_1], aq_h m s F c)) rfl rfl ?_
    refine ae_icmp rfl (fun (q_3 : q ≤ v_1) => ?_) (fun (q_3 : v_1 < q) => ?_)
    · refine am_E.go (t2 := (24, [vR o, vI p, vI q, vI r, vI v_1], [vI 0], aq_h m s F c)) rfl rfl ?_
      refine am_E.ret rfl rfl ?_
      exact ⟨rfl, _, rfl, by omega⟩
    · refine am_E.go (t2 := (20, [vR o, vI p, vI q, vI r, vI v_1], [vI 1], aq_h m s F c)) rfl rfl ?_
      refine am_E.go (t2 := (24, [vR o, vI p, vI q, vI r, vI v_1], [vI 1], aq_h m s F c)) rfl rfl ?_
      refine am_E.ret rfl rfl ?_
      exact ⟨rfl, _, rfl, by omega⟩

theorem qn_isPlane_in {m s : Nat} {F : aq_F} {c : aq_C} {o n K : Nat} (hB : bx_0 m F o n K) {tP : Int → Int → Int} (hP : bx_p F o n K tP) {b : Int} (hb0 : 0 ≤ b) (hbK : b < (K : Int)) : ∀ (d : Nat) (p : Int) (v4 : Int) (v5 : Int) (r : Int) (h0 : 0 ≤ r) (h1 : r ≤ 2 * (n : Int)) (hd : 2 * (n : Int) - r < (d : Int)) (K0 : ∀ (v6 : Int), am_E ac_X0_isPlane (81, [vR o, vI b, vR (o + 2 + b.toNat), vI p, vI v4, vI v5, vI v6], [], aq_h m s F c) (aq_P m s F c aq_vb)), am_E ac_X0_isPlane (36, [vR o, vI b, vR (o + 2 + b.toNat), vI p, vI v4, vI v5, vI r], [], aq_h m s F c) (aq_P m s F c aq_vb)
  | 0, p, v4, v5, r, h0, h1, hd, K0 => by exfalso; omega
  | d + 1, p, v4, v5, r, h0, h1, hd, K0 => by
    obtain ⟨hm, hn1, hn4, hK, hFo, hFd, hFs⟩ := hB
    obtain ⟨hPg, hPr, hPt⟩ := hP
    refine am_E.go (t2 := (38, [vR o, vI b, vR (o + 2 + b.toNat), vI p, vI v4, vI v5, vI r], [vI r], aq_h m s F c)) rfl rfl ?_
    refine am_E.go (t2 := (39, [vR o, vI b, vR (o + 2 + b.toNat), vI p, vI v4, vI v5, vI r], [vR o, vI r], aq_h m s F c)) rfl rfl ?_
    refine aq_gf (v := vI (2 * (n : Int))) rfl (by omega) hFo (by decide) rfl ?_
    show am_E _ (42, [vR o, vI b, vR (o + 2 + b.toNat), vI p, vI v4, vI v5, vI r], [vI (2 * (n : Int)), vI r], aq_h m s F c) _
    refine ae_icmp rfl (fun (q_1 : (2 * (n : Int)) ≤ r) => ?_) (fun (q_1 : r < (2 * (n : Int))) => ?_)
    · exact K0 r
    · refine am_E.go (t2 := (46, [vR o, vI b, vR (o + 2 + b.toNat), vI p, vI v4, vI v5, vI r], [vR o], aq_h m s F c)) rfl rfl ?_
      refine am_E.go (t2 := (48, [vR o, vI b, vR (o + 2 + b.toNat), vI p, vI v4, vI v5, vI r], [vI v4, vR o], aq_h m s F c)) rfl rfl ?_
      refine am_E.go (t2 := (50, [vR o, vI b, vR (o + 2 + b.toNat), vI p, vI v4, vI v5, vI r], [vI v5, vI v4, vR o], aq_h m s F c)) rfl rfl ?_
      refine am_E.go (t2 := (52, [vR o, vI b, vR (o + 2 + b.toNat), vI p, vI v4, vI v5, vI r], [vI r, vI v5, vI v4, vR o], aq_h m s F c)) rfl rfl ?_
      refine aq_callv (y := 4) (as2 := [vI v4, vI v5, vI r]) (rest := []) rfl rfl (by decide) (Nat.le_of_ble_eq_true rfl) rfl rfl (Nat.le_of_ble_eq_true rfl) (by omega) hFo rfl (Nat.le_of_ble_eq_true rfl) (qn_X0_isBetween ⟨hm, hn1, hn4, hK, hFo, hFd, hFs⟩) ?_
      rintro r5 h5 ⟨rfl, v_2, rfl, hv_2⟩
      show am_E _ (55, [vR o, vI b, vR (o + 2 + b.toNat), vI p, vI v4, vI v5, vI r], [vI v_2], aq_h m s F c) _
      refine ae_if0 rfl (fun (q_3 : v_2 = 0) => ?_) (fun (q_3 : v_2 ≠ 0) => ?_)
      · refine ae_iinc rfl rfl (am_ri (by omega) (by omega)) ?_
        show am_E _ (78, [vR o, vI b, vR (o + 2 + b.toNat), vI p, vI v4, vI v5, vI (r + 1)], [], aq_h m s F c) _
        refine am_E.go (t2 := (36, [vR o, vI b, vR (o + 2 + b.toNat), vI p, vI v4, vI v5, vI (r + 1)], [], aq_h m s F c)) rfl rfl ?_
        exact qn_isPlane_in ⟨hm, hn1, hn4, hK, hFo, hFd, hFs⟩ ⟨hPg, hPr, hPt⟩ hb0 hbK d p v4 v5 (r + 1) (by omega) (by omega) (by omega) K0
      · refine am_E.go (t2 := (59, [vR o, vI b, vR (o + 2 + b.toNat), vI p, vI v4, vI v5, vI r], [vR o], aq_h m s F c)) rfl rfl ?_
        refine am_E.go (t2 := (61, [vR o, vI b, vR (o + 2 + b.toNat), vI p, vI v4, vI v5, vI r], [vI v4, vR o], aq_h m s F c)) rfl rfl ?_
        refine am_E.go (t2 := (63, [vR o, vI b, vR (o + 2 + b.toNat), vI p, vI v4, vI v5, vI r], [vI v5, vI v4, vR o], aq_h m s F c)) rfl rfl ?_
        refine am_E.go (t2 := (64, [vR o, vI b, vR (o + 2 + b.toNat), vI p, vI v4, vI v5, vI r], [vR (o + 2 + b.toNat), vI v5, vI v4, vR o], aq_h m s F c)) rfl rfl ?_
        refine am_E.go (t2 := (66, [vR o, vI b, vR (o + 2 + b.toNat), vI p, vI v4, vI v5, vI r], [vI r, vR (o + 2 + b.toNat), vI v5, vI v4, vR o], aq_h m s F c)) rfl rfl ?_
        refine aq_alt (ok := fun k => k == 0) rfl rfl (by omega) (hPr _ (by omega)) rfl (by omega) (by omega) ?_
        show am_E _ (67, [vR o, vI b, vR (o + 2 + b.toNat), vI p, vI v4, vI v5, vI r], [vI (tP ((b.toNat : Nat) : Int) r), vI v5, vI v4, vR o], aq_h m s F c) _
        have f_4 := hPt ((b.toNat : Nat) : Int) r (by omega) (by omega) (by omega) (by omega)
        refine aq_callv (y := 4) (as2 := [vI v4, vI v5, vI (tP ((b.toNat : Nat) : Int) r)]) (rest := []) rfl rfl (by decide) (Nat.le_of_ble_eq_true rfl) rfl rfl (Nat.le_of_ble_eq_true rfl) (by omega) hFo rfl (Nat.le_of_ble_eq_true rfl) (qn_X0_isBetween ⟨hm, hn1, hn4, hK, hFo, hFd, hFs⟩) ?_
        rintro r5 h5 ⟨rfl, v_5, rfl, hv_5⟩
        show am_E _ (70, [vR o, vI b, vR (o + 2 + b.toNat), vI p, vI v4, vI v5, vI r], [vI v_5], aq_h m s F c) _
        refine ae_if0 rfl (fun (q_6 : v_5 ≠ 0) => ?_) (fun (q_6 : v_5 = 0) => ?_)
        · refine ae_iinc rfl rfl (am_ri (by omega) (by omega)) ?_
          show am_E _ (78, [vR o, vI b, vR (o + 2 + b.toNat), vI p, vI v4, vI v5, vI (r + 1)], [], aq_h m s F c) _
          refine am_E.go (t2 := (36, [vR o, vI b, vR (o + 2 + b.toNat), vI p, vI v4, vI v5, vI (r + 1)], [], aq_h m s F c)) rfl rfl ?_
          exact qn_isPlane_in ⟨hm, hn1, hn4, hK, hFo, hFd, hFs⟩ ⟨hPg, hPr, hPt⟩ hb0 hbK d p v4 v5 (r + 1) (by omega) (by omega) (by omega) K0
        · refine am_E.go (t2 := (74, [vR o, vI b, vR (o + 2 + b.toNat), vI p, vI v4, vI v5, vI r], [vI 0], aq_h m s F c)) rfl rfl ?_
          refine am_E.ret rfl rfl ?_
          exact ⟨rfl, _, rfl, by omega⟩

theorem qn_isPlane_out {m s : Nat} {F : aq_F} {c : aq_C} {o n K : Nat} (hB : bx_0 m F o n K) {tP : Int → Int → Int} (hP : bx_p F o n K tP) {b : Int} (hb0 : 0 ≤ b) (hbK : b < (K : Int)) : ∀ (d : Nat) (p : Int) (v4 : am_V) (v5 : am_V) (v6 : am_V) (h0 : 0 ≤ p) (h1 : p ≤ 2 * (n : Int)) (hd : 2 * (n : Int) - p < (d : Int)), am_E ac_X0_isPlane (9, [vR o, vI b, vR (o + 2 + b.toNat), vI p, v4, v5, v6], [], aq_h m s F c) (aq_P m s F c aq_vb)
  | 0, p, v4, v5, v6, h0, h1, hd => by exfalso; omega
  | d + 1, p, v4, v5, v6, h0, h1, hd => by
    obtain ⟨hm, hn1, hn4, hK, hFo, hFd, hFs⟩ := hB
    obtain ⟨hPg, hPr, hPt⟩ := hP
    refine am_E.go (t2 := (10, [vR o, vI b, vR (o + 2 + b.toNat), vI p, v4, v5, v6], [vI p], aq_h m s F c)) rfl rfl ?_
    refine am_E.go (t2 := (11, [vR o, vI b, vR (o + 2 + b.toNat), vI p, v4, v5, v6], [vR o, vI p], aq_h m s F c)) rfl rfl ?_
    refine aq_gf (v := vI (2 * (n : Int))) rfl (by omega) hFo (by decide) rfl ?_
    show am_E _ (14, [vR o, vI b, vR (o + 2 + b.toNat), vI p, v4, v5, v6], [vI (2 * (n : Int)), vI p], aq_h m s F c) _
    refine ae_icmp rfl (fun (q_1 : (2 * (n : Int)) ≤ p) => ?_) (fun (q_1 : p < (2 * (n : Int))) => ?_)
    · refine am_E.go (t2 := (88, [vR o, vI b, vR (o + 2 + b.toNat), vI p, v4, v5, v6], [vI 1], aq_h m s F c)) rfl rfl ?_
      refine am_E.ret rfl rfl ?_
      exact ⟨rfl, _, rfl, by omega⟩
    · refine am_E.go (t2 := (18, [vR o, vI b, vR (o + 2 + b.toNat), vI p, v4, v5, v6], [vR o], aq_h m s F c)) rfl rfl ?_
      refine am_E.go (t2 := (19, [vR o, vI b, vR (o + 2 + b.toNat), vI p, v4, v5, v6], [vI p, vR o], aq_h m s F c)) rfl rfl ?_
      refine aq_callv (y := 2) (as2 := [vI p]) (rest := []) rfl rfl (by decide) (Nat.le_of_ble_eq_true rfl) rfl rfl (Nat.le_of_ble_eq_true rfl) (by omega) hFo rfl (Nat.le_of_ble_eq_true rfl) (qn_X0_placeRound ⟨hm, hn1, hn4, hK, hFo, hFd, hFs⟩) ?_
      rintro r5 h5 ⟨rfl, v_2, rfl⟩
      show am_E _ (22, [vR o, vI b, vR (o + 2 + b.toNat), vI p, v4, v5, v6], [vI v_2], aq_h m s F c) _
      refine am_E.go (t2 := (24, [vR o, vI b, vR (o + 2 + b.toNat), vI p, vI v_2, v5, v6], [], aq_h m s F c)) rfl rfl ?_
      refine am_E.go (t2 := (25, [vR o, vI b, vR (o + 2 + b.toNat), vI p, vI v_2, v5, v6], [vR o], aq_h m s F c)) rfl rfl ?_
      refine am_E.go (t2 := (26, [vR o, vI b, vR (o + 2 + b.toNat), vI p, vI v_2, v5, v6], [vR (o + 2 + b.toNat), vR o], aq_h m s F c)) rfl rfl ?_
      refine am_E.go (t2 := (27, [vR o, vI b, vR (o + 2 + b.toNat), vI p, vI v_2, v5, v6], [vI p, vR (o + 2 + b.toNat), vR o], aq_h m s F c)) rfl rfl ?_
      refine aq_alt (ok := fun k => k == 0) rfl rfl (by omega) (hPr _ (by omega)) rfl (by omega) (by omega) ?_
      show am_E _ (28, [vR o, vI b, vR (o + 2 + b.toNat), vI p, vI v_2, v5, v6], [vI (tP ((b.toNat : Nat) : Int) p), vR o], aq_h m s F c) _
      have f_3 := hPt ((b.toNat : Nat) : Int) p (by omega) (by omega) (by omega) (by omega)
      refine aq_callv (y := 2) (as2 := [vI (tP ((b.toNat : Nat) : Int) p)]) (rest := []) rfl rfl (by decide) (Nat.le_of_ble_eq_true rfl) rfl rfl (Nat.le_of_ble_eq_true rfl) (by omega) hFo rfl (Nat.le_of_ble_eq_true rfl) (qn_X0_placeRound ⟨hm, hn1, hn4, hK, hFo, hFd, hFs⟩) ?_
      rintro r5 h5 ⟨rfl, v_4, rfl⟩
      show am_E _ (31, [vR o, vI b, vR (o + 2 + b.toNat), vI p, vI v_2, v5, v6], [vI v_4], aq_h m s F c) _
      refine am_E.go (t2 := (33, [vR o, vI b, vR (o + 2 + b.toNat), vI p, vI v_2, vI v_4, v6], [], aq_h m s F c)) rfl rfl ?_
      refine am_E.go (t2 := (34, [vR o, vI b, vR (o + 2 + b.toNat), vI p, vI v_2, vI v_4, v6], [vI 0], aq_h m s F c)) rfl rfl ?_
      refine am_E.go (t2 := (36, [vR o, vI b, vR (o + 2 + b.toNat), vI p, vI v_2, vI v_4, vI 0], [], aq_h m s F c)) rfl rfl ?_
      refine qn_isPlane_in ⟨hm, hn1, hn4, hK, hFo, hFd, hFs⟩ ⟨hPg, hPr, hPt⟩ hb0 hbK 9 p v_2 v_4 0 (by omega) (by omega) (by omega) ?_
      · intro v6_36
        refine ae_iinc rfl rfl (am_ri (by omega) (by omega)) ?_
        show am_E _ (84, [vR o, vI b, vR (o + 2 + b.toNat), vI (p + 1), vI v_2, vI v_4, vI v6_36], [], aq_h m s F c) _
        refine am_E.go (t2 := (9, [vR o, vI b, vR (o + 2 + b.toNat), vI (p + 1), vI v_2, vI v_4, vI v6_36], [], aq_h m s F c)) rfl rfl ?_
        exact qn_isPlane_out ⟨hm, hn1, hn4, hK, hFo, hFd, hFs⟩ ⟨hPg, hPr, hPt⟩ hb0 hbK d (p + 1) (vI v_2) (vI v_4) (vI v6_36) (by omega) (by omega) (by omega)

theorem qn_X0_isPlane {m s : Nat} {F : aq_F} {c : aq_C} {o n K : Nat} (hB : bx_0 m F o n K) {tP : Int → Int → Int} (hP : bx_p F o n K tP) {b : Int} (hb0 : 0 ≤ b) (hbK : b < (K : Int)) : am_E ac_X0_isPlane (0, [vR o, vI b, vU, vU, vU, vU, vU], [], aq_h m s F c) (aq_P m s F c aq_vb) := by
  obtain ⟨hm, hn1, hn4, hK, hFo, hFd, hFs⟩ := hB
  obtain ⟨hPg, hPr, hPt⟩ := hP
  refine am_E.go (t2 := (1, [vR o, vI b, vU, vU, vU, vU, vU], [vR o], aq_h m s F c)) rfl rfl ?_
  refine aq_gf (v := vR (o + 1)) rfl (by omega) hFo (by decide) rfl ?_
  show am_E _ (4, [vR o, vI b, vU, vU, vU, vU, vU], [vR (o + 1)], aq_h m s F c) _
  refine am_E.go (t2 := (5, [vR o, vI b, vU, vU, vU, vU, vU], [vI b, vR (o + 1)], aq_h m s F c)) rfl rfl ?_
  refine aq_al (ok := fun k => decide (3 ≤ k) && decide (k < 7)) (v := vR (o + 2 + b.toNat)) rfl rfl (by omega) hPg rfl (by omega) (by omega) (aq_gi (by omega)) ?_
  show am_E _ (6, [vR o, vI b, vU, vU, vU, vU, vU], [vR (o + 2 + b.toNat)], aq_h m s F c) _
  refine am_E.go (t2 := (7, [vR o, vI b, vR (o + 2 + b.toNat), vU, vU, vU, vU], [], aq_h m s F c)) rfl rfl ?_
  refine am_E.go (t2 := (8, [vR o, vI b, vR (o + 2 + b.toNat), vU, vU, vU, vU], [vI 0], aq_h m s F c)) rfl rfl ?_
  refine am_E.go (t2 := (9, [vR o, vI b, vR (o + 2 + b.toNat), vI 0, vU, vU, vU], [], aq_h m s F c)) rfl rfl ?_
  exact qn_isPlane_out ⟨hm, hn1, hn4, hK, hFo, hFd, hFs⟩ ⟨hPg, hPr, hPt⟩ hb0 hbK 9 0 (vU) (vU) (vU) (by omega) (by omega) (by omega)

theorem qn_countPlane_l {m s : Nat} {F : aq_F} {c : aq_C} {o n K : Nat} (hB : bx_0 m F o n K) {tP : Int → Int → Int} (hP : bx_p F o n K tP) : ∀ (d : Nat) (x : Int) (b : Int) (h0 : 0 ≤ b) (h1 : b ≤ (K : Int)) (hd : (K : Int) - b < (d : Int)), am_E ac_X0_countPlane (4, [vR o, vI x, vI b], [], aq_h m s F c) (aq_P m s F c aq_vi)
  | 0, x, b, h0, h1, hd => by exfalso; omega
  | d + 1, x, b, h0, h1, hd => by
    obtain ⟨hm, hn1, hn4, hK, hFo, hFd, hFs⟩ := hB
    obtain ⟨hPg, hPr, hPt⟩ := hP
    refine am_E.go (t2 := (5, [vR o, vI x, vI b], [vI b], aq_h m s F c)) rfl rfl ?_
    refine am_E.go (t2 := (6, [vR o, vI x, vI b], [vR o, vI b], aq_h m s F c)) rfl rfl ?_
    refine aq_gf (v := vI (K : Int)) rfl (by omega) hFo (by decide) rfl ?_
    show am_E _ (9, [vR o, vI x, vI b], [vI (K : Int), vI b], aq_h m s F c) _
    refine ae_icmp rfl (fun (q_1 : (K : Int) ≤ b) => ?_) (fun (q_1 : b < (K : Int)) => ?_)
    · refine am_E.go (t2 := (35, [vR o, vI x, vI b], [vI x], aq_h m s F c)) rfl rfl ?_
      refine am_E.ret rfl rfl ?_
      exact ⟨rfl, _, rfl⟩
    · refine am_E.go (t2 := (13, [vR o, vI x, vI b], [vI x], aq_h m s F c)) rfl rfl ?_
      refine am_E.go (t2 := (14, [vR o, vI x, vI b], [vR o, vI x], aq_h m s F c)) rfl rfl ?_
      refine am_E.go (t2 := (15, [vR o, vI x, vI b], [vI b, vR o, vI x], aq_h m s F c)) rfl rfl ?_
      refine aq_callv (y := 2) (as2 := [vI b]) (rest := [vI x]) rfl rfl (by decide) (Nat.le_of_ble_eq_true rfl) rfl rfl (Nat.le_of_ble_eq_true rfl) (by omega) hFo rfl (Nat.le_of_ble_eq_true rfl) (qn_X0_isPlane ⟨hm, hn1, hn4, hK, hFo, hFd, hFs⟩ ⟨hPg, hPr, hPt⟩ (by omega) (by omega)) ?_
      rintro r5 h5 ⟨rfl, v_2, rfl, hv_2⟩
      show am_E _ (18, [vR o, vI x, vI b], [vI v_2, vI x], aq_h m s F c) _
      refine ae_if0 rfl (fun (q_3 : v_2 = 0) => ?_) (fun (q_3 : v_2 ≠ 0) => ?_)
      · refine am_E.go (t2 := (26, [vR o, vI x, vI b], [vI 0, vI x], aq_h m s F c)) rfl rfl ?_
        refine am_E.go (t2 := (27, [vR o, vI x, vI b], [vI (am_w (x + 0))], aq_h m s F c)) rfl rfl ?_
        refine am_E.go (t2 := (28, [vR o, vI (am_w (x + 0)), vI b], [], aq_h m s F c)) rfl rfl ?_
        refine ae_iinc rfl rfl (am_ri (by omega) (by omega)) ?_
        show am_E _ (31, [vR o, vI (am_w (x + 0)), vI (b + 1)], [], aq_h m s F c) _
        refine am_E.go (t2 := (4, [vR o, vI (am_w (x + 0)), vI (b + 1)], [], aq_h m s F c)) rfl rfl ?_
        exact qn_countPlane_l ⟨hm, hn1, hn4, hK, hFo, hFd, hFs⟩ ⟨hPg, hPr, hPt⟩ d (am_w (x + 0)) (b + 1) (by omega) (by omega) (by omega)
      · refine am_E.go (t2 := (22, [vR o, vI x, vI b], [vI 1, vI x], aq_h m s F c)) rfl rfl ?_
        refine am_E.go (t2 := (26, [vR o, vI x, vI b], [vI 1, vI x], aq_h m s F c)) rfl rfl ?_
        refine am_E.go (t2 := (27, [vR o, vI x, vI b], [vI (am_w (x + 1))], aq_h m s F c)) rfl rfl ?_
        refine am_E.go (t2 := (28, [vR o, vI (am_w (x + 1)), vI b], [], aq_h m s F c)) rfl rfl ?_
        refine ae_iinc rfl rfl (am_ri (by omega) (by omega)) ?_
        show am_E _ (31, [vR o, vI (am_w (x + 1)), vI (b + 1)], [], aq_h m s F c) _
        refine am_E.go (t2 := (4, [vR o, vI (am_w (x + 1)), vI (b + 1)], [], aq_h m s F c)) rfl rfl ?_
        exact qn_countPlane_l ⟨hm, hn1, hn4, hK, hFo, hFd, hFs⟩ ⟨hPg, hPr, hPt⟩ d (am_w (x + 1)) (b + 1) (by omega) (by omega) (by omega)

theorem qn_X0_countPlane {m s : Nat} {F : aq_F} {c : aq_C} {o n K : Nat} (hB : bx_0 m F o n K) {tP : Int → Int → Int} (hP : bx_p F o n K tP) : am_E ac_X0_countPlane (0, [vR o, vU, vU], [], aq_h m s F c) (aq_P m s F c aq_vi) := by
  obtain ⟨hm, hn1, hn4, hK, hFo, hFd, hFs⟩ := hB
  obtain ⟨hPg, hPr, hPt⟩ := hP
  refine am_E.go (t2 := (1, [vR o, vU, vU], [vI 0], aq_h m s F c)) rfl rfl ?_
  refine am_E.go (t2 := (2, [vR o, vI 0, vU], [], aq_h m s F c)) rfl rfl ?_
  refine am_E.go (t2 := (3, [vR o, vI 0, vU], [vI 0], aq_h m s F c)) rfl rfl ?_
  refine am_E.go (t2 := (4, [vR o, vI 0, vI 0], [], aq_h m s F c)) rfl rfl ?_
  exact qn_countPlane_l ⟨hm, hn1, hn4, hK, hFo, hFd, hFs⟩ ⟨hPg, hPr, hPt⟩ 106 0 0 (by omega) (by omega) (by omega)

theorem qn_countThrough_l {m s : Nat} {F : aq_F} {c : aq_C} {o n K : Nat} (hB : bx_0 m F o n K) {tP : Int → Int → Int} (hP : bx_p F o n K tP) {b : Int} (hb0 : 0 ≤ b) (hbK : b < (K : Int)) : ∀ (d : Nat) (x : Int) (p : Int) (h0 : 0 ≤ p) (h1 : p ≤ (n : Int)) (hd : (n : Int) - p < (d : Int)), am_E ac_X0_countThrough (4, [vR o, vI b, vI x, vI p], [], aq_h m s F c) (aq_P m s F c aq_vi)
  | 0, x, p, h0, h1, hd => by exfalso; omega
  | d + 1, x, p, h0, h1, hd => by
    obtain ⟨hm, hn1, hn4, hK, hFo, hFd, hFs⟩ := hB
    obtain ⟨hPg, hPr, hPt⟩ := hP
    refine am_E.go (t2 := (5, [vR o, vI b, vI x, vI p], [vI p], aq_h m s F c)) rfl rfl ?_
    refine am_E.go (t2 := (6, [vR o, vI b, vI x, vI p], [vR o, vI p], aq_h m s F c)) rfl rfl ?_
    refine aq_gf (v := vI (n : Int)) rfl (by omega) hFo (by decide) rfl ?_
    show am_E _ (9, [vR o, vI b, vI x, vI p], [vI (n : Int), vI p], aq_h m s F c) _
    refine ae_icmp rfl (fun (q_1 : (n : Int) ≤ p) => ?_) (fun (q_1 : p < (n : Int)) => ?_)
    · refine am_E.go (t2 := (42, [vR o, vI b, vI x, vI p], [vI x], aq_h m s F c)) rfl rfl ?_
      refine am_E.ret rfl rfl ?_
      exact ⟨rfl, _, rfl⟩
    · refine am_E.go (t2 := (13, [vR o, vI b, vI x, vI p], [vI x], aq_h m s F c)) rfl rfl ?_
      refine am_E.go (t2 := (14, [vR o, vI b, vI x, vI p], [vR o, vI x], aq_h m s F c)) rfl rfl ?_
      refine aq_gf (v := vR (o + 1)) rfl (by omega) hFo (by decide) rfl ?_
      show am_E _ (17, [vR o, vI b, vI x, vI p], [vR (o + 1), vI x], aq_h m s F c) _
      refine am_E.go (t2 := (18, [vR o, vI b, vI x, vI p], [vI b, vR (o + 1), vI x], aq_h m s F c)) rfl rfl ?_
      refine aq_al (ok := fun k => decide (3 ≤ k) && decide (k < 7)) (v := vR (o + 2 + b.toNat)) rfl rfl (by omega) hPg rfl (by omega) (by omega) (aq_gi (by omega)) ?_
      show am_E _ (19, [vR o, vI b, vI x, vI p], [vR (o + 2 + b.toNat), vI x], aq_h m s F c) _
      refine am_E.go (t2 := (20, [vR o, vI b, vI x, vI p], [vI p, vR (o + 2 + b.toNat), vI x], aq_h m s F c)) rfl rfl ?_
      refine aq_alt (ok := fun k => k == 0) rfl rfl (by omega) (hPr _ (by omega)) rfl (by omega) (by omega) ?_
      show am_E _ (21, [vR o, vI b, vI x, vI p], [vI (tP ((b.toNat : Nat) : Int) p), vI x], aq_h m s F c) _
      have f_2 := hPt ((b.toNat : Nat) : Int) p (by omega) (by omega) (by omega) (by omega)
      refine am_E.go (t2 := (22, [vR o, vI b, vI x, vI p], [vR o, vI (tP ((b.toNat : Nat) : Int) p), vI x], aq_h m s F c)) rfl rfl ?_
      refine aq_gf (v := vI (n : Int)) rfl (by omega) hFo (by decide) rfl ?_
      show am_E _ (25, [vR o, vI b, vI x, vI p], [vI (n : Int), vI (tP ((b.toNat : Nat) : Int) p), vI x], aq_h m s F c) _
      refine ae_icmp rfl (fun (q_3 : (tP ((b.toNat : Nat) : Int) p) < (n : Int)) => ?_) (fun (q_3 : (n : Int) ≤ (tP ((b.toNat : Nat) : Int) p)) => ?_)
      · refine am_E.go (t2 := (33, [vR o, vI b, vI x, vI p], [vI 0, vI x], aq_h m s F c)) rfl rfl ?_
        refine am_E.go (t2 := (34, [vR o, vI b, vI x, vI p], [vI (am_w (x + 0))], aq_h m s F c)) rfl rfl ?_
        refine am_E.go (t2 := (35, [vR o, vI b, vI (am_w (x + 0)), vI p], [], aq_h m s F c)) rfl rfl ?_
        refine ae_iinc rfl rfl (am_ri (by omega) (by omega)) ?_
        show am_E _ (38, [vR o, vI b, vI (am_w (x + 0)), vI (p + 1)], [], aq_h m s F c) _
        refine am_E.go (t2 := (4, [vR o, vI b, vI (am_w (x + 0)), vI (p + 1)], [], aq_h m s F c)) rfl rfl ?_
        exact qn_countThrough_l ⟨hm, hn1, hn4, hK, hFo, hFd, hFs⟩ ⟨hPg, hPr, hPt⟩ hb0 hbK d (am_w (x + 0)) (p + 1) (by omega) (by omega) (by omega)
      · refine am_E.go (t2 := (29, [vR o, vI b, vI x, vI p], [vI 1, vI x], aq_h m s F c)) rfl rfl ?_
        refine am_E.go (t2 := (33, [vR o, vI b, vI x, vI p], [vI 1, vI x], aq_h m s F c)) rfl rfl ?_
        refine am_E.go (t2 := (34, [vR o, vI b, vI x, vI p], [vI (am_w (x + 1))], aq_h m s F c)) rfl rfl ?_
        refine am_E.go (t2 := (35, [vR o, vI b, vI (am_w (x + 1)), vI p], [], aq_h m s F c)) rfl rfl ?_
        refine ae_iinc rfl rfl (am_ri (by omega) (by omega)) ?_
        show am_E _ (38, [vR o, vI b, vI (am_w (x + 1)), vI (p + 1)], [], aq_h m s F c) _
        refine am_E.go (t2 := (4, [vR o, vI b, vI (am_w (x + 1)), vI (p + 1)], [], aq_h m s F c)) rfl rfl ?_
        exact qn_countThrough_l ⟨hm, hn1, hn4, hK, hFo, hFd, hFs⟩ ⟨hPg, hPr, hPt⟩ hb0 hbK d (am_w (x + 1)) (p + 1) (by omega) (by omega) (by omega)

theorem qn_X0_countThrough {m s : Nat} {F : aq_F} {c : aq_C} {o n K : Nat} (hB : bx_0 m F o n K) {tP : Int → Int → Int} (hP : bx_p F o n K tP) {b : Int} (hb0 : 0 ≤ b) (hbK : b < (K : Int)) : am_E ac_X0_countThrough (0, [vR o, vI b, vU, vU], [], aq_h m s F c) (aq_P m s F c aq_vi) := by
  obtain ⟨hm, hn1, hn4, hK, hFo, hFd, hFs⟩ := hB
  obtain ⟨hPg, hPr, hPt⟩ := hP
  refine am_E.go (t2 := (1, [vR o, vI b, vU, vU], [vI 0], aq_h m s F c)) rfl rfl ?_
  refine am_E.go (t2 := (2, [vR o, vI b, vI 0, vU], [], aq_h m s F c)) rfl rfl ?_
  refine am_E.go (t2 := (3, [vR o, vI b, vI 0, vU], [vI 0], aq_h m s F c)) rfl rfl ?_
  refine am_E.go (t2 := (4, [vR o, vI b, vI 0, vI 0], [], aq_h m s F c)) rfl rfl ?_
  exact qn_countThrough_l ⟨hm, hn1, hn4, hK, hFo, hFd, hFs⟩ ⟨hPg, hPr, hPt⟩ hb0 hbK 9 0 0 (by omega) (by omega) (by omega)

/-- numberOf: free partners passed over; the number -/
def nu_p (f : Int → Int) (p : Int) : Nat → Int → Int → Int
  | 0, _, a => a
  | d + 1, q, a => if q < f p then nu_p f p d (q + 1) (am_w (a + if p < f q then 1 else 0)) else a
def nu_o (f : Int → Int) (N : Int) : Nat → Int → Int → Int → Int
  | 0, _, x, _ => x
  | d + 1, p, x, ch => if p < N then (if p < f p then nu_o f N d (p + 1) (am_w (am_w (x * ch) + nu_p f p 9 (p + 1) 0)) (am_w (ch + -2)) else nu_o f N d (p + 1) x ch) else x

theorem qn_numberOf_in {m s : Nat} {F : aq_F} {c : aq_C} {o n K : Nat} (hB : bx_0 m F o n K) (hr : aq_rg (o + 6 + 3 * K) (2 * (n : Int)) 0 (2 * (n : Int)) c) {T : Int} {T2 : Int} : ∀ (d : Nat) (x : Int) (ch : Int) (p : Int) (a : Int) (q : Int) (h0 : 0 ≤ p) (h1 : p < 2 * (n : Int)) (h2 : 0 ≤ q) (ha : nu_p (c (o + 6 + 3 * K)) p d q a = T2) (hd : max 0 (2 * (n : Int) - q) < (d : Int)) (K0 : ∀ (a2 : Int) (q2 : Int) (ht : a2 = T2), am_E ac_X0_numberOf (73, [vR o, vR (o + 6 + 3 * K), vI x, vI ch, vI p, vI a2, vI q2], [], aq_h m s F c) (aq_P m s F c (fun r => r = some (vI T)))), am_E ac_X0_numberOf (39, [vR o, vR (o + 6 + 3 * K), vI x, vI ch, vI p, vI a, vI q], [], aq_h m s F c) (aq_P m s F c (fun r => r = some (vI T)))
  | 0, x, ch, p, a, q, h0, h1, h2, ha, hd, K0 => by exfalso; omega
  | d + 1, x, ch, p, a, q, h0, h1, h2, ha, hd, K0 => by
    obtain ⟨hm, hn1, hn4, hK, hFo, hFd, hFs⟩ := hB
    refine am_E.go (t2 := (41, [vR o, vR (o + 6 + 3 * K), vI x, vI ch, vI p, vI a, vI q], [vI q], aq_h m s F c)) rfl rfl ?_
    refine am_E.go (t2 := (42, [vR o, vR (o + 6 + 3 * K), vI x, vI ch, vI p, vI a, vI q], [vR (o + 6 + 3 * K), vI q], aq_h m s F c)) rfl rfl ?_
    refine am_E.go (t2 := (44, [vR o, vR (o + 6 + 3 * K), vI x, vI ch, vI p, vI a, vI q], [vI p, vR (o + 6 + 3 * K), vI q], aq_h m s F c)) rfl rfl ?_
    refine aq_al (ok := fun k => k == 0) (v := vI (c (o + 6 + 3 * K) p)) rfl rfl (by omega) hFd rfl (by omega) (by omega) rfl ?_
    show am_E _ (45, [vR o, vR (o + 6 + 3 * K), vI x, vI ch, vI p, vI a, vI q], [vI (c (o + 6 + 3 * K) p), vI q], aq_h m s F c) _
    have f_1 := hr p (by omega) (by omega)
    refine ae_icmp rfl (fun (q_2 : (c (o + 6 + 3 * K) p) ≤ q) => ?_) (fun (q_2 : q < (c (o + 6 + 3 * K) p)) => ?_)
    · exact K0 a q (by rw [← ha, nu_p, if_neg (by omega)])
    · refine am_E.go (t2 := (50, [vR o, vR (o + 6 + 3 * K), vI x, vI ch, vI p, vI a, vI q], [vI a], aq_h m s F c)) rfl rfl ?_
      refine am_E.go (t2 := (51, [vR o, vR (o + 6 + 3 * K), vI x, vI ch, vI p, vI a, vI q], [vR (o + 6 + 3 * K), vI a], aq_h m s F c)) rfl rfl ?_
      refine am_E.go (t2 := (53, [vR o, vR (o + 6 + 3 * K), vI x, vI ch, vI p, vI a, vI q], [vI q, vR (o + 6 + 3 * K), vI a], aq_h m s F c)) rfl rfl ?_
      refine aq_al (ok := fun k => k == 0) (v := vI (c (o + 6 + 3 * K) q)) rfl rfl (by omega) hFd rfl (by omega) (by omega) rfl ?_
      show am_E _ (54, [vR o, vR (o + 6 + 3 * K), vI x, vI ch, vI p, vI a, vI q], [vI (c (o + 6 + 3 * K) q), vI a], aq_h m s F c) _
      have f_3 := hr q (by omega) (by omega)
      refine am_E.go (t2 := (56, [vR o, vR (o + 6 + 3 * K), vI x, vI ch, vI p, vI a, vI q], [vI p, vI (c (o + 6 + 3 * K) q), vI a], aq_h m s F c)) rfl rfl ?_
      refine ae_icmp rfl (fun (q_4 : (c (o + 6 + 3 * K) q) ≤ p) => ?_) (fun (q_4 : p < (c (o + 6 + 3 * K) q)) => ?_)
      · refine am_E.go (t2 := (64, [vR o, vR (o + 6 + 3 * K), vI x, vI ch, vI p, vI a, vI q], [vI 0, vI a], aq_h m s F c)) rfl rfl ?_
        refine am_E.go (t2 := (65, [vR o, vR (o + 6 + 3 * K), vI x, vI ch, vI p, vI a, vI q], [vI (am_w (a + 0))], aq_h m s F c)) rfl rfl ?_
        refine am_E.go (t2 := (67, [vR o, vR (o + 6 + 3 * K), vI x, vI ch, vI p, vI (am_w (a + 0)), vI q], [], aq_h m s F c)) rfl rfl ?_
        refine ae_iinc rfl rfl (am_ri (by omega) (by omega)) ?_
        show am_E _ (70, [vR o, vR (o + 6 + 3 * K), vI x, vI ch, vI p, vI (am_w (a + 0)), vI (q + 1)], [], aq_h m s F c) _
        refine am_E.go (t2 := (39, [vR o, vR (o + 6 + 3 * K), vI x, vI ch, vI p, vI (am_w (a + 0)), vI (q + 1)], [], aq_h m s F c)) rfl rfl ?_
        exact qn_numberOf_in ⟨hm, hn1, hn4, hK, hFo, hFd, hFs⟩ hr d x ch p (am_w (a + 0)) (q + 1) (by omega) (by omega) (by omega) (by rw [← ha, nu_p, if_pos (by omega)]; first | rw [if_pos (by omega)] | rw [if_neg (by omega)]) (by omega) K0
      · refine am_E.go (t2 := (60, [vR o, vR (o + 6 + 3 * K), vI x, vI ch, vI p, vI a, vI q], [vI 1, vI a], aq_h m s F c)) rfl rfl ?_
        refine am_E.go (t2 := (64, [vR o, vR (o + 6 + 3 * K), vI x, vI ch, vI p, vI a, vI q], [vI 1, vI a], aq_h m s F c)) rfl rfl ?_
        refine am_E.go (t2 := (65, [vR o, vR (o + 6 + 3 * K), vI x, vI ch, vI p, vI a, vI q], [vI (am_w (a + 1))], aq_h m s F c)) rfl rfl ?_
        refine am_E.go (t2 := (67, [vR o, vR (o + 6 + 3 * K), vI x, vI ch, vI p, vI (am_w (a + 1)), vI q], [], aq_h m s F c)) rfl rfl ?_
        refine ae_iinc rfl rfl (am_ri (by omega) (by omega)) ?_
        show am_E _ (70, [vR o, vR (o + 6 + 3 * K), vI x, vI ch, vI p, vI (am_w (a + 1)), vI (q + 1)], [], aq_h m s F c) _
        refine am_E.go (t2 := (39, [vR o, vR (o + 6 + 3 * K), vI x, vI ch, vI p, vI (am_w (a + 1)), vI (q + 1)], [], aq_h m s F c)) rfl rfl ?_
        exact qn_numberOf_in ⟨hm, hn1, hn4, hK, hFo, hFd, hFs⟩ hr d x ch p (am_w (a + 1)) (q + 1) (by omega) (by omega) (by omega) (by rw [← ha, nu_p, if_pos (by omega)]; first | rw [if_pos (by omega)] | rw [if_neg (by omega)]) (by omega) K0

theorem qn_numberOf_out {m s : Nat} {F : aq_F} {c : aq_C} {o n K : Nat} (hB : bx_0 m F o n K) (hr : aq_rg (o + 6 + 3 * K) (2 * (n : Int)) 0 (2 * (n : Int)) c) {T : Int} : ∀ (d : Nat) (x : Int) (ch : Int) (p : Int) (v5 : am_V) (v6 : am_V) (h0 : 0 ≤ p) (h1 : p ≤ 2 * (n : Int)) (hx : nu_o (c (o + 6 + 3 * K)) (2 * (n : Int)) d p x ch = T) (hd : 2 * (n : Int) - p < (d : Int)), am_E ac_X0_numberOf (12, [vR o, vR (o + 6 + 3 * K), vI x, vI ch, vI p, v5, v6], [], aq_h m s F c) (aq_P m s F c (fun r => r = some (vI T)))
  | 0, x, ch, p, v5, v6, h0, h1, hx, hd => by exfalso; omega
  | d + 1, x, ch, p, v5, v6, h0, h1, hx, hd => by
    obtain ⟨hm, hn1, hn4, hK, hFo, hFd, hFs⟩ := hB
    refine am_E.go (t2 := (14, [vR o, vR (o + 6 + 3 * K), vI x, vI ch, vI p, v5, v6], [vI p], aq_h m s F c)) rfl rfl ?_
    refine am_E.go (t2 := (15, [vR o, vR (o + 6 + 3 * K), vI x, vI ch, vI p, v5, v6], [vR o, vI p], aq_h m s F c)) rfl rfl ?_
    refine aq_gf (v := vI (2 * (n : Int))) rfl (by omega) hFo (by decide) rfl ?_
    show am_E _ (18, [vR o, vR (o + 6 + 3 * K), vI x, vI ch, vI p, v5, v6], [vI (2 * (n : Int)), vI p], aq_h m s F c) _
    refine ae_icmp rfl (fun (q_1 : (2 * (n : Int)) ≤ p) => ?_) (fun (q_1 : p < (2 * (n : Int))) => ?_)
    · refine am_E.go (t2 := (90, [vR o, vR (o + 6 + 3 * K), vI x, vI ch, vI p, v5, v6], [vI x], aq_h m s F c)) rfl rfl ?_
      refine am_E.ret rfl rfl ?_
      refine ⟨rfl, ?_⟩
      rw [← hx, nu_o, if_neg (by omega)]
    · refine am_E.go (t2 := (22, [vR o, vR (o + 6 + 3 * K), vI x, vI ch, vI p, v5, v6], [vR (o + 6 + 3 * K)], aq_h m s F c)) rfl rfl ?_
      refine am_E.go (t2 := (24, [vR o, vR (o + 6 + 3 * K), vI x, vI ch, vI p, v5, v6], [vI p, vR (o + 6 + 3 * K)], aq_h m s F c)) rfl rfl ?_
      refine aq_al (ok := fun k => k == 0) (v := vI (c (o + 6 + 3 * K) p)) rfl rfl (by omega) hFd rfl (by omega) (by omega) rfl ?_
      show am_E _ (25, [vR o, vR (o + 6 + 3 * K), vI x, vI ch, vI p, v5, v6], [vI (c (o + 6 + 3 * K) p)], aq_h m s F c) _
      have f_2 := hr p (by omega) (by omega)
      refine am_E.go (t2 := (27, [vR o, vR (o + 6 + 3 * K), vI x, vI ch, vI p, v5, v6], [vI p, vI (c (o + 6 + 3 * K) p)], aq_h m s F c)) rfl rfl ?_
      refine ae_icmp rfl (fun (q_3 : (c (o + 6 + 3 * K) p) ≤ p) => ?_) (fun (q_3 : p < (c (o + 6 + 3 * K) p)) => ?_)
      · refine ae_iinc rfl rfl (am_ri (by omega) (by omega)) ?_
        show am_E _ (86, [vR o, vR (o + 6 + 3 * K), vI x, vI ch, vI (p + 1), v5, v6], [], aq_h m s F c) _
        refine am_E.go (t2 := (12, [vR o, vR (o + 6 + 3 * K), vI x, vI ch, vI (p + 1), v5, v6], [], aq_h m s F c)) rfl rfl ?_
        exact qn_numberOf_out ⟨hm, hn1, hn4, hK, hFo, hFd, hFs⟩ hr d x ch (p + 1) (v5) (v6) (by omega) (by omega) (by rw [← hx, nu_o, if_pos (by omega)]; first | (rw [if_pos (by omega), ht_39]) | rw [if_neg (by omega)]) (by omega)
      · refine am_E.go (t2 := (31, [vR o, vR (o + 6 + 3 * K), vI x, vI ch, vI p, v5, v6], [vI 0], aq_h m s F c)) rfl rfl ?_
        refine am_E.go (t2 := (33, [vR o, vR (o + 6 + 3 * K), vI x, vI ch, vI p, vI 0, v6], [], aq_h m s F c)) rfl rfl ?_
        refine am_E.go (t2 := (35, [vR o, vR (o + 6 + 3 * K), vI x, vI ch, vI p, vI 0, v6], [vI p], aq_h m s F c)) rfl rfl ?_
        refine am_E.go (t2 := (36, [vR o, vR (o + 6 + 3 * K), vI x, vI ch, vI p, vI 0, v6], [vI 1, vI p], aq_h m s F c)) rfl rfl ?_
        refine ae_add rfl (am_ri (by omega) (by omega)) ?_
        show am_E _ (37, [vR o, vR (o + 6 + 3 * K), vI x, vI ch, vI p, vI 0, v6], [vI (p + 1)], aq_h m s F c) _
        refine am_E.go (t2 := (39, [vR o, vR (o + 6 + 3 * K), vI x, vI ch, vI p, vI 0, vI (p + 1)], [], aq_h m s F c)) rfl rfl ?_
        refine qn_numberOf_in ⟨hm, hn1, hn4, hK, hFo, hFd, hFs⟩ hr 9 x ch p 0 (p + 1) (by omega) (by omega) (by omega) rfl (by omega) ?_
        · intro a2_39 q2_39 ht_39
          refine am_E.go (t2 := (74, [vR o, vR (o + 6 + 3 * K), vI x, vI ch, vI p, vI a2_39, vI q2_39], [vI x], aq_h m s F c)) rfl rfl ?_
          refine am_E.go (t2 := (75, [vR o, vR (o + 6 + 3 * K), vI x, vI ch, vI p, vI a2_39, vI q2_39], [vI ch, vI x], aq_h m s F c)) rfl rfl ?_
          refine am_E.go (t2 := (76, [vR o, vR (o + 6 + 3 * K), vI x, vI ch, vI p, vI a2_39, vI q2_39], [vI (am_w (x * ch))], aq_h m s F c)) rfl rfl ?_
          refine am_E.go (t2 := (78, [vR o, vR (o + 6 + 3 * K), vI x, vI ch, vI p, vI a2_39, vI q2_39], [vI a2_39, vI (am_w (x * ch))], aq_h m s F c)) rfl rfl ?_
          refine am_E.go (t2 := (79, [vR o, vR (o + 6 + 3 * K), vI x, vI ch, vI p, vI a2_39, vI q2_39], [vI (am_w ((am_w (x * ch)) + a2_39))], aq_h m s F c)) rfl rfl ?_
          refine am_E.go (t2 := (80, [vR o, vR (o + 6 + 3 * K), vI (am_w ((am_w (x * ch)) + a2_39)), vI ch, vI p, vI a2_39, vI q2_39], [], aq_h m s F c)) rfl rfl ?_
          refine am_E.go (t2 := (83, [vR o, vR (o + 6 + 3 * K), vI (am_w ((am_w (x * ch)) + a2_39)), vI (am_w (ch + (-2))), vI p, vI a2_39, vI q2_39], [], aq_h m s F c)) rfl rfl ?_
          refine ae_iinc rfl rfl (am_ri (by omega) (by omega)) ?_
          show am_E _ (86, [vR o, vR (o + 6 + 3 * K), vI (am_w ((am_w (x * ch)) + a2_39)), vI (am_w (ch + (-2))), vI (p + 1), vI a2_39, vI q2_39], [], aq_h m s F c) _
          refine am_E.go (t2 := (12, [vR o, vR (o + 6 + 3 * K), vI (am_w ((am_w (x * ch)) + a2_39)), vI (am_w (ch + (-2))), vI (p + 1), vI a2_39, vI q2_39], [], aq_h m s F c)) rfl rfl ?_
          exact qn_numberOf_out ⟨hm, hn1, hn4, hK, hFo, hFd, hFs⟩ hr d (am_w ((am_w (x * ch)) + a2_39)) (am_w (ch + (-2))) (p + 1) (vI a2_39) (vI q2_39) (by omega) (by omega) (by rw [← hx, nu_o, if_pos (by omega)]; first | (rw [if_pos (by omega), ht_39]) | rw [if_neg (by omega)]) (by omega)

theorem qn_X0_numberOf {m s : Nat} {F : aq_F} {c : aq_C} {o n K : Nat} (hB : bx_0 m F o n K) (hr : aq_rg (o + 6 + 3 * K) (2 * (n : Int)) 0 (2 * (n : Int)) c) : am_E ac_X0_numberOf (0, [vR o, vR (o + 6 + 3 * K), vU, vU, vU, vU, vU], [], aq_h m s F c) (aq_P m s F c (fun r => r = some (vI (nu_o (c (o + 6 + 3 * K)) (2 * (n : Int)) 9 0 0 (2 * (n : Int) - 1))))) := by
  obtain ⟨hm, hn1, hn4, hK, hFo, hFd, hFs⟩ := hB
  refine am_E.go (t2 := (1, [vR o, vR (o + 6 + 3 * K), vU, vU, vU, vU, vU], [vI 0], aq_h m s F c)) rfl rfl ?_
  refine am_E.go (t2 := (2, [vR o, vR (o + 6 + 3 * K), vI 0, vU, vU, vU, vU], [], aq_h m s F c)) rfl rfl ?_
  refine am_E.go (t2 := (3, [vR o, vR (o + 6 + 3 * K), vI 0, vU, vU, vU, vU], [vR o], aq_h m s F c)) rfl rfl ?_
  refine aq_gf (v := vI (2 * (n : Int))) rfl (by omega) hFo (by decide) rfl ?_
  show am_E _ (6, [vR o, vR (o + 6 + 3 * K), vI 0, vU, vU, vU, vU], [vI (2 * (n : Int))], aq_h m s F c) _
  refine am_E.go (t2 := (7, [vR o, vR (o + 6 + 3 * K), vI 0, vU, vU, vU, vU], [vI 1, vI (2 * (n : Int))], aq_h m s F c)) rfl rfl ?_
  refine ae_sub rfl (am_ri (by omega) (by omega)) ?_
  show am_E _ (8, [vR o, vR (o + 6 + 3 * K), vI 0, vU, vU, vU, vU], [vI ((2 * (n : Int)) - 1)], aq_h m s F c) _
  refine am_E.go (t2 := (9, [vR o, vR (o + 6 + 3 * K), vI 0, vI ((2 * (n : Int)) - 1), vU, vU, vU], [], aq_h m s F c)) rfl rfl ?_
  refine am_E.go (t2 := (10, [vR o, vR (o + 6 + 3 * K), vI 0, vI ((2 * (n : Int)) - 1), vU, vU, vU], [vI 0], aq_h m s F c)) rfl rfl ?_
  refine am_E.go (t2 := (12, [vR o, vR (o + 6 + 3 * K), vI 0, vI ((2 * (n : Int)) - 1), vI 0, vU, vU], [], aq_h m s F c)) rfl rfl ?_
  exact qn_numberOf_out ⟨hm, hn1, hn4, hK, hFo, hFd, hFs⟩ hr 9 0 ((2 * (n : Int)) - 1) 0 (vU) (vU) (by omega) (by omega) rfl (by omega)

theorem qn_upsideDown_l {m s : Nat} {F : aq_F} {c0 : aq_C} {S : Nat → Prop} {o n K : Nat} (hB : bx_0 m F o n K) (hSd : S (o + 6 + 3 * K)) (hSs : S (o + 7 + 3 * K)) {tP : Int → Int → Int} (hP : bx_p F o n K tP) {b : Int} (hb0 : 0 ≤ b) (hbK : b < (K : Int)) : ∀ (d : Nat) (p : Int) (c : aq_C) (hs : aq_sm S c0 c) (h0 : 0 ≤ p) (h1 : p ≤ 2 * (n : Int)) (hr : aq_rg (o + 6 + 3 * K) (2 * (n : Int)) 0 (2 * (n : Int)) c) (hd : 2 * (n : Int) - p < (d : Int)), am_E ac_X0_upsideDown (2, [vR o, vI b, vI p], [], aq_h m s F c) (aq_Z m s F S c0 (fun r d => aq_vi r ∧ aq_rg (o + 6 + 3 * K) (2 * (n : Int)) 0 (2 * (n : Int)) d))
  | 0, p, c, hs, h0, h1, hr, hd => by exfalso; omega
  | d + 1, p, c, hs, h0, h1, hr, hd => by
    obtain ⟨hm, hn1, hn4, hK, hFo, hFd, hFs⟩ := hB
    obtain ⟨hPg, hPr, hPt⟩ := hP
    refine am_E.go (t2 := (3, [vR o, vI b, vI p], [vI p], aq_h m s F c)) rfl rfl ?_
    refine am_E.go (t2 := (4, [vR o, vI b, vI p], [vR o, vI p], aq_h m s F c)) rfl rfl ?_
    refine aq_gf (v := vI (2 * (n : Int))) rfl (by omega) hFo (by decide) rfl ?_
    show am_E _ (7, [vR o, vI b, vI p], [vI (2 * (n : Int)), vI p], aq_h m s F c) _
    refine ae_icmp rfl (fun (q_1 : (2 * (n : Int)) ≤ p) => ?_) (fun (q_1 : p < (2 * (n : Int))) => ?_)
    · refine am_E.go (t2 := (39, [vR o, vI b, vI p], [vR o], aq_h m s F c)) rfl rfl ?_
      refine am_E.go (t2 := (40, [vR o, vI b, vI p], [vR o, vR o], aq_h m s F c)) rfl rfl ?_
      refine aq_gf (v := vR (o + 6 + 3 * K)) rfl (by omega) hFo (by decide) rfl ?_
      show am_E _ (43, [vR o, vI b, vI p], [vR (o + 6 + 3 * K), vR o], aq_h m s F c) _
      refine aq_callv (y := 2) (as2 := [vR (o + 6 + 3 * K)]) (rest := []) rfl rfl (by decide) (Nat.le_of_ble_eq_true rfl) rfl rfl (Nat.le_of_ble_eq_true rfl) (by omega) hFo rfl (Nat.le_of_ble_eq_true rfl) (qn_X0_numberOf ⟨hm, hn1, hn4, hK, hFo, hFd, hFs⟩ hr) ?_
      rintro r5 h5 ⟨rfl, rfl⟩
      show am_E _ (46, [vR o, vI b, vI p], [vI (nu_o (c (o + 6 + 3 * K)) (2 * (n : Int)) 9 0 0 (2 * (n : Int) - 1))], aq_h m s F c) _
      refine am_E.ret rfl rfl ?_
      exact ⟨_, rfl, hs, ⟨_, rfl⟩, hr⟩
    · refine am_E.go (t2 := (11, [vR o, vI b, vI p], [vR o], aq_h m s F c)) rfl rfl ?_
      refine aq_gf (v := vR (o + 6 + 3 * K)) rfl (by omega) hFo (by decide) rfl ?_
      show am_E _ (14, [vR o, vI b, vI p], [vR (o + 6 + 3 * K)], aq_h m s F c) _
      refine am_E.go (t2 := (15, [vR o, vI b, vI p], [vR o, vR (o + 6 + 3 * K)], aq_h m s F c)) rfl rfl ?_
      refine am_E.go (t2 := (16, [vR o, vI b, vI p], [vI p, vR o, vR (o + 6 + 3 * K)], aq_h m s F c)) rfl rfl ?_
      refine aq_callv (y := 2) (as2 := [vI p]) (rest := [vR (o + 6 + 3 * K)]) rfl rfl (by decide) (Nat.le_of_ble_eq_true rfl) rfl rfl (Nat.le_of_ble_eq_true rfl) (by omega) hFo rfl (Nat.le_of_ble_eq_true rfl) (qn_X0_across ⟨hm, hn1, hn4, hK, hFo, hFd, hFs⟩ (by omega) (by omega)) ?_
      rintro r5 h5 ⟨rfl, v_2, rfl, hv_2⟩
      show am_E _ (19, [vR o, vI b, vI p], [vI v_2, vR (o + 6 + 3 * K)], aq_h m s F c) _
      refine am_E.go (t2 := (20, [vR o, vI b, vI p], [vR o, vI v_2, vR (o + 6 + 3 * K)], aq_h m s F c)) rfl rfl ?_
      refine am_E.go (t2 := (21, [vR o, vI b, vI p], [vR o, vR o, vI v_2, vR (o + 6 + 3 * K)], aq_h m s F c)) rfl rfl ?_
      refine aq_gf (v := vR (o + 1)) rfl (by omega) hFo (by decide) rfl ?_
      show am_E _ (24, [vR o, vI b, vI p], [vR (o + 1), vR o, vI v_2, vR (o + 6 + 3 * K)], aq_h m s F c) _
      refine am_E.go (t2 := (25, [vR o, vI b, vI p], [vI b, vR (o + 1), vR o, vI v_2, vR (o + 6 + 3 * K)], aq_h m s F c)) rfl rfl ?_
      refine aq_al (ok := fun k => decide (3 ≤ k) && decide (k < 7)) (v := vR (o + 2 + b.toNat)) rfl rfl (by omega) hPg rfl (by omega) (by omega) (aq_gi (by omega)) ?_
      show am_E _ (26, [vR o, vI b, vI p], [vR (o + 2 + b.toNat), vR o, vI v_2, vR (o + 6 + 3 * K)], aq_h m s F c) _
      refine am_E.go (t2 := (27, [vR o, vI b, vI p], [vI p, vR (o + 2 + b.toNat), vR o, vI v_2, vR (o + 6 + 3 * K)], aq_h m s F c)) rfl rfl ?_
      refine aq_alt (ok := fun k => k == 0) rfl rfl (by omega) (hPr _ (by omega)) rfl (by omega) (by omega) ?_
      show am_E _ (28, [vR o, vI b, vI p], [vI (tP ((b.toNat : Nat) : Int) p), vR o, vI v_2, vR (o + 6 + 3 * K)], aq_h m s F c) _
      have f_3 := hPt ((b.toNat : Nat) : Int) p (by omega) (by omega) (by omega) (by omega)
      refine aq_callv (y := 2) (as2 := [vI (tP ((b.toNat : Nat) : Int) p)]) (rest := [vI v_2, vR (o + 6 + 3 * K)]) rfl rfl (by decide) (Nat.le_of_ble_eq_true rfl) rfl rfl (Nat.le_of_ble_eq_true rfl) (by omega) hFo rfl (Nat.le_of_ble_eq_true rfl) (qn_X0_across ⟨hm, hn1, hn4, hK, hFo, hFd, hFs⟩ (by omega) (by omega)) ?_
      rintro r5 h5 ⟨rfl, v_4, rfl, hv_4⟩
      show am_E _ (31, [vR o, vI b, vI p], [vI v_4, vI v_2, vR (o + 6 + 3 * K)], aq_h m s F c) _
      refine aq_as (kd := 0) rfl rfl (by omega) hFd (by omega) (by omega) rfl rfl ?_
      show am_E _ (32, [vR o, vI b, vI p], [], aq_h m s F (aq_u c (o + 6 + 3 * K) v_2 v_4)) _
      generalize hdc_5 : aq_u c (o + 6 + 3 * K) v_2 v_4 = c_5
      have sc_5 := aq_smu hs hdc_5 hSd
      have hdrc_5 := aq_rgu hr hdc_5 (by omega) (by omega)
      refine ae_iinc rfl rfl (am_ri (by omega) (by omega)) ?_
      show am_E _ (35, [vR o, vI b, vI (p + 1)], [], aq_h m s F c_5) _
      refine am_E.go (t2 := (2, [vR o, vI b, vI (p + 1)], [], aq_h m s F c_5)) rfl rfl ?_
      exact qn_upsideDown_l ⟨hm, hn1, hn4, hK, hFo, hFd, hFs⟩ hSd hSs ⟨hPg, hPr, hPt⟩ hb0 hbK d (p + 1) c_5 sc_5 (by omega) (by omega) hdrc_5 (by omega)

theorem qn_X0_upsideDown {m s : Nat} {F : aq_F} {c : aq_C} {S : Nat → Prop} {o n K : Nat} (hB : bx_0 m F o n K) (hSd : S (o + 6 + 3 * K)) (hSs : S (o + 7 + 3 * K)) {tP : Int → Int → Int} (hP : bx_p F o n K tP) {b : Int} (hb0 : 0 ≤ b) (hbK : b < (K : Int)) (hr : aq_rg (o + 6 + 3 * K) (2 * (n : Int)) 0 (2 * (n : Int)) c) : am_E ac_X0_upsideDown (0, [vR o, vI b, vU], [], aq_h m s F c) (aq_Z m s F S c (fun r d => aq_vi r ∧ aq_rg (o + 6 + 3 * K) (2 * (n : Int)) 0 (2 * (n : Int)) d)) := by
  obtain ⟨hm, hn1, hn4, hK, hFo, hFd, hFs⟩ := hB
  obtain ⟨hPg, hPr, hPt⟩ := hP
  refine am_E.go (t2 := (1, [vR o, vI b, vU], [vI 0], aq_h m s F c)) rfl rfl ?_
  refine am_E.go (t2 := (2, [vR o, vI b, vI 0], [], aq_h m s F c)) rfl rfl ?_
  exact qn_upsideDown_l ⟨hm, hn1, hn4, hK, hFo, hFd, hFs⟩ hSd hSs ⟨hPg, hPr, hPt⟩ hb0 hbK 9 0 c aq_sm0 (by omega) (by omega) hr (by omega)
