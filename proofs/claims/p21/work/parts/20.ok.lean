/-! The tables hold. -/
theorem okc_all : ∀ j, j < 153 → ck_c j
  | 0, _ => okc_0
  | 1, _ => okc_1
  | 2, _ => okc_2
  | 3, _ => okc_3
  | 4, _ => okc_4
  | 5, _ => okc_5
  | 6, _ => okc_6
  | 7, _ => okc_7
  | 8, _ => okc_8
  | 9, _ => okc_9
  | 10, _ => okc_10
  | 11, _ => okc_11
  | 12, _ => okc_12
  | 13, _ => okc_13
  | 14, _ => okc_14
  | 15, _ => okc_15
  | 16, _ => okc_16
  | 17, _ => okc_17
  | 18, _ => okc_18
  | 19, _ => okc_19
  | 20, _ => okc_20
  | 21, _ => okc_21
  | 22, _ => okc_22
  | 23, _ => okc_23
  | 24, _ => okc_24
  | 25, _ => okc_25
  | 26, _ => okc_26
  | 27, _ => okc_27
  | 28, _ => okc_28
  | 29, _ => okc_29
  | 30, _ => okc_30
  | 31, _ => okc_31
  | 32, _ => okc_32
  | 33, _ => okc_33
  | 34, _ => okc_34
  | 35, _ => okc_35
  | 36, _ => okc_36
  | 37, _ => okc_37
  | 38, _ => okc_38
  | 39, _ => okc_39
  | 40, _ => okc_40
  | 41, _ => okc_41
  | 42, _ => okc_42
  | 43, _ => okc_43
  | 44, _ => okc_44
  | 45, _ => okc_45
  | 46, _ => okc_46
  | 47, _ => okc_47
  | 48, _ => okc_48
  | 49, _ => okc_49
  | 50, _ => okc_50
  | 51, _ => okc_51
  | 52, _ => okc_52
  | 53, _ => okc_53
  | 54, _ => okc_54
  | 55, _ => okc_55
  | 56, _ => okc_56
  | 57, _ => okc_57
  | 58, _ => okc_58
  | 59, _ => okc_59
  | 60, _ => okc_60
  | 61, _ => okc_61
  | 62, _ => okc_62
  | 63, _ => okc_63
  | 64, _ => okc_64
  | 65, _ => okc_65
  | 66, _ => okc_66
  | 67, _ => okc_67
  | 68, _ => okc_68
  | 69, _ => okc_69
  | 70, _ => okc_70
  | 71, _ => okc_71
  | 72, _ => okc_72
  | 73, _ => okc_73
  | 74, _ => okc_74
  | 75, _ => okc_75
  | 76, _ => okc_76
  | 77, _ => okc_77
  | 78, _ => okc_78
  | 79, _ => okc_79
  | 80, _ => okc_80
  | 81, _ => okc_81
  | 82, _ => okc_82
  | 83, _ => okc_83
  | 84, _ => okc_84
  | 85, _ => okc_85
  | 86, _ => okc_86
  | 87, _ => okc_87
  | 88, _ => okc_88
  | 89, _ => okc_89
  | 90, _ => okc_90
  | 91, _ => okc_91
  | 92, _ => okc_92
  | 93, _ => okc_93
  | 94, _ => okc_94
  | 95, _ => okc_95
  | 96, _ => okc_96
  | 97, _ => okc_97
  | 98, _ => okc_98
  | 99, _ => okc_99
  | 100, _ => okc_100
  | 101, _ => okc_101
  | 102, _ => okc_102
  | 103, _ => okc_103
  | 104, _ => okc_104
  | 105, _ => okc_105
  | 106, _ => okc_106
  | 107, _ => okc_107
  | 108, _ => okc_108
  | 109, _ => okc_109
  | 110, _ => okc_110
  | 111, _ => okc_111
  | 112, _ => okc_112
  | 113, _ => okc_113
  | 114, _ => okc_114
  | 115, _ => okc_115
  | 116, _ => okc_116
  | 117, _ => okc_117
  | 118, _ => okc_118
  | 119, _ => okc_119
  | 120, _ => okc_120
  | 121, _ => okc_121
  | 122, _ => okc_122
  | 123, _ => okc_123
  | 124, _ => okc_124
  | 125, _ => okc_125
  | 126, _ => okc_126
  | 127, _ => okc_127
  | 128, _ => okc_128
  | 129, _ => okc_129
  | 130, _ => okc_130
  | 131, _ => okc_131
  | 132, _ => okc_132
  | 133, _ => okc_133
  | 134, _ => okc_134
  | 135, _ => okc_135
  | 136, _ => okc_136
  | 137, _ => okc_137
  | 138, _ => okc_138
  | 139, _ => okc_139
  | 140, _ => okc_140
  | 141, _ => okc_141
  | 142, _ => okc_142
  | 143, _ => okc_143
  | 144, _ => okc_144
  | 145, _ => okc_145
  | 146, _ => okc_146
  | 147, _ => okc_147
  | 148, _ => okc_148
  | 149, _ => okc_149
  | 150, _ => okc_150
  | 151, _ => okc_151
  | 152, _ => okc_152
  | j + 153, h => absurd h (by omega)
theorem okm_all : ∀ j, j < 153 → ck_m j = true := by
  intro j hj
  by_cases q0 : j < 9
  · exact List.all_eq_true.mp okm_0 j (List.mem_range'_1.mpr (by omega))
  by_cases q9 : j < 18
  · exact List.all_eq_true.mp okm_9 j (List.mem_range'_1.mpr (by omega))
  by_cases q18 : j < 27
  · exact List.all_eq_true.mp okm_18 j (List.mem_range'_1.mpr (by omega))
  by_cases q27 : j < 36
  · exact List.all_eq_true.mp okm_27 j (List.mem_range'_1.mpr (by omega))
  by_cases q36 : j < 45
  · exact List.all_eq_true.mp okm_36 j (List.mem_range'_1.mpr (by omega))
  by_cases q45 : j < 54
  · exact List.all_eq_true.mp okm_45 j (List.mem_range'_1.mpr (by omega))
  by_cases q54 : j < 63
  · exact List.all_eq_true.mp okm_54 j (List.mem_range'_1.mpr (by omega))
  by_cases q63 : j < 72
  · exact List.all_eq_true.mp okm_63 j (List.mem_range'_1.mpr (by omega))
  by_cases q72 : j < 81
  · exact List.all_eq_true.mp okm_72 j (List.mem_range'_1.mpr (by omega))
  by_cases q81 : j < 90
  · exact List.all_eq_true.mp okm_81 j (List.mem_range'_1.mpr (by omega))
  by_cases q90 : j < 99
  · exact List.all_eq_true.mp okm_90 j (List.mem_range'_1.mpr (by omega))
  by_cases q99 : j < 108
  · exact List.all_eq_true.mp okm_99 j (List.mem_range'_1.mpr (by omega))
  by_cases q108 : j < 117
  · exact List.all_eq_true.mp okm_108 j (List.mem_range'_1.mpr (by omega))
  by_cases q117 : j < 126
  · exact List.all_eq_true.mp okm_117 j (List.mem_range'_1.mpr (by omega))
  by_cases q126 : j < 135
  · exact List.all_eq_true.mp okm_126 j (List.mem_range'_1.mpr (by omega))
  by_cases q135 : j < 144
  · exact List.all_eq_true.mp okm_135 j (List.mem_range'_1.mpr (by omega))
  exact List.all_eq_true.mp okm_144 j (List.mem_range'_1.mpr (by omega))
theorem okj_all : ∀ j, j < 153 → ck_j j = true := by
  intro j hj
  by_cases q0 : j < 3
  · exact List.all_eq_true.mp okj_0 j (List.mem_range'_1.mpr (by omega))
  by_cases q3 : j < 6
  · exact List.all_eq_true.mp okj_3 j (List.mem_range'_1.mpr (by omega))
  by_cases q6 : j < 9
  · exact List.all_eq_true.mp okj_6 j (List.mem_range'_1.mpr (by omega))
  by_cases q9 : j < 12
  · exact List.all_eq_true.mp okj_9 j (List.mem_range'_1.mpr (by omega))
  by_cases q12 : j < 15
  · exact List.all_eq_true.mp okj_12 j (List.mem_range'_1.mpr (by omega))
  by_cases q15 : j < 18
  · exact List.all_eq_true.mp okj_15 j (List.mem_range'_1.mpr (by omega))
  by_cases q18 : j < 21
  · exact List.all_eq_true.mp okj_18 j (List.mem_range'_1.mpr (by omega))
  by_cases q21 : j < 24
  · exact List.all_eq_true.mp okj_21 j (List.mem_range'_1.mpr (by omega))
  by_cases q24 : j < 27
  · exact List.all_eq_true.mp okj_24 j (List.mem_range'_1.mpr (by omega))
  by_cases q27 : j < 30
  · exact List.all_eq_true.mp okj_27 j (List.mem_range'_1.mpr (by omega))
  by_cases q30 : j < 33
  · exact List.all_eq_true.mp okj_30 j (List.mem_range'_1.mpr (by omega))
  by_cases q33 : j < 36
  · exact List.all_eq_true.mp okj_33 j (List.mem_range'_1.mpr (by omega))
  by_cases q36 : j < 39
  · exact List.all_eq_true.mp okj_36 j (List.mem_range'_1.mpr (by omega))
  by_cases q39 : j < 42
  · exact List.all_eq_true.mp okj_39 j (List.mem_range'_1.mpr (by omega))
  by_cases q42 : j < 45
  · exact List.all_eq_true.mp okj_42 j (List.mem_range'_1.mpr (by omega))
  by_cases q45 : j < 48
  · exact List.all_eq_true.mp okj_45 j (List.mem_range'_1.mpr (by omega))
  by_cases q48 : j < 51
  · exact List.all_eq_true.mp okj_48 j (List.mem_range'_1.mpr (by omega))
  by_cases q51 : j < 54
  · exact List.all_eq_true.mp okj_51 j (List.mem_range'_1.mpr (by omega))
  by_cases q54 : j < 57
  · exact List.all_eq_true.mp okj_54 j (List.mem_range'_1.mpr (by omega))
  by_cases q57 : j < 60
  · exact List.all_eq_true.mp okj_57 j (List.mem_range'_1.mpr (by omega))
  by_cases q60 : j < 63
  · exact List.all_eq_true.mp okj_60 j (List.mem_range'_1.mpr (by omega))
  by_cases q63 : j < 66
  · exact List.all_eq_true.mp okj_63 j (List.mem_range'_1.mpr (by omega))
  by_cases q66 : j < 69
  · exact List.all_eq_true.mp okj_66 j (List.mem_range'_1.mpr (by omega))
  by_cases q69 : j < 72
  · exact List.all_eq_true.mp okj_69 j (List.mem_range'_1.mpr (by omega))
  by_cases q72 : j < 75
  · exact List.all_eq_true.mp okj_72 j (List.mem_range'_1.mpr (by omega))
  by_cases q75 : j < 78
  · exact List.all_eq_true.mp okj_75 j (List.mem_range'_1.mpr (by omega))
  by_cases q78 : j < 81
  · exact List.all_eq_true.mp okj_78 j (List.mem_range'_1.mpr (by omega))
  by_cases q81 : j < 84
  · exact List.all_eq_true.mp okj_81 j (List.mem_range'_1.mpr (by omega))
  by_cases q84 : j < 87
  · exact List.all_eq_true.mp okj_84 j (List.mem_range'_1.mpr (by omega))
  by_cases q87 : j < 90
  · exact List.all_eq_true.mp okj_87 j (List.mem_range'_1.mpr (by omega))
  by_cases q90 : j < 93
  · exact List.all_eq_true.mp okj_90 j (List.mem_range'_1.mpr (by omega))
  by_cases q93 : j < 96
  · exact List.all_eq_true.mp okj_93 j (List.mem_range'_1.mpr (by omega))
  by_cases q96 : j < 99
  · exact List.all_eq_true.mp okj_96 j (List.mem_range'_1.mpr (by omega))
  by_cases q99 : j < 102
  · exact List.all_eq_true.mp okj_99 j (List.mem_range'_1.mpr (by omega))
  by_cases q102 : j < 105
  · exact List.all_eq_true.mp okj_102 j (List.mem_range'_1.mpr (by omega))
  by_cases q105 : j < 108
  · exact List.all_eq_true.mp okj_105 j (List.mem_range'_1.mpr (by omega))
  by_cases q108 : j < 111
  · exact List.all_eq_true.mp okj_108 j (List.mem_range'_1.mpr (by omega))
  by_cases q111 : j < 114
  · exact List.all_eq_true.mp okj_111 j (List.mem_range'_1.mpr (by omega))
  by_cases q114 : j < 117
  · exact List.all_eq_true.mp okj_114 j (List.mem_range'_1.mpr (by omega))
  by_cases q117 : j < 120
  · exact List.all_eq_true.mp okj_117 j (List.mem_range'_1.mpr (by omega))
  by_cases q120 : j < 123
  · exact List.all_eq_true.mp okj_120 j (List.mem_range'_1.mpr (by omega))
  by_cases q123 : j < 126
  · exact List.all_eq_true.mp okj_123 j (List.mem_range'_1.mpr (by omega))
  by_cases q126 : j < 129
  · exact List.all_eq_true.mp okj_126 j (List.mem_range'_1.mpr (by omega))
  by_cases q129 : j < 132
  · exact List.all_eq_true.mp okj_129 j (List.mem_range'_1.mpr (by omega))
  by_cases q132 : j < 135
  · exact List.all_eq_true.mp okj_132 j (List.mem_range'_1.mpr (by omega))
  by_cases q135 : j < 138
  · exact List.all_eq_true.mp okj_135 j (List.mem_range'_1.mpr (by omega))
  by_cases q138 : j < 141
  · exact List.all_eq_true.mp okj_138 j (List.mem_range'_1.mpr (by omega))
  by_cases q141 : j < 144
  · exact List.all_eq_true.mp okj_141 j (List.mem_range'_1.mpr (by omega))
  by_cases q144 : j < 147
  · exact List.all_eq_true.mp okj_144 j (List.mem_range'_1.mpr (by omega))
  by_cases q147 : j < 150
  · exact List.all_eq_true.mp okj_147 j (List.mem_range'_1.mpr (by omega))
  exact List.all_eq_true.mp okj_150 j (List.mem_range'_1.mpr (by omega))
theorem ax_m153 : am_m153 := by
  intro j C mL N hj hN
  have hlt : j < 153 := (List.getElem?_eq_some_iff.mp hj).1
  have h := okm_all j hlt
  unfold ck_m at h
  rw [hj, hN] at h
  simp only [Bool.and_eq_true, decide_eq_true_eq] at h
  exact ⟨List.mem_filter.mpr ⟨okc_all j hlt C mL N hj hN, rfl⟩, ck_w_ok h.1, h.2.1, h.2.2.1, h.2.2.2⟩
set_option maxRecDepth 1000000 in
theorem ax_u0 : (u_ws RX0 TX0 11).all (fun w => decide (w ∈ lw_tbl) && goodWord w) = true := by decide +kernel
theorem ax_k0 : ∀ k, k < 11 → am_tk (ac_ft 0 k) (tyX0 k) = true := by decide +kernel
set_option maxRecDepth 1000000 in
theorem ax_u1 : (u_ws RX1 TX1 5).all (fun w => decide (w ∈ lw_tbl) && goodWord w) = true := by decide +kernel
theorem ax_k1 : ∀ k, k < 5 → am_tk (ac_ft 1 k) (tyX1 k) = true := by decide +kernel
set_option maxRecDepth 1000000 in
theorem ax_u2 : (u_ws RX2 TX2 7).all (fun w => decide (w ∈ lw_tbl) && goodWord w) = true := by decide +kernel
theorem ax_k2 : ∀ k, k < 7 → am_tk (ac_ft 2 k) (tyX2 k) = true := by decide +kernel
set_option maxRecDepth 1000000 in
theorem ax_u3 : (u_ws RX3 TX3 5).all (fun w => decide (w ∈ lw_tbl) && goodWord w) = true := by decide +kernel
theorem ax_k3 : ∀ k, k < 5 → am_tk (ac_ft 3 k) (tyX3 k) = true := by decide +kernel
set_option maxRecDepth 1000000 in
theorem ax_u4 : (u_ws RX4 TX4 5).all (fun w => decide (w ∈ lw_tbl) && goodWord w) = true := by decide +kernel
theorem ax_k4 : ∀ k, k < 5 → am_tk (ac_ft 4 k) (tyX4 k) = true := by decide +kernel
set_option maxRecDepth 1000000 in
theorem ax_u5 : (u_ws RX5 TX5 27).all (fun w => decide (w ∈ lw_tbl) && goodWord w) = true := by decide +kernel
theorem ax_k5 : ∀ k, k < 27 → am_tk (ac_ft 5 k) (tyX5 k) = true := by decide +kernel
theorem ax_mem {l : List Cond} (h : l.all (fun w => decide (w ∈ lw_tbl) && goodWord w) = true) : ∀ w ∈ l, w ∈ am_Tb := fun w hw => by
  have := List.all_eq_true.mp h w hw
  simp only [Bool.and_eq_true, decide_eq_true_eq] at this
  exact List.mem_filter.mpr this
theorem ax_cl6 : am_cl6 := by
  intro x C T N h
  match x, h with
  | 0, h => cases h; exact ⟨ax_mem ax_u0, tyX0_ok, nmX0, ax_k0⟩
  | 1, h => cases h; exact ⟨ax_mem ax_u1, tyX1_ok, nmX1, ax_k1⟩
  | 2, h => cases h; exact ⟨ax_mem ax_u2, tyX2_ok, nmX2, ax_k2⟩
  | 3, h => cases h; exact ⟨ax_mem ax_u3, tyX3_ok, nmX3, ax_k3⟩
  | 4, h => cases h; exact ⟨ax_mem ax_u4, tyX4_ok, nmX4, ax_k4⟩
  | 5, h => cases h; exact ⟨ax_mem ax_u5, tyX5_ok, nmX5, ax_k5⟩
  | x + 6, h => simp [vwCl] at h
/-- THE CODE TABLES ARE THE BYTES' -/
theorem ax_Ok : am_Ok ac_P ax_N am_Tb := am_Ok_of ax_cl6 ax_m153 okj_all
/-- a run of the small machine over the claim's code is a contract -/
theorem ax_sound {l : Launch} {D : va_G} {ca : Nat → ClassId} (n : Nat) : am_SS ac_P ax_N am_Tb l D ca n := am_sound ax_Ok n
