def ck_m (j : Nat) : Bool := match ac_L[j]?, ax_N[j]? with
  | some M, some N => ck_w ax_in j (.initialized N.1.cls) && (decide (N.1.cls ≠ "java/lang/invoke/MethodHandle") && (decide (N.1.cls ≠ "java/lang/invoke/VarHandle") && plainFor N.1))
  | _, _ => false
/-- the words of the methods' code, by their places -/
def ck_c (j : Nat) : Prop := ∀ (C : am_C) (mL : Nat) (N : am_N), ac_L[j]? = some (C, mL) → ax_N[j]? = some N → Cond.code N.1 N.2.1 mL N.2.2.1 ∈ lw_tbl
set_option maxRecDepth 100000 in
theorem okc_0 : ck_c 0 := fun C mL N h1 h2 => by
  cases h1
  cases h2
  exact List.mem_of_getElem? (i := 131) rfl
set_option maxRecDepth 100000 in
theorem okc_1 : ck_c 1 := fun C mL N h1 h2 => by
  cases h1
  cases h2
  exact List.mem_of_getElem? (i := 135) rfl
set_option maxRecDepth 100000 in
theorem okc_2 : ck_c 2 := fun C mL N h1 h2 => by
  cases h1
  cases h2
  exact List.mem_of_getElem? (i := 141) rfl
set_option maxRecDepth 100000 in
theorem okc_3 : ck_c 3 := fun C mL N h1 h2 => by
  cases h1
  cases h2
  exact List.mem_of_getElem? (i := 145) rfl
set_option maxRecDepth 100000 in
theorem okc_4 : ck_c 4 := fun C mL N h1 h2 => by
  cases h1
  cases h2
  exact List.mem_of_getElem? (i := 153) rfl
set_option maxRecDepth 100000 in
theorem okc_5 : ck_c 5 := fun C mL N h1 h2 => by
  cases h1
  cases h2
  exact List.mem_of_getElem? (i := 160) rfl
set_option maxRecDepth 100000 in
theorem okc_6 : ck_c 6 := fun C mL N h1 h2 => by
  cases h1
  cases h2
  exact List.mem_of_getElem? (i := 188) rfl
set_option maxRecDepth 100000 in
theorem okc_7 : ck_c 7 := fun C mL N h1 h2 => by
  cases h1
  cases h2
  exact List.mem_of_getElem? (i := 327) rfl
set_option maxRecDepth 100000 in
theorem okc_8 : ck_c 8 := fun C mL N h1 h2 => by
  cases h1
  cases h2
  exact List.mem_of_getElem? (i := 331) rfl
set_option maxRecDepth 100000 in
theorem okc_9 : ck_c 9 := fun C mL N h1 h2 => by
  cases h1
  cases h2
  exact List.mem_of_getElem? (i := 339) rfl
set_option maxRecDepth 100000 in
theorem okc_10 : ck_c 10 := fun C mL N h1 h2 => by
  cases h1
  cases h2
  exact List.mem_of_getElem? (i := 335) rfl
set_option maxRecDepth 100000 in
theorem okc_11 : ck_c 11 := fun C mL N h1 h2 => by
  cases h1
  cases h2
  exact List.mem_of_getElem? (i := 356) rfl
set_option maxRecDepth 100000 in
theorem okc_12 : ck_c 12 := fun C mL N h1 h2 => by
  cases h1
  cases h2
  exact List.mem_of_getElem? (i := 360) rfl
set_option maxRecDepth 100000 in
theorem okc_13 : ck_c 13 := fun C mL N h1 h2 => by
  cases h1
  cases h2
  exact List.mem_of_getElem? (i := 168) rfl
set_option maxRecDepth 100000 in
theorem okc_14 : ck_c 14 := fun C mL N h1 h2 => by
  cases h1
  cases h2
  exact List.mem_of_getElem? (i := 164) rfl
set_option maxRecDepth 100000 in
theorem okc_15 : ck_c 15 := fun C mL N h1 h2 => by
  cases h1
  cases h2
  exact List.mem_of_getElem? (i := 149) rfl
set_option maxRecDepth 100000 in
theorem okc_16 : ck_c 16 := fun C mL N h1 h2 => by
  cases h1
  cases h2
  exact List.mem_of_getElem? (i := 172) rfl
set_option maxRecDepth 100000 in
theorem okc_17 : ck_c 17 := fun C mL N h1 h2 => by
  cases h1
  cases h2
  exact List.mem_of_getElem? (i := 176) rfl
set_option maxRecDepth 100000 in
theorem okc_18 : ck_c 18 := fun C mL N h1 h2 => by
  cases h1
  cases h2
  exact List.mem_of_getElem? (i := 184) rfl
set_option maxRecDepth 100000 in
theorem okc_19 : ck_c 19 := fun C mL N h1 h2 => by
  cases h1
  cases h2
  exact List.mem_of_getElem? (i := 180) rfl
set_option maxRecDepth 100000 in
theorem okc_20 : ck_c 20 := fun C mL N h1 h2 => by
  cases h1
  cases h2
  exact List.mem_of_getElem? (i := 156) rfl
set_option maxRecDepth 100000 in
theorem okc_21 : ck_c 21 := fun C mL N h1 h2 => by
  cases h1
  cases h2
  exact List.mem_of_getElem? (i := 376) rfl
set_option maxRecDepth 100000 in
theorem okc_22 : ck_c 22 := fun C mL N h1 h2 => by
  cases h1
  cases h2
  exact List.mem_of_getElem? (i := 192) rfl
set_option maxRecDepth 100000 in
theorem okc_23 : ck_c 23 := fun C mL N h1 h2 => by
  cases h1
  cases h2
  exact List.mem_of_getElem? (i := 196) rfl
set_option maxRecDepth 100000 in
theorem okc_24 : ck_c 24 := fun C mL N h1 h2 => by
  cases h1
  cases h2
  exact List.mem_of_getElem? (i := 200) rfl
set_option maxRecDepth 100000 in
theorem okc_25 : ck_c 25 := fun C mL N h1 h2 => by
  cases h1
  cases h2
  exact List.mem_of_getElem? (i := 204) rfl
set_option maxRecDepth 100000 in
theorem okc_26 : ck_c 26 := fun C mL N h1 h2 => by
  cases h1
  cases h2
  exact List.mem_of_getElem? (i := 208) rfl
set_option maxRecDepth 100000 in
theorem okc_27 : ck_c 27 := fun C mL N h1 h2 => by
  cases h1
  cases h2
  exact List.mem_of_getElem? (i := 389) rfl
set_option maxRecDepth 100000 in
theorem okc_28 : ck_c 28 := fun C mL N h1 h2 => by
  cases h1
  cases h2
  exact List.mem_of_getElem? (i := 368) rfl
set_option maxRecDepth 100000 in
theorem okc_29 : ck_c 29 := fun C mL N h1 h2 => by
  cases h1
  cases h2
  exact List.mem_of_getElem? (i := 108) rfl
set_option maxRecDepth 100000 in
theorem okc_30 : ck_c 30 := fun C mL N h1 h2 => by
  cases h1
  cases h2
  exact List.mem_of_getElem? (i := 559) rfl
set_option maxRecDepth 100000 in
theorem okc_31 : ck_c 31 := fun C mL N h1 h2 => by
  cases h1
  cases h2
  exact List.mem_of_getElem? (i := 567) rfl
set_option maxRecDepth 100000 in
theorem okc_32 : ck_c 32 := fun C mL N h1 h2 => by
  cases h1
  cases h2
  exact List.mem_of_getElem? (i := 571) rfl
set_option maxRecDepth 100000 in
theorem okc_33 : ck_c 33 := fun C mL N h1 h2 => by
  cases h1
  cases h2
  exact List.mem_of_getElem? (i := 579) rfl
set_option maxRecDepth 100000 in
theorem okc_34 : ck_c 34 := fun C mL N h1 h2 => by
  cases h1
  cases h2
  exact List.mem_of_getElem? (i := 588) rfl
set_option maxRecDepth 100000 in
theorem okc_35 : ck_c 35 := fun C mL N h1 h2 => by
  cases h1
  cases h2
  exact List.mem_of_getElem? (i := 592) rfl
set_option maxRecDepth 100000 in
theorem okc_36 : ck_c 36 := fun C mL N h1 h2 => by
  cases h1
  cases h2
  exact List.mem_of_getElem? (i := 600) rfl
set_option maxRecDepth 100000 in
theorem okc_37 : ck_c 37 := fun C mL N h1 h2 => by
  cases h1
  cases h2
  exact List.mem_of_getElem? (i := 259) rfl
set_option maxRecDepth 100000 in
theorem okc_38 : ck_c 38 := fun C mL N h1 h2 => by
  cases h1
  cases h2
  exact List.mem_of_getElem? (i := 277) rfl
set_option maxRecDepth 100000 in
theorem okc_39 : ck_c 39 := fun C mL N h1 h2 => by
  cases h1
  cases h2
  exact List.mem_of_getElem? (i := 272) rfl
set_option maxRecDepth 100000 in
theorem okc_40 : ck_c 40 := fun C mL N h1 h2 => by
  cases h1
  cases h2
  exact List.mem_of_getElem? (i := 265) rfl
set_option maxRecDepth 100000 in
theorem okc_41 : ck_c 41 := fun C mL N h1 h2 => by
  cases h1
  cases h2
  exact List.mem_of_getElem? (i := 268) rfl
set_option maxRecDepth 100000 in
theorem okc_42 : ck_c 42 := fun C mL N h1 h2 => by
  cases h1
  cases h2
  exact List.mem_of_getElem? (i := 493) rfl
set_option maxRecDepth 100000 in
theorem okc_43 : ck_c 43 := fun C mL N h1 h2 => by
  cases h1
  cases h2
  exact List.mem_of_getElem? (i := 501) rfl
set_option maxRecDepth 100000 in
theorem okc_44 : ck_c 44 := fun C mL N h1 h2 => by
  cases h1
  cases h2
  exact List.mem_of_getElem? (i := 509) rfl
set_option maxRecDepth 100000 in
theorem okc_45 : ck_c 45 := fun C mL N h1 h2 => by
  cases h1
  cases h2
  exact List.mem_of_getElem? (i := 513) rfl
set_option maxRecDepth 100000 in
theorem okc_46 : ck_c 46 := fun C mL N h1 h2 => by
  cases h1
  cases h2
  exact List.mem_of_getElem? (i := 517) rfl
set_option maxRecDepth 100000 in
theorem okc_47 : ck_c 47 := fun C mL N h1 h2 => by
  cases h1
  cases h2
  exact List.mem_of_getElem? (i := 528) rfl
set_option maxRecDepth 100000 in
theorem okc_48 : ck_c 48 := fun C mL N h1 h2 => by
  cases h1
  cases h2
  exact List.mem_of_getElem? (i := 535) rfl
set_option maxRecDepth 100000 in
theorem okc_49 : ck_c 49 := fun C mL N h1 h2 => by
  cases h1
  cases h2
  exact List.mem_of_getElem? (i := 539) rfl
set_option maxRecDepth 100000 in
theorem okc_50 : ck_c 50 := fun C mL N h1 h2 => by
  cases h1
  cases h2
  exact List.mem_of_getElem? (i := 543) rfl
set_option maxRecDepth 100000 in
theorem okc_51 : ck_c 51 := fun C mL N h1 h2 => by
  cases h1
  cases h2
  exact List.mem_of_getElem? (i := 547) rfl
set_option maxRecDepth 100000 in
theorem okc_52 : ck_c 52 := fun C mL N h1 h2 => by
  cases h1
  cases h2
  exact List.mem_of_getElem? (i := 551) rfl
set_option maxRecDepth 100000 in
theorem okc_53 : ck_c 53 := fun C mL N h1 h2 => by
  cases h1
  cases h2
  exact List.mem_of_getElem? (i := 79) rfl
set_option maxRecDepth 100000 in
theorem okc_54 : ck_c 54 := fun C mL N h1 h2 => by
  cases h1
  cases h2
  exact List.mem_of_getElem? (i := 400) rfl
set_option maxRecDepth 100000 in
theorem okc_55 : ck_c 55 := fun C mL N h1 h2 => by
  cases h1
  cases h2
  exact List.mem_of_getElem? (i := 460) rfl
set_option maxRecDepth 100000 in
theorem okc_56 : ck_c 56 := fun C mL N h1 h2 => by
  cases h1
  cases h2
  exact List.mem_of_getElem? (i := 478) rfl
set_option maxRecDepth 100000 in
theorem okc_57 : ck_c 57 := fun C mL N h1 h2 => by
  cases h1
  cases h2
  exact List.mem_of_getElem? (i := 419) rfl
set_option maxRecDepth 100000 in
theorem okc_58 : ck_c 58 := fun C mL N h1 h2 => by
  cases h1
  cases h2
  exact List.mem_of_getElem? (i := 413) rfl
set_option maxRecDepth 100000 in
theorem okc_59 : ck_c 59 := fun C mL N h1 h2 => by
  cases h1
  cases h2
  exact List.mem_of_getElem? (i := 410) rfl
set_option maxRecDepth 100000 in
theorem okc_60 : ck_c 60 := fun C mL N h1 h2 => by
  cases h1
  cases h2
  exact List.mem_of_getElem? (i := 423) rfl
set_option maxRecDepth 100000 in
theorem okc_61 : ck_c 61 := fun C mL N h1 h2 => by
  cases h1
  cases h2
  exact List.mem_of_getElem? (i := 432) rfl
set_option maxRecDepth 100000 in
theorem okc_62 : ck_c 62 := fun C mL N h1 h2 => by
  cases h1
  cases h2
  exact List.mem_of_getElem? (i := 427) rfl
set_option maxRecDepth 100000 in
theorem okc_63 : ck_c 63 := fun C mL N h1 h2 => by
  cases h1
  cases h2
  exact List.mem_of_getElem? (i := 456) rfl
set_option maxRecDepth 100000 in
theorem okc_64 : ck_c 64 := fun C mL N h1 h2 => by
  cases h1
  cases h2
  exact List.mem_of_getElem? (i := 444) rfl
set_option maxRecDepth 100000 in
theorem okc_65 : ck_c 65 := fun C mL N h1 h2 => by
  cases h1
  cases h2
  exact List.mem_of_getElem? (i := 447) rfl
set_option maxRecDepth 100000 in
theorem okc_66 : ck_c 66 := fun C mL N h1 h2 => by
  cases h1
  cases h2
  exact List.mem_of_getElem? (i := 66) rfl
set_option maxRecDepth 100000 in
theorem okc_67 : ck_c 67 := fun C mL N h1 h2 => by
  cases h1
  cases h2
  exact List.mem_of_getElem? (i := 320) rfl
set_option maxRecDepth 100000 in
theorem okc_68 : ck_c 68 := fun C mL N h1 h2 => by
  cases h1
  cases h2
  exact List.mem_of_getElem? (i := 343) rfl
set_option maxRecDepth 100000 in
theorem okc_69 : ck_c 69 := fun C mL N h1 h2 => by
  cases h1
  cases h2
  exact List.mem_of_getElem? (i := 351) rfl
set_option maxRecDepth 100000 in
theorem okc_70 : ck_c 70 := fun C mL N h1 h2 => by
  cases h1
  cases h2
  exact List.mem_of_getElem? (i := 364) rfl
set_option maxRecDepth 100000 in
theorem okc_71 : ck_c 71 := fun C mL N h1 h2 => by
  cases h1
  cases h2
  exact List.mem_of_getElem? (i := 372) rfl
set_option maxRecDepth 100000 in
theorem okc_72 : ck_c 72 := fun C mL N h1 h2 => by
  cases h1
  cases h2
  exact List.mem_of_getElem? (i := 380) rfl
set_option maxRecDepth 100000 in
theorem okc_73 : ck_c 73 := fun C mL N h1 h2 => by
  cases h1
  cases h2
  exact List.mem_of_getElem? (i := 385) rfl
set_option maxRecDepth 100000 in
theorem okc_74 : ck_c 74 := fun C mL N h1 h2 => by
  cases h1
  cases h2
  exact List.mem_of_getElem? (i := 393) rfl
set_option maxRecDepth 100000 in
theorem okc_75 : ck_c 75 := fun C mL N h1 h2 => by
  cases h1
  cases h2
  exact List.mem_of_getElem? (i := 404) rfl
set_option maxRecDepth 100000 in
theorem okc_76 : ck_c 76 := fun C mL N h1 h2 => by
  cases h1
  cases h2
  exact List.mem_of_getElem? (i := 436) rfl
set_option maxRecDepth 100000 in
theorem okc_77 : ck_c 77 := fun C mL N h1 h2 => by
  cases h1
  cases h2
  exact List.mem_of_getElem? (i := 464) rfl
set_option maxRecDepth 100000 in
theorem okc_78 : ck_c 78 := fun C mL N h1 h2 => by
  cases h1
  cases h2
  exact List.mem_of_getElem? (i := 468) rfl
set_option maxRecDepth 100000 in
theorem okc_79 : ck_c 79 := fun C mL N h1 h2 => by
  cases h1
  cases h2
  exact List.mem_of_getElem? (i := 474) rfl
set_option maxRecDepth 100000 in
theorem okc_80 : ck_c 80 := fun C mL N h1 h2 => by
  cases h1
  cases h2
  exact List.mem_of_getElem? (i := 482) rfl
set_option maxRecDepth 100000 in
theorem okc_81 : ck_c 81 := fun C mL N h1 h2 => by
  cases h1
  cases h2
  exact List.mem_of_getElem? (i := 486) rfl
set_option maxRecDepth 100000 in
theorem okc_82 : ck_c 82 := fun C mL N h1 h2 => by
  cases h1
  cases h2
  exact List.mem_of_getElem? (i := 497) rfl
set_option maxRecDepth 100000 in
theorem okc_83 : ck_c 83 := fun C mL N h1 h2 => by
  cases h1
  cases h2
  exact List.mem_of_getElem? (i := 505) rfl
set_option maxRecDepth 100000 in
theorem okc_84 : ck_c 84 := fun C mL N h1 h2 => by
  cases h1
  cases h2
  exact List.mem_of_getElem? (i := 521) rfl
set_option maxRecDepth 100000 in
theorem okc_85 : ck_c 85 := fun C mL N h1 h2 => by
  cases h1
  cases h2
  exact List.mem_of_getElem? (i := 555) rfl
set_option maxRecDepth 100000 in
theorem okc_86 : ck_c 86 := fun C mL N h1 h2 => by
  cases h1
  cases h2
  exact List.mem_of_getElem? (i := 563) rfl
set_option maxRecDepth 100000 in
theorem okc_87 : ck_c 87 := fun C mL N h1 h2 => by
  cases h1
  cases h2
  exact List.mem_of_getElem? (i := 575) rfl
set_option maxRecDepth 100000 in
theorem okc_88 : ck_c 88 := fun C mL N h1 h2 => by
  cases h1
  cases h2
  exact List.mem_of_getElem? (i := 583) rfl
set_option maxRecDepth 100000 in
theorem okc_89 : ck_c 89 := fun C mL N h1 h2 => by
  cases h1
  cases h2
  exact List.mem_of_getElem? (i := 323) rfl
set_option maxRecDepth 100000 in
theorem okc_90 : ck_c 90 := fun C mL N h1 h2 => by
  cases h1
  cases h2
  exact List.mem_of_getElem? (i := 396) rfl
set_option maxRecDepth 100000 in
theorem okc_91 : ck_c 91 := fun C mL N h1 h2 => by
  cases h1
  cases h2
  exact List.mem_of_getElem? (i := 489) rfl
set_option maxRecDepth 100000 in
theorem okc_92 : ck_c 92 := fun C mL N h1 h2 => by
  cases h1
  cases h2
  exact List.mem_of_getElem? (i := 347) rfl
set_option maxRecDepth 100000 in
theorem okc_93 : ck_c 93 := fun C mL N h1 h2 => by
  cases h1
  cases h2
  exact List.mem_of_getElem? (i := 524) rfl
set_option maxRecDepth 100000 in
theorem okc_94 : ck_c 94 := fun C mL N h1 h2 => by
  cases h1
  cases h2
  exact List.mem_of_getElem? (i := 440) rfl
set_option maxRecDepth 100000 in
theorem okc_95 : ck_c 95 := fun C mL N h1 h2 => by
  cases h1
  cases h2
  exact List.mem_of_getElem? (i := 605) rfl
set_option maxRecDepth 100000 in
theorem okc_96 : ck_c 96 := fun C mL N h1 h2 => by
  cases h1
  cases h2
  exact List.mem_of_getElem? (i := 637) rfl
set_option maxRecDepth 100000 in
theorem okc_97 : ck_c 97 := fun C mL N h1 h2 => by
  cases h1
  cases h2
  exact List.mem_of_getElem? (i := 735) rfl
set_option maxRecDepth 100000 in
theorem okc_98 : ck_c 98 := fun C mL N h1 h2 => by
  cases h1
  cases h2
  exact List.mem_of_getElem? (i := 609) rfl
set_option maxRecDepth 100000 in
theorem okc_99 : ck_c 99 := fun C mL N h1 h2 => by
  cases h1
  cases h2
  exact List.mem_of_getElem? (i := 619) rfl
set_option maxRecDepth 100000 in
theorem okc_100 : ck_c 100 := fun C mL N h1 h2 => by
  cases h1
  cases h2
  exact List.mem_of_getElem? (i := 750) rfl
set_option maxRecDepth 100000 in
theorem okc_101 : ck_c 101 := fun C mL N h1 h2 => by
  cases h1
  cases h2
  exact List.mem_of_getElem? (i := 616) rfl
set_option maxRecDepth 100000 in
theorem okc_102 : ck_c 102 := fun C mL N h1 h2 => by
  cases h1
  cases h2
  exact List.mem_of_getElem? (i := 613) rfl
set_option maxRecDepth 100000 in
theorem okc_103 : ck_c 103 := fun C mL N h1 h2 => by
  cases h1
  cases h2
  exact List.mem_of_getElem? (i := 631) rfl
set_option maxRecDepth 100000 in
theorem okc_104 : ck_c 104 := fun C mL N h1 h2 => by
  cases h1
  cases h2
  exact List.mem_of_getElem? (i := 646) rfl
set_option maxRecDepth 100000 in
theorem okc_105 : ck_c 105 := fun C mL N h1 h2 => by
  cases h1
  cases h2
  exact List.mem_of_getElem? (i := 642) rfl
set_option maxRecDepth 100000 in
theorem okc_106 : ck_c 106 := fun C mL N h1 h2 => by
  cases h1
  cases h2
  exact List.mem_of_getElem? (i := 766) rfl
set_option maxRecDepth 100000 in
theorem okc_107 : ck_c 107 := fun C mL N h1 h2 => by
  cases h1
  cases h2
  exact List.mem_of_getElem? (i := 634) rfl
set_option maxRecDepth 100000 in
theorem okc_108 : ck_c 108 := fun C mL N h1 h2 => by
  cases h1
  cases h2
  exact List.mem_of_getElem? (i := 627) rfl
set_option maxRecDepth 100000 in
theorem okc_109 : ck_c 109 := fun C mL N h1 h2 => by
  cases h1
  cases h2
  exact List.mem_of_getElem? (i := 623) rfl
set_option maxRecDepth 100000 in
theorem okc_110 : ck_c 110 := fun C mL N h1 h2 => by
  cases h1
  cases h2
  exact List.mem_of_getElem? (i := 740) rfl
set_option maxRecDepth 100000 in
theorem okc_111 : ck_c 111 := fun C mL N h1 h2 => by
  cases h1
  cases h2
  exact List.mem_of_getElem? (i := 743) rfl
set_option maxRecDepth 100000 in
theorem okc_112 : ck_c 112 := fun C mL N h1 h2 => by
  cases h1
  cases h2
  exact List.mem_of_getElem? (i := 732) rfl
set_option maxRecDepth 100000 in
theorem okc_113 : ck_c 113 := fun C mL N h1 h2 => by
  cases h1
  cases h2
  exact List.mem_of_getElem? (i := 747) rfl
set_option maxRecDepth 100000 in
theorem okc_114 : ck_c 114 := fun C mL N h1 h2 => by
  cases h1
  cases h2
  exact List.mem_of_getElem? (i := 758) rfl
set_option maxRecDepth 100000 in
theorem okc_115 : ck_c 115 := fun C mL N h1 h2 => by
  cases h1
  cases h2
  exact List.mem_of_getElem? (i := 762) rfl
set_option maxRecDepth 100000 in
theorem okc_116 : ck_c 116 := fun C mL N h1 h2 => by
  cases h1
  cases h2
  exact List.mem_of_getElem? (i := 754) rfl
set_option maxRecDepth 100000 in
theorem okc_117 : ck_c 117 := fun C mL N h1 h2 => by
  cases h1
  cases h2
  exact List.mem_of_getElem? (i := 770) rfl
set_option maxRecDepth 100000 in
theorem okc_118 : ck_c 118 := fun C mL N h1 h2 => by
  cases h1
  cases h2
  exact List.mem_of_getElem? (i := 774) rfl
set_option maxRecDepth 100000 in
theorem okc_119 : ck_c 119 := fun C mL N h1 h2 => by
  cases h1
  cases h2
  exact List.mem_of_getElem? (i := 779) rfl
set_option maxRecDepth 100000 in
theorem okc_120 : ck_c 120 := fun C mL N h1 h2 => by
  cases h1
  cases h2
  exact List.mem_of_getElem? (i := 783) rfl
set_option maxRecDepth 100000 in
theorem okc_121 : ck_c 121 := fun C mL N h1 h2 => by
  cases h1
  cases h2
  exact List.mem_of_getElem? (i := 790) rfl
set_option maxRecDepth 100000 in
theorem okc_122 : ck_c 122 := fun C mL N h1 h2 => by
  cases h1
  cases h2
  exact List.mem_of_getElem? (i := 806) rfl
set_option maxRecDepth 100000 in
theorem okc_123 : ck_c 123 := fun C mL N h1 h2 => by
  cases h1
  cases h2
  exact List.mem_of_getElem? (i := 795) rfl
set_option maxRecDepth 100000 in
theorem okc_124 : ck_c 124 := fun C mL N h1 h2 => by
  cases h1
  cases h2
  exact List.mem_of_getElem? (i := 816) rfl
set_option maxRecDepth 100000 in
theorem okc_125 : ck_c 125 := fun C mL N h1 h2 => by
  cases h1
  cases h2
  exact List.mem_of_getElem? (i := 810) rfl
set_option maxRecDepth 100000 in
theorem okc_126 : ck_c 126 := fun C mL N h1 h2 => by
  cases h1
  cases h2
  exact List.mem_of_getElem? (i := 787) rfl
set_option maxRecDepth 100000 in
theorem okc_127 : ck_c 127 := fun C mL N h1 h2 => by
  cases h1
  cases h2
  exact List.mem_of_getElem? (i := 799) rfl
set_option maxRecDepth 100000 in
theorem okc_128 : ck_c 128 := fun C mL N h1 h2 => by
  cases h1
  cases h2
  exact List.mem_of_getElem? (i := 820) rfl
set_option maxRecDepth 100000 in
theorem okc_129 : ck_c 129 := fun C mL N h1 h2 => by
  cases h1
  cases h2
  exact List.mem_of_getElem? (i := 825) rfl
set_option maxRecDepth 100000 in
theorem okc_130 : ck_c 130 := fun C mL N h1 h2 => by
  cases h1
  cases h2
  exact List.mem_of_getElem? (i := 829) rfl
set_option maxRecDepth 100000 in
theorem okc_131 : ck_c 131 := fun C mL N h1 h2 => by
  cases h1
  cases h2
  exact List.mem_of_getElem? (i := 835) rfl
set_option maxRecDepth 100000 in
theorem okc_132 : ck_c 132 := fun C mL N h1 h2 => by
  cases h1
  cases h2
  exact List.mem_of_getElem? (i := 839) rfl
set_option maxRecDepth 100000 in
theorem okc_133 : ck_c 133 := fun C mL N h1 h2 => by
  cases h1
  cases h2
  exact List.mem_of_getElem? (i := 854) rfl
set_option maxRecDepth 100000 in
theorem okc_134 : ck_c 134 := fun C mL N h1 h2 => by
  cases h1
  cases h2
  exact List.mem_of_getElem? (i := 851) rfl
set_option maxRecDepth 100000 in
theorem okc_135 : ck_c 135 := fun C mL N h1 h2 => by
  cases h1
  cases h2
  exact List.mem_of_getElem? (i := 847) rfl
set_option maxRecDepth 100000 in
theorem okc_136 : ck_c 136 := fun C mL N h1 h2 => by
  cases h1
  cases h2
  exact List.mem_of_getElem? (i := 844) rfl
set_option maxRecDepth 100000 in
theorem okc_137 : ck_c 137 := fun C mL N h1 h2 => by
  cases h1
  cases h2
  exact List.mem_of_getElem? (i := 858) rfl
set_option maxRecDepth 100000 in
theorem okc_138 : ck_c 138 := fun C mL N h1 h2 => by
  cases h1
  cases h2
  exact List.mem_of_getElem? (i := 866) rfl
set_option maxRecDepth 100000 in
theorem okc_139 : ck_c 139 := fun C mL N h1 h2 => by
  cases h1
  cases h2
  exact List.mem_of_getElem? (i := 862) rfl
set_option maxRecDepth 100000 in
theorem okc_140 : ck_c 140 := fun C mL N h1 h2 => by
  cases h1
  cases h2
  exact List.mem_of_getElem? (i := 876) rfl
set_option maxRecDepth 100000 in
theorem okc_141 : ck_c 141 := fun C mL N h1 h2 => by
  cases h1
  cases h2
  exact List.mem_of_getElem? (i := 884) rfl
set_option maxRecDepth 100000 in
theorem okc_142 : ck_c 142 := fun C mL N h1 h2 => by
  cases h1
  cases h2
  exact List.mem_of_getElem? (i := 870) rfl
set_option maxRecDepth 100000 in
theorem okc_143 : ck_c 143 := fun C mL N h1 h2 => by
  cases h1
  cases h2
  exact List.mem_of_getElem? (i := 881) rfl
set_option maxRecDepth 100000 in
theorem okc_144 : ck_c 144 := fun C mL N h1 h2 => by
  cases h1
  cases h2
  exact List.mem_of_getElem? (i := 888) rfl
set_option maxRecDepth 100000 in
theorem okc_145 : ck_c 145 := fun C mL N h1 h2 => by
  cases h1
  cases h2
  exact List.mem_of_getElem? (i := 892) rfl
set_option maxRecDepth 100000 in
theorem okc_146 : ck_c 146 := fun C mL N h1 h2 => by
  cases h1
  cases h2
  exact List.mem_of_getElem? (i := 896) rfl
set_option maxRecDepth 100000 in
theorem okc_147 : ck_c 147 := fun C mL N h1 h2 => by
  cases h1
  cases h2
  exact List.mem_of_getElem? (i := 907) rfl
set_option maxRecDepth 100000 in
theorem okc_148 : ck_c 148 := fun C mL N h1 h2 => by
  cases h1
  cases h2
  exact List.mem_of_getElem? (i := 900) rfl
set_option maxRecDepth 100000 in
theorem okc_149 : ck_c 149 := fun C mL N h1 h2 => by
  cases h1
  cases h2
  exact List.mem_of_getElem? (i := 531) rfl
set_option maxRecDepth 100000 in
theorem okc_150 : ck_c 150 := fun C mL N h1 h2 => by
  cases h1
  cases h2
  exact List.mem_of_getElem? (i := 596) rfl
set_option maxRecDepth 100000 in
theorem okc_151 : ck_c 151 := fun C mL N h1 h2 => by
  cases h1
  cases h2
  exact List.mem_of_getElem? (i := 450) rfl
set_option maxRecDepth 100000 in
theorem okc_152 : ck_c 152 := fun C mL N h1 h2 => by
  cases h1
  cases h2
  exact List.mem_of_getElem? (i := 211) rfl
set_option maxRecDepth 1000000 in
theorem okm_0 : (List.range' 0 9).all ck_m = true := by decide +kernel
set_option maxRecDepth 1000000 in
theorem okm_9 : (List.range' 9 9).all ck_m = true := by decide +kernel
set_option maxRecDepth 1000000 in
theorem okm_18 : (List.range' 18 9).all ck_m = true := by decide +kernel
set_option maxRecDepth 1000000 in
theorem okm_27 : (List.range' 27 9).all ck_m = true := by decide +kernel
set_option maxRecDepth 1000000 in
theorem okm_36 : (List.range' 36 9).all ck_m = true := by decide +kernel
set_option maxRecDepth 1000000 in
theorem okm_45 : (List.range' 45 9).all ck_m = true := by decide +kernel
set_option maxRecDepth 1000000 in
theorem okm_54 : (List.range' 54 9).all ck_m = true := by decide +kernel
set_option maxRecDepth 1000000 in
theorem okm_63 : (List.range' 63 9).all ck_m = true := by decide +kernel
set_option maxRecDepth 1000000 in
theorem okm_72 : (List.range' 72 9).all ck_m = true := by decide +kernel
set_option maxRecDepth 1000000 in
theorem okm_81 : (List.range' 81 9).all ck_m = true := by decide +kernel
set_option maxRecDepth 1000000 in
theorem okm_90 : (List.range' 90 9).all ck_m = true := by decide +kernel
set_option maxRecDepth 1000000 in
theorem okm_99 : (List.range' 99 9).all ck_m = true := by decide +kernel
set_option maxRecDepth 1000000 in
theorem okm_108 : (List.range' 108 9).all ck_m = true := by decide +kernel
set_option maxRecDepth 1000000 in
theorem okm_117 : (List.range' 117 9).all ck_m = true := by decide +kernel
set_option maxRecDepth 1000000 in
theorem okm_126 : (List.range' 126 9).all ck_m = true := by decide +kernel
set_option maxRecDepth 1000000 in
theorem okm_135 : (List.range' 135 9).all ck_m = true := by decide +kernel
set_option maxRecDepth 1000000 in
theorem okm_144 : (List.range' 144 9).all ck_m = true := by decide +kernel
