-- ===== PART A: goes FIRST, ahead of the names: the tables' words, and 'selects' of the private methods out of them =====
/-- a private method of a class that the tables say can be made, by its rows of tables_1 -/
def lw_okq (q : MethodName × Nat) : Prop := (q.1.cls ≠ "java/lang/invoke/MethodHandle" ∧ q.1.cls ≠ "java/lang/invoke/VarHandle") ∧ Cond.instantiable q.1.cls q.2 ∈ tables_1 ∧ Cond.privateMethod q.1 ∈ tables_1 ∧ Cond.instanceMethod q.1 ∈ tables_1
theorem lw_p0 : lw_okq (⟨"StrandBoxes$Boxes", "listPairings", "()V"⟩, 11) := ⟨⟨by decide +kernel, by decide +kernel⟩, List.mem_of_getElem? (i := 75) (by decide +kernel), List.mem_of_getElem? (i := 86) (by decide +kernel), List.mem_of_getElem? (i := 87) (by decide +kernel)⟩
theorem lw_p1 : lw_okq (⟨"StrandBoxes$Boxes", "pairBy", "([I[I)V"⟩, 11) := ⟨⟨by decide +kernel, by decide +kernel⟩, List.mem_of_getElem? (i := 75) (by decide +kernel), List.mem_of_getElem? (i := 90) (by decide +kernel), List.mem_of_getElem? (i := 91) (by decide +kernel)⟩
theorem lw_p2 : lw_okq (⟨"StrandBoxes$Boxes", "forgetSeen", "()V"⟩, 11) := ⟨⟨by decide +kernel, by decide +kernel⟩, List.mem_of_getElem? (i := 75) (by decide +kernel), List.mem_of_getElem? (i := 94) (by decide +kernel), List.mem_of_getElem? (i := 95) (by decide +kernel)⟩
theorem lw_p3 : lw_okq (⟨"StrandBoxes$Boxes", "freeBehind", "(II)I"⟩, 11) := ⟨⟨by decide +kernel, by decide +kernel⟩, List.mem_of_getElem? (i := 75) (by decide +kernel), List.mem_of_getElem? (i := 98) (by decide +kernel), List.mem_of_getElem? (i := 99) (by decide +kernel)⟩
theorem lw_p4 : lw_okq (⟨"StrandBoxes$Boxes", "countUp", "([I)V"⟩, 11) := ⟨⟨by decide +kernel, by decide +kernel⟩, List.mem_of_getElem? (i := 75) (by decide +kernel), List.mem_of_getElem? (i := 105) (by decide +kernel), List.mem_of_getElem? (i := 106) (by decide +kernel)⟩
theorem lw_p5 : lw_okq (⟨"StrandBoxes$Boxes", "closeRings", "([I)I"⟩, 11) := ⟨⟨by decide +kernel, by decide +kernel⟩, List.mem_of_getElem? (i := 75) (by decide +kernel), List.mem_of_getElem? (i := 109) (by decide +kernel), List.mem_of_getElem? (i := 110) (by decide +kernel)⟩
theorem lw_p6 : lw_okq (⟨"StrandBoxes$Boxes", "across", "(I)I"⟩, 11) := ⟨⟨by decide +kernel, by decide +kernel⟩, List.mem_of_getElem? (i := 75) (by decide +kernel), List.mem_of_getElem? (i := 113) (by decide +kernel), List.mem_of_getElem? (i := 114) (by decide +kernel)⟩
theorem lw_p7 : lw_okq (⟨"StrandBoxes$Boxes", "stackLetters", "()V"⟩, 11) := ⟨⟨by decide +kernel, by decide +kernel⟩, List.mem_of_getElem? (i := 75) (by decide +kernel), List.mem_of_getElem? (i := 117) (by decide +kernel), List.mem_of_getElem? (i := 118) (by decide +kernel)⟩
theorem lw_p8 : lw_okq (⟨"StrandBoxes$Boxes", "letterAt", "(I)I"⟩, 11) := ⟨⟨by decide +kernel, by decide +kernel⟩, List.mem_of_getElem? (i := 75) (by decide +kernel), List.mem_of_getElem? (i := 121) (by decide +kernel), List.mem_of_getElem? (i := 122) (by decide +kernel)⟩
theorem lw_p9 : lw_okq (⟨"StrandBoxes$Boxes", "isLetter", "(I)Z"⟩, 11) := ⟨⟨by decide +kernel, by decide +kernel⟩, List.mem_of_getElem? (i := 75) (by decide +kernel), List.mem_of_getElem? (i := 129) (by decide +kernel), List.mem_of_getElem? (i := 130) (by decide +kernel)⟩
theorem lw_p10 : lw_okq (⟨"StrandBoxes$Boxes", "numberOf", "([I)I"⟩, 11) := ⟨⟨by decide +kernel, by decide +kernel⟩, List.mem_of_getElem? (i := 75) (by decide +kernel), List.mem_of_getElem? (i := 133) (by decide +kernel), List.mem_of_getElem? (i := 134) (by decide +kernel)⟩
theorem lw_p11 : lw_okq (⟨"StrandBoxes$Boxes", "join", "([I[I)I"⟩, 11) := ⟨⟨by decide +kernel, by decide +kernel⟩, List.mem_of_getElem? (i := 75) (by decide +kernel), List.mem_of_getElem? (i := 137) (by decide +kernel), List.mem_of_getElem? (i := 138) (by decide +kernel)⟩
theorem lw_p12 : lw_okq (⟨"StrandBoxes$Boxes", "follow", "([I[II)I"⟩, 11) := ⟨⟨by decide +kernel, by decide +kernel⟩, List.mem_of_getElem? (i := 75) (by decide +kernel), List.mem_of_getElem? (i := 141) (by decide +kernel), List.mem_of_getElem? (i := 142) (by decide +kernel)⟩
theorem lw_p13 : lw_okq (⟨"StrandBoxes$Boxes", "countInnerRings", "([I[I)I"⟩, 11) := ⟨⟨by decide +kernel, by decide +kernel⟩, List.mem_of_getElem? (i := 75) (by decide +kernel), List.mem_of_getElem? (i := 145) (by decide +kernel), List.mem_of_getElem? (i := 146) (by decide +kernel)⟩
theorem lw_p14 : lw_okq (⟨"StrandBoxes$Boxes", "spellAll", "()V"⟩, 11) := ⟨⟨by decide +kernel, by decide +kernel⟩, List.mem_of_getElem? (i := 75) (by decide +kernel), List.mem_of_getElem? (i := 149) (by decide +kernel), List.mem_of_getElem? (i := 150) (by decide +kernel)⟩
theorem lw_p15 : lw_okq (⟨"StrandBoxes$Boxes", "spellBehind", "(III)V"⟩, 11) := ⟨⟨by decide +kernel, by decide +kernel⟩, List.mem_of_getElem? (i := 75) (by decide +kernel), List.mem_of_getElem? (i := 153) (by decide +kernel), List.mem_of_getElem? (i := 154) (by decide +kernel)⟩
def lw_privs_1 : List (MethodName × Nat) := [(⟨"StrandBoxes$Boxes", "listPairings", "()V"⟩, 11), (⟨"StrandBoxes$Boxes", "pairBy", "([I[I)V"⟩, 11), (⟨"StrandBoxes$Boxes", "forgetSeen", "()V"⟩, 11), (⟨"StrandBoxes$Boxes", "freeBehind", "(II)I"⟩, 11), (⟨"StrandBoxes$Boxes", "countUp", "([I)V"⟩, 11), (⟨"StrandBoxes$Boxes", "closeRings", "([I)I"⟩, 11), (⟨"StrandBoxes$Boxes", "across", "(I)I"⟩, 11), (⟨"StrandBoxes$Boxes", "stackLetters", "()V"⟩, 11), (⟨"StrandBoxes$Boxes", "letterAt", "(I)I"⟩, 11), (⟨"StrandBoxes$Boxes", "isLetter", "(I)Z"⟩, 11), (⟨"StrandBoxes$Boxes", "numberOf", "([I)I"⟩, 11), (⟨"StrandBoxes$Boxes", "join", "([I[I)I"⟩, 11), (⟨"StrandBoxes$Boxes", "follow", "([I[II)I"⟩, 11), (⟨"StrandBoxes$Boxes", "countInnerRings", "([I[I)I"⟩, 11), (⟨"StrandBoxes$Boxes", "spellAll", "()V"⟩, 11), (⟨"StrandBoxes$Boxes", "spellBehind", "(III)V"⟩, 11)]
theorem lw_r1 : ∀ q ∈ lw_privs_1, lw_okq q := List.forall_mem_cons.mpr ⟨lw_p0, List.forall_mem_cons.mpr ⟨lw_p1, List.forall_mem_cons.mpr ⟨lw_p2, List.forall_mem_cons.mpr ⟨lw_p3, List.forall_mem_cons.mpr ⟨lw_p4, List.forall_mem_cons.mpr ⟨lw_p5, List.forall_mem_cons.mpr ⟨lw_p6, List.forall_mem_cons.mpr ⟨lw_p7, List.forall_mem_cons.mpr ⟨lw_p8, List.forall_mem_cons.mpr ⟨lw_p9, List.forall_mem_cons.mpr ⟨lw_p10, List.forall_mem_cons.mpr ⟨lw_p11, List.forall_mem_cons.mpr ⟨lw_p12, List.forall_mem_cons.mpr ⟨lw_p13, List.forall_mem_cons.mpr ⟨lw_p14, List.forall_mem_cons.mpr ⟨lw_p15, fun _ h => absurd h List.not_mem_nil⟩⟩⟩⟩⟩⟩⟩⟩⟩⟩⟩⟩⟩⟩⟩⟩
theorem lw_p16 : lw_okq (⟨"StrandBoxes$Halves", "isHalf", "([I)Z"⟩, 7) := ⟨⟨by decide +kernel, by decide +kernel⟩, List.mem_of_getElem? (i := 203) (by decide +kernel), List.mem_of_getElem? (i := 210) (by decide +kernel), List.mem_of_getElem? (i := 211) (by decide +kernel)⟩
theorem lw_p17 : lw_okq (⟨"StrandBoxes$Halves", "keepDraft", "()V"⟩, 7) := ⟨⟨by decide +kernel, by decide +kernel⟩, List.mem_of_getElem? (i := 203) (by decide +kernel), List.mem_of_getElem? (i := 217) (by decide +kernel), List.mem_of_getElem? (i := 218) (by decide +kernel)⟩
theorem lw_p18 : lw_okq (⟨"StrandBoxes$Halves", "nextDraft", "()V"⟩, 7) := ⟨⟨by decide +kernel, by decide +kernel⟩, List.mem_of_getElem? (i := 203) (by decide +kernel), List.mem_of_getElem? (i := 222) (by decide +kernel), List.mem_of_getElem? (i := 223) (by decide +kernel)⟩
theorem lw_p19 : lw_okq (⟨"StrandBoxes$Boxes", "placeRound", "(I)I"⟩, 11) := ⟨⟨by decide +kernel, by decide +kernel⟩, List.mem_of_getElem? (i := 75) (by decide +kernel), List.mem_of_getElem? (i := 280) (by decide +kernel), List.mem_of_getElem? (i := 281) (by decide +kernel)⟩
theorem lw_p20 : lw_okq (⟨"StrandBoxes$Boxes", "isBetween", "(III)Z"⟩, 11) := ⟨⟨by decide +kernel, by decide +kernel⟩, List.mem_of_getElem? (i := 75) (by decide +kernel), List.mem_of_getElem? (i := 284) (by decide +kernel), List.mem_of_getElem? (i := 285) (by decide +kernel)⟩
theorem lw_p21 : lw_okq (⟨"StrandBoxes", "isBox", "(II)Z"⟩, 5) := ⟨⟨by decide +kernel, by decide +kernel⟩, List.mem_of_getElem? (i := 10) (by decide +kernel), List.mem_of_getElem? (i := 292) (by decide +kernel), List.mem_of_getElem? (i := 293) (by decide +kernel)⟩
theorem lw_p22 : lw_okq (⟨"StrandBoxes$Sum", "isAt", "(III)Z"⟩, 5) := ⟨⟨by decide +kernel, by decide +kernel⟩, List.mem_of_getElem? (i := 23) (by decide +kernel), List.mem_of_getElem? (i := 364) (by decide +kernel), List.mem_of_getElem? (i := 365) (by decide +kernel)⟩
theorem lw_p23 : lw_okq (⟨"StrandBoxes$Sum", "change", "(IJ)Z"⟩, 5) := ⟨⟨by decide +kernel, by decide +kernel⟩, List.mem_of_getElem? (i := 23) (by decide +kernel), List.mem_of_getElem? (i := 368) (by decide +kernel), List.mem_of_getElem? (i := 369) (by decide +kernel)⟩
theorem lw_p24 : lw_okq (⟨"StrandBoxes$Sum", "moveTail", "(II)V"⟩, 5) := ⟨⟨by decide +kernel, by decide +kernel⟩, List.mem_of_getElem? (i := 23) (by decide +kernel), List.mem_of_getElem? (i := 372) (by decide +kernel), List.mem_of_getElem? (i := 373) (by decide +kernel)⟩
theorem lw_p25 : lw_okq (⟨"StrandBoxes$Sum", "insert", "(IIIJ)Z"⟩, 5) := ⟨⟨by decide +kernel, by decide +kernel⟩, List.mem_of_getElem? (i := 23) (by decide +kernel), List.mem_of_getElem? (i := 377) (by decide +kernel), List.mem_of_getElem? (i := 378) (by decide +kernel)⟩
theorem lw_p26 : lw_okq (⟨"StrandBoxes", "make", "(ILStrandBoxes$Sum;LStrandBoxes$Sum;)Z"⟩, 5) := ⟨⟨by decide +kernel, by decide +kernel⟩, List.mem_of_getElem? (i := 10) (by decide +kernel), List.mem_of_getElem? (i := 385) (by decide +kernel), List.mem_of_getElem? (i := 386) (by decide +kernel)⟩
theorem lw_p27 : lw_okq (⟨"StrandBoxes$Halves", "leadsOut", "([I[II)Z"⟩, 7) := ⟨⟨by decide +kernel, by decide +kernel⟩, List.mem_of_getElem? (i := 203) (by decide +kernel), List.mem_of_getElem? (i := 458) (by decide +kernel), List.mem_of_getElem? (i := 459) (by decide +kernel)⟩
theorem lw_p28 : lw_okq (⟨"StrandBoxes$Halves", "goRound", "([I[II)V"⟩, 7) := ⟨⟨by decide +kernel, by decide +kernel⟩, List.mem_of_getElem? (i := 203) (by decide +kernel), List.mem_of_getElem? (i := 462) (by decide +kernel), List.mem_of_getElem? (i := 463) (by decide +kernel)⟩
theorem lw_p29 : lw_okq (⟨"StrandBoxes$Halves", "fillTable", "(III)I"⟩, 7) := ⟨⟨by decide +kernel, by decide +kernel⟩, List.mem_of_getElem? (i := 203) (by decide +kernel), List.mem_of_getElem? (i := 480) (by decide +kernel), List.mem_of_getElem? (i := 481) (by decide +kernel)⟩
theorem lw_p30 : lw_okq (⟨"StrandBoxes$Halves", "fillRow", "([IIII)V"⟩, 7) := ⟨⟨by decide +kernel, by decide +kernel⟩, List.mem_of_getElem? (i := 203) (by decide +kernel), List.mem_of_getElem? (i := 484) (by decide +kernel), List.mem_of_getElem? (i := 485) (by decide +kernel)⟩
theorem lw_p31 : lw_okq (⟨"StrandBoxes$Halves", "swapRows", "(III)V"⟩, 7) := ⟨⟨by decide +kernel, by decide +kernel⟩, List.mem_of_getElem? (i := 203) (by decide +kernel), List.mem_of_getElem? (i := 492) (by decide +kernel), List.mem_of_getElem? (i := 493) (by decide +kernel)⟩
def lw_privs_2 : List (MethodName × Nat) := [(⟨"StrandBoxes$Halves", "isHalf", "([I)Z"⟩, 7), (⟨"StrandBoxes$Halves", "keepDraft", "()V"⟩, 7), (⟨"StrandBoxes$Halves", "nextDraft", "()V"⟩, 7), (⟨"StrandBoxes$Boxes", "placeRound", "(I)I"⟩, 11), (⟨"StrandBoxes$Boxes", "isBetween", "(III)Z"⟩, 11), (⟨"StrandBoxes", "isBox", "(II)Z"⟩, 5), (⟨"StrandBoxes$Sum", "isAt", "(III)Z"⟩, 5), (⟨"StrandBoxes$Sum", "change", "(IJ)Z"⟩, 5), (⟨"StrandBoxes$Sum", "moveTail", "(II)V"⟩, 5), (⟨"StrandBoxes$Sum", "insert", "(IIIJ)Z"⟩, 5), (⟨"StrandBoxes", "make", "(ILStrandBoxes$Sum;LStrandBoxes$Sum;)Z"⟩, 5), (⟨"StrandBoxes$Halves", "leadsOut", "([I[II)Z"⟩, 7), (⟨"StrandBoxes$Halves", "goRound", "([I[II)V"⟩, 7), (⟨"StrandBoxes$Halves", "fillTable", "(III)I"⟩, 7), (⟨"StrandBoxes$Halves", "fillRow", "([IIII)V"⟩, 7), (⟨"StrandBoxes$Halves", "swapRows", "(III)V"⟩, 7)]
theorem lw_r2 : ∀ q ∈ lw_privs_2, lw_okq q := List.forall_mem_cons.mpr ⟨lw_p16, List.forall_mem_cons.mpr ⟨lw_p17, List.forall_mem_cons.mpr ⟨lw_p18, List.forall_mem_cons.mpr ⟨lw_p19, List.forall_mem_cons.mpr ⟨lw_p20, List.forall_mem_cons.mpr ⟨lw_p21, List.forall_mem_cons.mpr ⟨lw_p22, List.forall_mem_cons.mpr ⟨lw_p23, List.forall_mem_cons.mpr ⟨lw_p24, List.forall_mem_cons.mpr ⟨lw_p25, List.forall_mem_cons.mpr ⟨lw_p26, List.forall_mem_cons.mpr ⟨lw_p27, List.forall_mem_cons.mpr ⟨lw_p28, List.forall_mem_cons.mpr ⟨lw_p29, List.forall_mem_cons.mpr ⟨lw_p30, List.forall_mem_cons.mpr ⟨lw_p31, fun _ h => absurd h List.not_mem_nil⟩⟩⟩⟩⟩⟩⟩⟩⟩⟩⟩⟩⟩⟩⟩⟩
theorem lw_p32 : lw_okq (⟨"StrandBoxes$Halves", "clearBelow", "(IIII)V"⟩, 7) := ⟨⟨by decide +kernel, by decide +kernel⟩, List.mem_of_getElem? (i := 203) (by decide +kernel), List.mem_of_getElem? (i := 496) (by decide +kernel), List.mem_of_getElem? (i := 497) (by decide +kernel)⟩
theorem lw_p33 : lw_okq (⟨"StrandBoxes$Crossings", "addStates", "(LStrandBoxes$Boxes;)V"⟩, 5) := ⟨⟨by decide +kernel, by decide +kernel⟩, List.mem_of_getElem? (i := 52) (by decide +kernel), List.mem_of_getElem? (i := 537) (by decide +kernel), List.mem_of_getElem? (i := 538) (by decide +kernel)⟩
theorem lw_p34 : lw_okq (⟨"StrandBoxes$Crossings", "addState", "(II)V"⟩, 5) := ⟨⟨by decide +kernel, by decide +kernel⟩, List.mem_of_getElem? (i := 52) (by decide +kernel), List.mem_of_getElem? (i := 545) (by decide +kernel), List.mem_of_getElem? (i := 546) (by decide +kernel)⟩
theorem lw_p35 : lw_okq (⟨"StrandBoxesModel", "decode", "(II)V"⟩, 27) := ⟨⟨by decide +kernel, by decide +kernel⟩, List.mem_of_getElem? (i := 549) (by decide +kernel), List.mem_of_getElem? (i := 558) (by decide +kernel), List.mem_of_getElem? (i := 559) (by decide +kernel)⟩
theorem lw_p36 : lw_okq (⟨"StrandBoxesModel", "findWords", "(I)V"⟩, 27) := ⟨⟨by decide +kernel, by decide +kernel⟩, List.mem_of_getElem? (i := 549) (by decide +kernel), List.mem_of_getElem? (i := 568) (by decide +kernel), List.mem_of_getElem? (i := 569) (by decide +kernel)⟩
theorem lw_p37 : lw_okq (⟨"StrandBoxesModel", "plainBox", "(II)I"⟩, 27) := ⟨⟨by decide +kernel, by decide +kernel⟩, List.mem_of_getElem? (i := 549) (by decide +kernel), List.mem_of_getElem? (i := 572) (by decide +kernel), List.mem_of_getElem? (i := 573) (by decide +kernel)⟩
theorem lw_p38 : lw_okq (⟨"StrandBoxesModel", "numberOf", "(I)I"⟩, 27) := ⟨⟨by decide +kernel, by decide +kernel⟩, List.mem_of_getElem? (i := 549) (by decide +kernel), List.mem_of_getElem? (i := 576) (by decide +kernel), List.mem_of_getElem? (i := 577) (by decide +kernel)⟩
theorem lw_p39 : lw_okq (⟨"StrandBoxesModel", "stacked", "(III)I"⟩, 27) := ⟨⟨by decide +kernel, by decide +kernel⟩, List.mem_of_getElem? (i := 549) (by decide +kernel), List.mem_of_getElem? (i := 587) (by decide +kernel), List.mem_of_getElem? (i := 588) (by decide +kernel)⟩
theorem lw_p40 : lw_okq (⟨"StrandBoxesModel", "lead", "(IIII)I"⟩, 27) := ⟨⟨by decide +kernel, by decide +kernel⟩, List.mem_of_getElem? (i := 549) (by decide +kernel), List.mem_of_getElem? (i := 591) (by decide +kernel), List.mem_of_getElem? (i := 592) (by decide +kernel)⟩
theorem lw_p41 : lw_okq (⟨"StrandBoxesModel", "isPlane", "(II)Z"⟩, 27) := ⟨⟨by decide +kernel, by decide +kernel⟩, List.mem_of_getElem? (i := 549) (by decide +kernel), List.mem_of_getElem? (i := 685) (by decide +kernel), List.mem_of_getElem? (i := 686) (by decide +kernel)⟩
theorem lw_p42 : lw_okq (⟨"StrandBoxesModel", "through", "(II)I"⟩, 27) := ⟨⟨by decide +kernel, by decide +kernel⟩, List.mem_of_getElem? (i := 549) (by decide +kernel), List.mem_of_getElem? (i := 703) (by decide +kernel), List.mem_of_getElem? (i := 704) (by decide +kernel)⟩
theorem lw_p43 : lw_okq (⟨"StrandBoxesModel", "upsideDown", "(II)I"⟩, 27) := ⟨⟨by decide +kernel, by decide +kernel⟩, List.mem_of_getElem? (i := 549) (by decide +kernel), List.mem_of_getElem? (i := 707) (by decide +kernel), List.mem_of_getElem? (i := 708) (by decide +kernel)⟩
theorem lw_p44 : lw_okq (⟨"StrandBoxesModel", "ringsClosed", "(II)I"⟩, 27) := ⟨⟨by decide +kernel, by decide +kernel⟩, List.mem_of_getElem? (i := 549) (by decide +kernel), List.mem_of_getElem? (i := 711) (by decide +kernel), List.mem_of_getElem? (i := 712) (by decide +kernel)⟩
theorem lw_p45 : lw_okq (⟨"StrandBoxesModel", "store", "(II)I"⟩, 27) := ⟨⟨by decide +kernel, by decide +kernel⟩, List.mem_of_getElem? (i := 549) (by decide +kernel), List.mem_of_getElem? (i := 740) (by decide +kernel), List.mem_of_getElem? (i := 741) (by decide +kernel)⟩
theorem lw_p46 : lw_okq (⟨"StrandBoxesModel", "load", "(I)V"⟩, 27) := ⟨⟨by decide +kernel, by decide +kernel⟩, List.mem_of_getElem? (i := 549) (by decide +kernel), List.mem_of_getElem? (i := 751) (by decide +kernel), List.mem_of_getElem? (i := 752) (by decide +kernel)⟩
theorem lw_p47 : lw_okq (⟨"StrandBoxesModel", "comes", "(IIJ)Z"⟩, 27) := ⟨⟨by decide +kernel, by decide +kernel⟩, List.mem_of_getElem? (i := 549) (by decide +kernel), List.mem_of_getElem? (i := 755) (by decide +kernel), List.mem_of_getElem? (i := 756) (by decide +kernel)⟩
def lw_privs_3 : List (MethodName × Nat) := [(⟨"StrandBoxes$Halves", "clearBelow", "(IIII)V"⟩, 7), (⟨"StrandBoxes$Crossings", "addStates", "(LStrandBoxes$Boxes;)V"⟩, 5), (⟨"StrandBoxes$Crossings", "addState", "(II)V"⟩, 5), (⟨"StrandBoxesModel", "decode", "(II)V"⟩, 27), (⟨"StrandBoxesModel", "findWords", "(I)V"⟩, 27), (⟨"StrandBoxesModel", "plainBox", "(II)I"⟩, 27), (⟨"StrandBoxesModel", "numberOf", "(I)I"⟩, 27), (⟨"StrandBoxesModel", "stacked", "(III)I"⟩, 27), (⟨"StrandBoxesModel", "lead", "(IIII)I"⟩, 27), (⟨"StrandBoxesModel", "isPlane", "(II)Z"⟩, 27), (⟨"StrandBoxesModel", "through", "(II)I"⟩, 27), (⟨"StrandBoxesModel", "upsideDown", "(II)I"⟩, 27), (⟨"StrandBoxesModel", "ringsClosed", "(II)I"⟩, 27), (⟨"StrandBoxesModel", "store", "(II)I"⟩, 27), (⟨"StrandBoxesModel", "load", "(I)V"⟩, 27), (⟨"StrandBoxesModel", "comes", "(IIJ)Z"⟩, 27)]
theorem lw_r3 : ∀ q ∈ lw_privs_3, lw_okq q := List.forall_mem_cons.mpr ⟨lw_p32, List.forall_mem_cons.mpr ⟨lw_p33, List.forall_mem_cons.mpr ⟨lw_p34, List.forall_mem_cons.mpr ⟨lw_p35, List.forall_mem_cons.mpr ⟨lw_p36, List.forall_mem_cons.mpr ⟨lw_p37, List.forall_mem_cons.mpr ⟨lw_p38, List.forall_mem_cons.mpr ⟨lw_p39, List.forall_mem_cons.mpr ⟨lw_p40, List.forall_mem_cons.mpr ⟨lw_p41, List.forall_mem_cons.mpr ⟨lw_p42, List.forall_mem_cons.mpr ⟨lw_p43, List.forall_mem_cons.mpr ⟨lw_p44, List.forall_mem_cons.mpr ⟨lw_p45, List.forall_mem_cons.mpr ⟨lw_p46, List.forall_mem_cons.mpr ⟨lw_p47, fun _ h => absurd h List.not_mem_nil⟩⟩⟩⟩⟩⟩⟩⟩⟩⟩⟩⟩⟩⟩⟩⟩
theorem lw_p48 : lw_okq (⟨"StrandBoxesModel", "move", "(II)V"⟩, 27) := ⟨⟨by decide +kernel, by decide +kernel⟩, List.mem_of_getElem? (i := 549) (by decide +kernel), List.mem_of_getElem? (i := 761) (by decide +kernel), List.mem_of_getElem? (i := 762) (by decide +kernel)⟩
theorem lw_p49 : lw_okq (⟨"StrandBoxesModel", "lay", "(III[I)I"⟩, 27) := ⟨⟨by decide +kernel, by decide +kernel⟩, List.mem_of_getElem? (i := 549) (by decide +kernel), List.mem_of_getElem? (i := 796) (by decide +kernel), List.mem_of_getElem? (i := 797) (by decide +kernel)⟩
theorem lw_p50 : lw_okq (⟨"StrandBoxesModel", "formOf", "(I)I"⟩, 27) := ⟨⟨by decide +kernel, by decide +kernel⟩, List.mem_of_getElem? (i := 549) (by decide +kernel), List.mem_of_getElem? (i := 811) (by decide +kernel), List.mem_of_getElem? (i := 812) (by decide +kernel)⟩
theorem lw_p51 : lw_okq (⟨"StrandBoxesModel", "reduce", "(IIIII)V"⟩, 27) := ⟨⟨by decide +kernel, by decide +kernel⟩, List.mem_of_getElem? (i := 549) (by decide +kernel), List.mem_of_getElem? (i := 826) (by decide +kernel), List.mem_of_getElem? (i := 827) (by decide +kernel)⟩
theorem lw_p52 : lw_okq (⟨"StrandBoxesModel", "addState", "(I)V"⟩, 27) := ⟨⟨by decide +kernel, by decide +kernel⟩, List.mem_of_getElem? (i := 549) (by decide +kernel), List.mem_of_getElem? (i := 852) (by decide +kernel), List.mem_of_getElem? (i := 853) (by decide +kernel)⟩
def lw_privs_4 : List (MethodName × Nat) := [(⟨"StrandBoxesModel", "move", "(II)V"⟩, 27), (⟨"StrandBoxesModel", "lay", "(III[I)I"⟩, 27), (⟨"StrandBoxesModel", "formOf", "(I)I"⟩, 27), (⟨"StrandBoxesModel", "reduce", "(IIIII)V"⟩, 27), (⟨"StrandBoxesModel", "addState", "(I)V"⟩, 27)]
theorem lw_r4 : ∀ q ∈ lw_privs_4, lw_okq q := List.forall_mem_cons.mpr ⟨lw_p48, List.forall_mem_cons.mpr ⟨lw_p49, List.forall_mem_cons.mpr ⟨lw_p50, List.forall_mem_cons.mpr ⟨lw_p51, List.forall_mem_cons.mpr ⟨lw_p52, fun _ h => absurd h List.not_mem_nil⟩⟩⟩⟩⟩
def lw_privs : List (MethodName × Nat) := lw_privs_1 ++ (lw_privs_2 ++ (lw_privs_3 ++ (lw_privs_4)))
def lw_tbl : List Cond := k2_sels lw_privs ++ tables_1
theorem lw_privs_ok : ∀ q ∈ lw_privs, lw_okq q := by
  show ∀ q ∈ lw_privs_1 ++ (lw_privs_2 ++ (lw_privs_3 ++ (lw_privs_4))), lw_okq q
  exact List.forall_mem_append.mpr ⟨lw_r1, List.forall_mem_append.mpr ⟨lw_r2, List.forall_mem_append.mpr ⟨lw_r3, lw_r4⟩⟩⟩
-- ===== end of PART A; then your names; then what follows =====
/-- the table says that there is an array class over arrays of ty -/
def va_AOA (ty : FieldType) (U : State) : Prop := (Cond.arrayOver (.array ty)).before #[] U = true
theorem va_AOA.use {ty : FieldType} {A : Array Value} {U : State} (h : va_AOA ty U) : (Cond.arrayOver (.array ty)).before A U = true := h
/-! ===== BEGIN new T[n][m]: the outer array a place, the inner ones among the pooled ===== -/
/-- f, but v at every address of l -/
def vr_up {α : Type} (f : Nat → α) (l : List Nat) (v : α) : Nat → α := fun a => if a ∈ l then v else f a
theorem vr_up_in {α : Type} {f : Nat → α} {l : List Nat} {v : α} {a : Nat} (h : a ∈ l) : vr_up f l v a = v := if_pos h
theorem vr_up_ne {α : Type} {f : Nat → α} {l : List Nat} {v : α} {a : Nat} (h : a ∉ l) : vr_up f l v a = f a := if_neg h
theorem vr_rows {L l : List Nat} {f : Nat → va_E} {e : va_E} (h : ∀ a, a ∈ l → a ∉ L) : va_pl L f ++ l.map (fun a => (a, e)) = va_pl (L ++ l) (vr_up f l e) := by
  unfold va_pl
  rw [List.map_append]
  congr 1
  · apply List.map_congr_left
    intro a ha
    rw [vr_up_ne (fun q => h a q ha)]
  · apply List.map_congr_left
    intro a ha
    rw [vr_up_in ha]
theorem vr_lay {X rows : va_W} {x : Nat × va_E} {pl : va_W} {D : va_G} {cl : List vw_C} {H : Heap} (hP : va_P D cl (((X ++ pl) ++ [x]) ++ rows) H) : va_P D cl ((X ++ [x]) ++ (pl ++ rows)) H := by
  rw [List.append_assoc (X ++ pl)] at hP
  have h := va_P.swap hP
  rw [← List.append_assoc X] at h
  have h2 := va_P.swap h
  rw [List.append_assoc (X ++ [x])] at h2
  exact h2
theorem vr_layD {X rows : va_W} {x : Nat × va_E} {pl : va_W} {A : Nat → Prop} (hD : va_D A (((X ++ pl) ++ [x]) ++ rows)) : va_D A ((X ++ [x]) ++ (pl ++ rows)) := by
  rw [List.append_assoc (X ++ pl)] at hD
  have h := va_D.swap hD
  rw [← List.append_assoc X] at h
  have h2 := va_D.swap h
  rw [List.append_assoc (X ++ [x])] at h2
  exact h2
theorem vr_outer (c : ClassId) (N h0 : Nat) : ∀ i : Nat, Jvm.Free.Multi.outerC c N h0 i = arrV c N (fun j => va_rf (if j < i then some (h0 + 1 + j) else none))
  | 0 => by
    show ({ cls := c, slots := Array.replicate N .null, vm := .none } : Cell) = _
    rw [arrV_new]
    refine congrArg (arrV c N) (funext fun j => ?_)
    simp [va_rf]
  | i + 1 => by
    show (Jvm.Free.Multi.outerC c N h0 i).setSlot i (.ref (h0 + 1 + i)) = _
    rw [vr_outer c N h0 i, arrV_store]
    refine congrArg (arrV c N) (funext fun j => ?_)
    by_cases e : j = i
    · subst e
      simp [updV, va_rf]
    · by_cases h : j < i
      · simp [updV, e, h, Nat.lt_succ_of_lt h]
      · simp [updV, e, h, show ¬ j < i + 1 by omega]
section VGM
variable {p : Program} {l : Launch} {e : Env} {R : Room} {s : State} {m : MethodId} {args : Array Value} {below : List Frame} {meth : Method} {c : Code} {H : Heap} {locs : List Loc} {cells slots : Nat} {Q : State → Prop}
variable {cc : ByteArray} {pc : Nat} {ls : Array Slot} {rest : List Value} {D : va_G} {cl : List vw_C} {A : Nat → Prop} {a : Nat} {tys : List (ClassId × FieldType)} {ws : va_W} {H0 : Heap}
theorem va_mna {X : va_W} {L : List Nat} {f : Nat → va_E} {cc : ByteArray} (hexec : p.tables.exec = Jvm.exec) (hb : c.code = cc) {own : String} {index : Nat} {ty : FieldType} {cy : ClassId} (hown : s.vm.findClass own = some m.cls) (hclink : (Cond.classLink own index ("[" ++ (FieldType.array ty).toString)).before args s = true) (hover : va_AOA ty s) (harr : (Cond.arrayClass ty).before args s = true) (hcy : s.vm.findClass (FieldType.array ty).toString = some cy)
    (hK : va_K D cl tys s) (hP : va_P D cl (X ++ va_pl L f) H) (hD : va_D A (X ++ va_pl L f)) (hS : va_S A H0 H locs) (hA : ∀ q, H0.size ≤ q → A q) {n k : Int32} {N' K' : Nat} {z : vp_A} (hn : ¬ n < 0) (hk : ¬ k < 0) (hN : n.toNatClampNeg = N') (hM : k.toNatClampNeg = K')
    (hb1 : N' * 4 ≤ 536870912) (hb2 : K' * componentBytes ty ≤ 536870912) (hb3 : K' ≤ 536870912) (hdf : fits ty (defaultValue ty) = true) (hdd : (defaultValue ty).isDefault = true) (hcells : cells + (1 + N') ≤ R.cells) (hslots : slots + (N' + N' * K') ≤ R.slots) (hz : ∀ c : ClassId, Jvm.Free.Multi.innerC c K' (defaultValue ty) = vp_cell c z) (hdg : decode cc pc = .ok (.multianewarray index 2, 4))
    (kk : ∀ (q : Nat) (r : Nat → Nat) (cA : ClassId) (H1 : Heap), (∀ i j : Nat, i < N' → j < N' → r i = r j → i = j) → (∀ i : Nat, i < N' → r i ∉ L) → va_K D cl (tys ++ [(cA, .array ty)]) s →
      va_P D cl ((X ++ [(q, .inl (cA, N', .inr (.inr (.inr (.inr (fun i => if i < N' then some (r i) else none))))))]) ++ va_pl (L ++ (List.range N').map r) (vr_up f ((List.range N').map r) (.inl (cy, z)))) H1 → va_D A ((X ++ [(q, .inl (cA, N', .inr (.inr (.inr (.inr (fun i => if i < N' then some (r i) else none))))))]) ++ va_pl (L ++ (List.range N').map r) (vr_up f ((List.range N').map r) (.inl (cy, z)))) → va_S A H0 H1 locs →
      W p l e R s m args below meth c H1 locs (cells + 1 + N') (slots + N' + N' * K') Q (F0 m (pc + 4) ls (.ref q :: rest))) : W p l e R s m args below meth c H locs cells slots Q (F0 m pc ls (.int k :: .int n :: rest)) := by
  subst hN
  subst hM
  intro T hT Xs
  obtain ⟨vm₁, cA, comp, -, fA, fC, hO, -, X', step⟩ := Xs.multianewarray2F hexec hown hclink (va_AOA.use hover) harr (g := F0 m pc ls (.int k :: .int n :: rest)) rfl (by rw [hb]; exact hdg) rfl hn hk hb1 hb2 hb3 hdf hdd hcells hslots
  have ec : some cy = some comp := hcy.symm.trans fC
  cases ec
  generalize hF : Jvm.Free.Multi.fill (T.setVm vm₁) cA cy n.toNatClampNeg k.toNatClampNeg (defaultValue ty) n.toNatClampNeg = F at X' step
  have hTh : (T.setVm vm₁).heap = H := hT
  obtain ⟨f1, f2, -, -⟩ := Jvm.Free.Multi.fill_facts (T.setVm vm₁) cA cy n.toNatClampNeg k.toNatClampNeg (defaultValue ty) n.toNatClampNeg
  rw [hF, hTh] at f1 f2
  have hold : ∀ x : Nat, x < H.size → F.heap[x]? = H[x]? := fun x hx => by
    have := Jvm.Free.Multi.fill_old (T.setVm vm₁) cA cy n.toNatClampNeg k.toNatClampNeg (defaultValue ty) (a := x) (by rw [hTh]; exact hx) n.toNatClampNeg
    rw [hF, hTh] at this
    exact this
  have hrow : ∀ j : Nat, j < n.toNatClampNeg → F.heap[H.size + 1 + j]? = some (vp_cell cy z) := fun j hj => by
    have := Jvm.Free.Multi.fill_inner (T.setVm vm₁) cA cy n.toNatClampNeg k.toNatClampNeg (defaultValue ty) n.toNatClampNeg j hj
    rw [hF, hTh, hz] at this
    exact this
  have hout : Jvm.Free.Multi.outerC cA n.toNatClampNeg H.size n.toNatClampNeg = vp_cell cA (n.toNatClampNeg, .inr (.inr (.inr (.inr (fun i => if i < n.toNatClampNeg then some (H.size + 1 + i) else none))))) := by
    rw [vp_cell_q]
    exact vr_outer cA n.toNatClampNeg H.size n.toNatClampNeg
  rw [hout] at f2
  have hlt : ∀ a, a ∈ L → a < H.size := fun a ha => by
    obtain ⟨k9, hk9⟩ := va_pl_get (X := X) (f := f) ha
    exact (hP k9 _ hk9).lt
  have hnl : ∀ i : Nat, i < n.toNatClampNeg → H.size + 1 + i ∉ L := fun i _ h => by
    have := hlt _ h
    omega
  have hnm : ∀ a, a ∈ (List.range n.toNatClampNeg).map (fun i => H.size + 1 + i) → a ∉ L := fun a ha h => by
    obtain ⟨i, -, rfl⟩ := List.mem_map.mp ha
    have := hlt _ h
    omega
  have hP0 : va_P D cl (X ++ va_pl L f) F.heap := hP.kept (fun k9 x hx => hold x.1 ((hP k9 x hx).lt))
  have hP1 : va_P D cl ((X ++ va_pl L f) ++ [(H.size, .inl (cA, n.toNatClampNeg, .inr (.inr (.inr (.inr (fun i => if i < n.toNatClampNeg then some (H.size + 1 + i) else none))))))]) F.heap := hP0.app (fun k9 x hx => by
    have h0 : k9 < 1 := (List.getElem?_eq_some_iff.mp hx).1
    rw [show k9 = 0 by omega] at hx
    cases hx
    exact f2)
  have hP2 : va_P D cl (((X ++ va_pl L f) ++ [(H.size, .inl (cA, n.toNatClampNeg, .inr (.inr (.inr (.inr (fun i => if i < n.toNatClampNeg then some (H.size + 1 + i) else none))))))]) ++ ((List.range n.toNatClampNeg).map (fun i => H.size + 1 + i)).map (fun a => (a, .inl (cy, z)))) F.heap := hP1.app (fun k9 x hx => by
    obtain ⟨a, ha, rfl⟩ := List.mem_map.mp (List.mem_of_getElem? hx)
    obtain ⟨i, hi, rfl⟩ := List.mem_map.mp ha
    exact hrow i (List.mem_range.mp hi))
  have hD2 : va_D A (((X ++ va_pl L f) ++ [(H.size, .inl (cA, n.toNatClampNeg, .inr (.inr (.inr (.inr (fun i => if i < n.toNatClampNeg then some (H.size + 1 + i) else none))))))]) ++ ((List.range n.toNatClampNeg).map (fun i => H.size + 1 + i)).map (fun a => (a, .inl (cy, z)))) := by
    have hD1 := hD.push (e := .inl (cA, n.toNatClampNeg, .inr (.inr (.inr (.inr (fun i => if i < n.toNatClampNeg then some (H.size + 1 + i) else none)))))) hP rfl (hA _ hS.1)
    generalize hW1 : (X ++ va_pl L f) ++ [(H.size, .inl (cA, n.toNatClampNeg, .inr (.inr (.inr (.inr (fun i => if i < n.toNatClampNeg then some (H.size + 1 + i) else none))))))] = W1 at hD1 hP1 ⊢
    have hle : ∀ (k9 : Nat) (x : Nat × va_E), W1[k9]? = some x → x.1 ≤ H.size := fun k9 x hx => by
      rw [← hW1] at hx
      by_cases hl : k9 < (X ++ va_pl L f).length
      · rw [List.getElem?_append_left hl] at hx
        exact Nat.le_of_lt ((hP k9 x hx).lt)
      · rw [List.getElem?_append_right (by omega)] at hx
        have h0 : k9 - (X ++ va_pl L f).length < 1 := (List.getElem?_eq_some_iff.mp hx).1
        rw [show k9 - (X ++ va_pl L f).length = 0 by omega] at hx
        cases hx
        exact Nat.le_refl _
    have hr : ∀ (k9 : Nat) (x : Nat × va_E), (((List.range n.toNatClampNeg).map (fun i => H.size + 1 + i)).map (fun a => ((a, .inl (cy, z)) : Nat × va_E)))[k9]? = some x → x.1 = H.size + 1 + k9 := fun k9 x hx => by
      rw [List.getElem?_map, List.getElem?_map] at hx
      by_cases h9 : k9 < n.toNatClampNeg
      · rw [List.getElem?_range h9] at hx
        cases hx
        rfl
      · have hn0 : (List.range n.toNatClampNeg)[k9]? = none := List.getElem?_eq_none (by rw [List.length_range]; omega)
        rw [hn0] at hx
        cases hx
    refine ⟨fun i j x y hi hj hxy => ?_, fun k9 x hx => ?_⟩
    · by_cases h1 : i < W1.length <;> by_cases h2 : j < W1.length
      · rw [List.getElem?_append_left h1] at hi
        rw [List.getElem?_append_left h2] at hj
        exact hD1.1 i j x y hi hj hxy
      · rw [List.getElem?_append_left h1] at hi
        rw [List.getElem?_append_right (by omega)] at hj
        have := hle _ _ hi
        have := hr _ _ hj
        omega
      · rw [List.getElem?_append_right (by omega)] at hi
        rw [List.getElem?_append_left h2] at hj
        have := hle _ _ hj
        have := hr _ _ hi
        omega
      · rw [List.getElem?_append_right (by omega)] at hi hj
        have := hr _ _ hi
        have := hr _ _ hj
        omega
    · by_cases h1 : k9 < W1.length
      · rw [List.getElem?_append_left h1] at hx
        exact hD1.2 k9 x hx
      · rw [List.getElem?_append_right (by omega)] at hx
        have := hr _ _ hx
        exact hA _ (by have := hS.1; omega)
  have hAr : ArrOfT s cA (.array ty) := fun N9 z9 => by
    obtain ⟨-, k9, hk9, cm9, hkk9⟩ := (hO 0 0 0).1
    exact ⟨(fun q hq => by cases hq), k9, hk9, cm9, hkk9⟩
  have hK2 : va_K D cl (tys ++ [(cA, .array ty)]) s := ⟨hK.1, fun k9 x hx => by
    by_cases hl : k9 < tys.length
    · rw [List.getElem?_append_left hl] at hx
      exact hK.2 k9 x hx
    · rw [List.getElem?_append_right (by omega)] at hx
      have h0 : k9 - tys.length < 1 := (List.getElem?_eq_some_iff.mp hx).1
      rw [show k9 - tys.length = 0 by omega] at hx
      cases hx
      exact ⟨hAr, fA⟩⟩
  obtain ⟨t, a1, b1⟩ := kk H.size (fun i => H.size + 1 + i) cA F.heap (fun i j _ _ h => by have h9 : H.size + 1 + i = H.size + 1 + j := h; omega) hnl hK2 (by rw [← vr_rows hnm]; exact vr_lay hP2) (by rw [← vr_rows hnm]; exact vr_layD hD2) ⟨by rw [f1]; have := hS.1; omega, fun x h1 h2 => (hold x (Nat.lt_of_lt_of_le h1 hS.1)).trans (hS.2.1 x h1 h2), hS.2.2⟩ F rfl X'
  refine ⟨t, step t ?_, b1⟩
  have e : T.heap.size = H.size := by rw [hT]
  rw [e]
  exact a1
end VGM
/-! ===== END ===== -/

/-! ===== BEGIN printed: names, fields, word lists, decode rows ===== -/
def RX0 : String := "StrandBoxes$Boxes"
def TX0 : u_T := fun k => match k with
  | 0 => ("StrandBoxes$Boxes", "strands", "I", true)
  | 1 => ("StrandBoxes$Boxes", "points", "I", true)
  | 2 => ("StrandBoxes$Boxes", "letters", "I", true)
  | 3 => ("StrandBoxes$Boxes", "count", "I", true)
  | 4 => ("StrandBoxes$Boxes", "partners", "[[I", true)
  | 5 => ("StrandBoxes$Boxes", "rings", "[I", true)
  | 6 => ("StrandBoxes$Boxes", "lengths", "[I", true)
  | 7 => ("StrandBoxes$Boxes", "spellings", "[[I", true)
  | 8 => ("StrandBoxes$Boxes", "beneath", "[[I", true)
  | 9 => ("StrandBoxes$Boxes", "draft", "[I", true)
  | _ => ("StrandBoxes$Boxes", "seen", "[Z", true)
def tyX0 : Nat → FieldType := fun k => match k with
  | 0 => .int
  | 1 => .int
  | 2 => .int
  | 3 => .int
  | 4 => .array (.array .int)
  | 5 => .array .int
  | 6 => .array .int
  | 7 => .array (.array .int)
  | 8 => .array (.array .int)
  | 9 => .array .int
  | _ => .array .boolean
abbrev wsX00 : List Cond := u_ws RX0 TX0 11
theorem nmX0 : ∀ a, a < 11 → ∀ b, b < 11 → a ≠ b → (TX0 a).2.1 ≠ (TX0 b).2.1 := by decide +kernel
theorem tyX0_ok : ∀ k, k < 11 → parseFieldDescriptor (TX0 k).2.2.1 = some (tyX0 k) := by decide +kernel
abbrev cX0_init : ByteArray := prog_2_method_1_code
def yX0_init : MethodName := ⟨RX0, "<init>", "(I)V"⟩
abbrev cX0_countPairings : ByteArray := prog_2_method_2_code
def yX0_countPairings : MethodName := ⟨RX0, "countPairings", "(I)I"⟩
abbrev cX0_listPairings : ByteArray := prog_2_method_3_code
def yX0_listPairings : MethodName := ⟨RX0, "listPairings", "()V"⟩
abbrev cX0_pairBy : ByteArray := prog_2_method_4_code
def yX0_pairBy : MethodName := ⟨RX0, "pairBy", "([I[I)V"⟩
abbrev cX0_freeBehind : ByteArray := prog_2_method_5_code
def yX0_freeBehind : MethodName := ⟨RX0, "freeBehind", "(II)I"⟩
abbrev cX0_countUp : ByteArray := prog_2_method_6_code
def yX0_countUp : MethodName := ⟨RX0, "countUp", "([I)V"⟩
abbrev cX0_numberOf : ByteArray := prog_2_method_7_code
def yX0_numberOf : MethodName := ⟨RX0, "numberOf", "([I)I"⟩
abbrev cX0_countPlane : ByteArray := prog_2_method_8_code
def yX0_countPlane : MethodName := ⟨RX0, "countPlane", "()I"⟩
abbrev cX0_isPlane : ByteArray := prog_2_method_9_code
def yX0_isPlane : MethodName := ⟨RX0, "isPlane", "(I)Z"⟩
abbrev cX0_isBetween : ByteArray := prog_2_method_10_code
def yX0_isBetween : MethodName := ⟨RX0, "isBetween", "(III)Z"⟩
abbrev cX0_placeRound : ByteArray := prog_2_method_11_code
def yX0_placeRound : MethodName := ⟨RX0, "placeRound", "(I)I"⟩
abbrev cX0_countThrough : ByteArray := prog_2_method_12_code
def yX0_countThrough : MethodName := ⟨RX0, "countThrough", "(I)I"⟩
abbrev cX0_upsideDown : ByteArray := prog_2_method_13_code
def yX0_upsideDown : MethodName := ⟨RX0, "upsideDown", "(I)I"⟩
abbrev cX0_across : ByteArray := prog_2_method_14_code
def yX0_across : MethodName := ⟨RX0, "across", "(I)I"⟩
abbrev cX0_closeRings : ByteArray := prog_2_method_15_code
def yX0_closeRings : MethodName := ⟨RX0, "closeRings", "([I)I"⟩
abbrev cX0_forgetSeen : ByteArray := prog_2_method_16_code
def yX0_forgetSeen : MethodName := ⟨RX0, "forgetSeen", "()V"⟩
abbrev cX0_stackLetters : ByteArray := prog_2_method_17_code
def yX0_stackLetters : MethodName := ⟨RX0, "stackLetters", "()V"⟩
abbrev cX0_letterAt : ByteArray := prog_2_method_18_code
def yX0_letterAt : MethodName := ⟨RX0, "letterAt", "(I)I"⟩
abbrev cX0_isLetter : ByteArray := prog_2_method_19_code
def yX0_isLetter : MethodName := ⟨RX0, "isLetter", "(I)Z"⟩
abbrev cX0_ofLetter : ByteArray := prog_2_method_20_code
def yX0_ofLetter : MethodName := ⟨RX0, "ofLetter", "(I)I"⟩
abbrev cX0_pair : ByteArray := prog_2_method_21_code
def yX0_pair : MethodName := ⟨RX0, "pair", "([III)V"⟩
abbrev cX0_ofPairs : ByteArray := prog_2_method_22_code
def yX0_ofPairs : MethodName := ⟨RX0, "ofPairs", "(J)I"⟩
abbrev cX0_join : ByteArray := prog_2_method_23_code
def yX0_join : MethodName := ⟨RX0, "join", "([I[I)I"⟩
abbrev cX0_follow : ByteArray := prog_2_method_24_code
def yX0_follow : MethodName := ⟨RX0, "follow", "([I[II)I"⟩
abbrev cX0_countInnerRings : ByteArray := prog_2_method_25_code
def yX0_countInnerRings : MethodName := ⟨RX0, "countInnerRings", "([I[I)I"⟩
abbrev cX0_spellAll : ByteArray := prog_2_method_26_code
def yX0_spellAll : MethodName := ⟨RX0, "spellAll", "()V"⟩
abbrev cX0_spellBehind : ByteArray := prog_2_method_27_code
def yX0_spellBehind : MethodName := ⟨RX0, "spellBehind", "(III)V"⟩
abbrev cX0_letterOf : ByteArray := prog_2_method_28_code
def yX0_letterOf : MethodName := ⟨RX0, "letterOf", "(II)I"⟩
abbrev cX0_stackOn : ByteArray := prog_2_method_29_code
def yX0_stackOn : MethodName := ⟨RX0, "stackOn", "(II)I"⟩
def RX1 : String := "StrandBoxes$Crossings"
def TX1 : u_T := fun k => match k with
  | 0 => ("StrandBoxes$Crossings", "strands", "I", false)
  | 1 => ("StrandBoxes$Crossings", "size", "I", false)
  | 2 => ("StrandBoxes$Crossings", "letters", "[I", true)
  | 3 => ("StrandBoxes$Crossings", "wholes", "[I", true)
  | _ => ("StrandBoxes$Crossings", "summed", "Z", false)
def tyX1 : Nat → FieldType := fun k => match k with
  | 0 => .int
  | 1 => .int
  | 2 => .array .int
  | 3 => .array .int
  | _ => .boolean
abbrev wsX10 : List Cond := u_ws RX1 TX1 5
theorem nmX1 : ∀ a, a < 5 → ∀ b, b < 5 → a ≠ b → (TX1 a).2.1 ≠ (TX1 b).2.1 := by decide +kernel
theorem tyX1_ok : ∀ k, k < 5 → parseFieldDescriptor (TX1 k).2.2.1 = some (tyX1 k) := by decide +kernel
abbrev cX1_init : ByteArray := prog_3_method_1_code
def yX1_init : MethodName := ⟨RX1, "<init>", "()V"⟩
abbrev cX1_begin : ByteArray := prog_3_method_2_code
def yX1_begin : MethodName := ⟨RX1, "begin", "(I)V"⟩
abbrev cX1_allows : ByteArray := prog_3_method_3_code
def yX1_allows : MethodName := ⟨RX1, "allows", "(I)Z"⟩
abbrev cX1_append : ByteArray := prog_3_method_4_code
def yX1_append : MethodName := ⟨RX1, "append", "(I)Z"⟩
abbrev cX1_dropLast : ByteArray := prog_3_method_5_code
def yX1_dropLast : MethodName := ⟨RX1, "dropLast", "()Z"⟩
abbrev cX1_wholeAt : ByteArray := prog_3_method_6_code
def yX1_wholeAt : MethodName := ⟨RX1, "wholeAt", "(ILStrandBoxes$Boxes;)I"⟩
abbrev cX1_addStates : ByteArray := prog_3_method_7_code
def yX1_addStates : MethodName := ⟨RX1, "addStates", "(LStrandBoxes$Boxes;)V"⟩
abbrev cX1_addState : ByteArray := prog_3_method_8_code
def yX1_addState : MethodName := ⟨RX1, "addState", "(II)V"⟩
def RX2 : String := "StrandBoxes$Halves"
def TX2 : u_T := fun k => match k with
  | 0 => ("StrandBoxes$Halves", "strands", "I", true)
  | 1 => ("StrandBoxes$Halves", "partners", "[[I", true)
  | 2 => ("StrandBoxes$Halves", "left", "[I", true)
  | 3 => ("StrandBoxes$Halves", "table", "[[I", true)
  | 4 => ("StrandBoxes$Halves", "draft", "[I", true)
  | 5 => ("StrandBoxes$Halves", "seen", "[Z", true)
  | _ => ("StrandBoxes$Halves", "size", "I", false)
def tyX2 : Nat → FieldType := fun k => match k with
  | 0 => .int
  | 1 => .array (.array .int)
  | 2 => .array .int
  | 3 => .array (.array .int)
  | 4 => .array .int
  | 5 => .array .boolean
  | _ => .int
abbrev wsX20 : List Cond := u_ws RX2 TX2 7
theorem nmX2 : ∀ a, a < 7 → ∀ b, b < 7 → a ≠ b → (TX2 a).2.1 ≠ (TX2 b).2.1 := by decide +kernel
theorem tyX2_ok : ∀ k, k < 7 → parseFieldDescriptor (TX2 k).2.2.1 = some (tyX2 k) := by decide +kernel
abbrev cX2_init : ByteArray := prog_4_method_1_code
def yX2_init : MethodName := ⟨RX2, "<init>", "(I)V"⟩
abbrev cX2_nextDraft : ByteArray := prog_4_method_2_code
def yX2_nextDraft : MethodName := ⟨RX2, "nextDraft", "()V"⟩
abbrev cX2_keepDraft : ByteArray := prog_4_method_3_code
def yX2_keepDraft : MethodName := ⟨RX2, "keepDraft", "()V"⟩
abbrev cX2_isHalf : ByteArray := prog_4_method_4_code
def yX2_isHalf : MethodName := ⟨RX2, "isHalf", "([I)Z"⟩
abbrev cX2_keepsWithin : ByteArray := prog_4_method_5_code
def yX2_keepsWithin : MethodName := ⟨RX2, "keepsWithin", "([III)Z"⟩
abbrev cX2_countLeaving : ByteArray := prog_4_method_6_code
def yX2_countLeaving : MethodName := ⟨RX2, "countLeaving", "(I)I"⟩
abbrev cX2_find : ByteArray := prog_4_method_7_code
def yX2_find : MethodName := ⟨RX2, "find", "(II)I"⟩
abbrev cX2_lay : ByteArray := prog_4_method_8_code
def yX2_lay : MethodName := ⟨RX2, "lay", "(II)I"⟩
abbrev cX2_leadsOut : ByteArray := prog_4_method_9_code
def yX2_leadsOut : MethodName := ⟨RX2, "leadsOut", "([I[II)Z"⟩
abbrev cX2_goRound : ByteArray := prog_4_method_10_code
def yX2_goRound : MethodName := ⟨RX2, "goRound", "([I[II)V"⟩
abbrev cX2_rank : ByteArray := prog_4_method_11_code
def yX2_rank : MethodName := ⟨RX2, "rank", "(III)I"⟩
abbrev cX2_fillTable : ByteArray := prog_4_method_12_code
def yX2_fillTable : MethodName := ⟨RX2, "fillTable", "(III)I"⟩
abbrev cX2_fillRow : ByteArray := prog_4_method_13_code
def yX2_fillRow : MethodName := ⟨RX2, "fillRow", "([IIII)V"⟩
abbrev cX2_raise : ByteArray := prog_4_method_14_code
def yX2_raise : MethodName := ⟨RX2, "raise", "(III)I"⟩
abbrev cX2_swapRows : ByteArray := prog_4_method_15_code
def yX2_swapRows : MethodName := ⟨RX2, "swapRows", "(III)V"⟩
abbrev cX2_clearBelow : ByteArray := prog_4_method_16_code
def yX2_clearBelow : MethodName := ⟨RX2, "clearBelow", "(IIII)V"⟩
def RX3 : String := "StrandBoxes$Sum"
def TX3 : u_T := fun k => match k with
  | 0 => ("StrandBoxes$Sum", "strands", "I", false)
  | 1 => ("StrandBoxes$Sum", "size", "I", false)
  | 2 => ("StrandBoxes$Sum", "numbers", "[I", true)
  | 3 => ("StrandBoxes$Sum", "powers", "[I", true)
  | _ => ("StrandBoxes$Sum", "factors", "[J", true)
def tyX3 : Nat → FieldType := fun k => match k with
  | 0 => .int
  | 1 => .int
  | 2 => .array .int
  | 3 => .array .int
  | _ => .array .long
abbrev wsX30 : List Cond := u_ws RX3 TX3 5
theorem nmX3 : ∀ a, a < 5 → ∀ b, b < 5 → a ≠ b → (TX3 a).2.1 ≠ (TX3 b).2.1 := by decide +kernel
theorem tyX3_ok : ∀ k, k < 5 → parseFieldDescriptor (TX3 k).2.2.1 = some (tyX3 k) := by decide +kernel
abbrev cX3_init : ByteArray := prog_5_method_1_code
def yX3_init : MethodName := ⟨RX3, "<init>", "()V"⟩
abbrev cX3_begin : ByteArray := prog_5_method_2_code
def yX3_begin : MethodName := ⟨RX3, "begin", "(I)V"⟩
abbrev cX3_take : ByteArray := prog_5_method_3_code
def yX3_take : MethodName := ⟨RX3, "take", "(LStrandBoxes$Sum;)V"⟩
abbrev cX3_isLike : ByteArray := prog_5_method_4_code
def yX3_isLike : MethodName := ⟨RX3, "isLike", "(LStrandBoxes$Sum;)Z"⟩
abbrev cX3_isAt : ByteArray := prog_5_method_5_code
def yX3_isAt : MethodName := ⟨RX3, "isAt", "(III)Z"⟩
abbrev cX3_isFactor : ByteArray := prog_5_method_6_code
def yX3_isFactor : MethodName := ⟨RX3, "isFactor", "(J)Z"⟩
abbrev cX3_join : ByteArray := prog_5_method_7_code
def yX3_join : MethodName := ⟨RX3, "join", "(IIJ)Z"⟩
abbrev cX3_change : ByteArray := prog_5_method_8_code
def yX3_change : MethodName := ⟨RX3, "change", "(IJ)Z"⟩
abbrev cX3_insert : ByteArray := prog_5_method_9_code
def yX3_insert : MethodName := ⟨RX3, "insert", "(IIIJ)Z"⟩
abbrev cX3_moveTail : ByteArray := prog_5_method_10_code
def yX3_moveTail : MethodName := ⟨RX3, "moveTail", "(II)V"⟩
abbrev cX3_joinAll : ByteArray := prog_5_method_11_code
def yX3_joinAll : MethodName := ⟨RX3, "joinAll", "(LStrandBoxes$Sum;I)Z"⟩
abbrev cX3_joinProducts : ByteArray := prog_5_method_12_code
def yX3_joinProducts : MethodName := ⟨RX3, "joinProducts", "(LStrandBoxes$Sum;LStrandBoxes$Sum;LStrandBoxes$Boxes;)Z"⟩
abbrev cX3_fitsProduct : ByteArray := prog_5_method_13_code
def yX3_fitsProduct : MethodName := ⟨RX3, "fitsProduct", "(JJ)Z"⟩
def RX4 : String := "StrandBoxes"
def TX4 : u_T := fun k => match k with
  | 0 => ("StrandBoxes", "boxes", "[LStrandBoxes$Boxes;", true)
  | 1 => ("StrandBoxes", "halfRows", "[LStrandBoxes$Halves;", true)
  | 2 => ("StrandBoxes", "sums", "[LStrandBoxes$Sum;", true)
  | 3 => ("StrandBoxes", "made", "LStrandBoxes$Sum;", true)
  | _ => ("StrandBoxes", "crossings", "LStrandBoxes$Crossings;", true)
def tyX4 : Nat → FieldType := fun k => match k with
  | 0 => .array (.object "StrandBoxes$Boxes")
  | 1 => .array (.object "StrandBoxes$Halves")
  | 2 => .array (.object "StrandBoxes$Sum")
  | 3 => .object "StrandBoxes$Sum"
  | _ => .object "StrandBoxes$Crossings"
abbrev wsX40 : List Cond := u_ws RX4 TX4 5
theorem nmX4 : ∀ a, a < 5 → ∀ b, b < 5 → a ≠ b → (TX4 a).2.1 ≠ (TX4 b).2.1 := by decide +kernel
theorem tyX4_ok : ∀ k, k < 5 → parseFieldDescriptor (TX4 k).2.2.1 = some (tyX4 k) := by decide +kernel
abbrev cX4_init : ByteArray := prog_1_method_1_code
def yX4_init : MethodName := ⟨RX4, "<init>", "()V"⟩
abbrev cX4_many : ByteArray := prog_1_method_2_code
def yX4_many : MethodName := ⟨RX4, "many", "(II)I"⟩
abbrev cX4_partner : ByteArray := prog_1_method_3_code
def yX4_partner : MethodName := ⟨RX4, "partner", "(III)I"⟩
abbrev cX4_about : ByteArray := prog_1_method_4_code
def yX4_about : MethodName := ⟨RX4, "about", "(III)I"⟩
abbrev cX4_stack : ByteArray := prog_1_method_5_code
def yX4_stack : MethodName := ⟨RX4, "stack", "(III)I"⟩
abbrev cX4_box : ByteArray := prog_1_method_6_code
def yX4_box : MethodName := ⟨RX4, "box", "(IJ)I"⟩
abbrev cX4_plain : ByteArray := prog_1_method_7_code
def yX4_plain : MethodName := ⟨RX4, "plain", "(II)I"⟩
abbrev cX4_word : ByteArray := prog_1_method_8_code
def yX4_word : MethodName := ⟨RX4, "word", "(III)I"⟩
abbrev cX4_clear : ByteArray := prog_1_method_9_code
def yX4_clear : MethodName := ⟨RX4, "clear", "(II)I"⟩
abbrev cX4_add : ByteArray := prog_1_method_10_code
def yX4_add : MethodName := ⟨RX4, "add", "(IIIJ)I"⟩
abbrev cX4_work : ByteArray := prog_1_method_11_code
def yX4_work : MethodName := ⟨RX4, "work", "(IIII)I"⟩
abbrev cX4_sum : ByteArray := prog_1_method_12_code
def yX4_sum : MethodName := ⟨RX4, "sum", "(II)I"⟩
abbrev cX4_term : ByteArray := prog_1_method_13_code
def yX4_term : MethodName := ⟨RX4, "term", "(III)J"⟩
abbrev cX4_same : ByteArray := prog_1_method_14_code
def yX4_same : MethodName := ⟨RX4, "same", "(II)I"⟩
abbrev cX4_closed : ByteArray := prog_1_method_15_code
def yX4_closed : MethodName := ⟨RX4, "closed", "(II)J"⟩
abbrev cX4_halves : ByteArray := prog_1_method_16_code
def yX4_halves : MethodName := ⟨RX4, "halves", "(II)I"⟩
abbrev cX4_half : ByteArray := prog_1_method_17_code
def yX4_half : MethodName := ⟨RX4, "half", "(IIII)I"⟩
abbrev cX4_form : ByteArray := prog_1_method_18_code
def yX4_form : MethodName := ⟨RX4, "form", "(IIII)I"⟩
abbrev cX4_free : ByteArray := prog_1_method_19_code
def yX4_free : MethodName := ⟨RX4, "free", "(IIII)I"⟩
abbrev cX4_row : ByteArray := prog_1_method_20_code
def yX4_row : MethodName := ⟨RX4, "row", "(I)I"⟩
abbrev cX4_cross : ByteArray := prog_1_method_21_code
def yX4_cross : MethodName := ⟨RX4, "cross", "(I)I"⟩
abbrev cX4_back : ByteArray := prog_1_method_22_code
def yX4_back : MethodName := ⟨RX4, "back", "()I"⟩
abbrev cX4_power : ByteArray := prog_1_method_23_code
def yX4_power : MethodName := ⟨RX4, "power", "(I)I"⟩
abbrev cX4_isStrands : ByteArray := prog_1_method_24_code
def yX4_isStrands : MethodName := ⟨RX4, "isStrands", "(I)Z"⟩
abbrev cX4_isSum : ByteArray := prog_1_method_25_code
def yX4_isSum : MethodName := ⟨RX4, "isSum", "(I)Z"⟩
abbrev cX4_isThrough : ByteArray := prog_1_method_26_code
def yX4_isThrough : MethodName := ⟨RX4, "isThrough", "(II)Z"⟩
abbrev cX4_isBox : ByteArray := prog_1_method_27_code
def yX4_isBox : MethodName := ⟨RX4, "isBox", "(II)Z"⟩
abbrev cX4_isPrime : ByteArray := prog_1_method_28_code
def yX4_isPrime : MethodName := ⟨RX4, "isPrime", "(I)Z"⟩
abbrev cX4_make : ByteArray := prog_1_method_29_code
def yX4_make : MethodName := ⟨RX4, "make", "(ILStrandBoxes$Sum;LStrandBoxes$Sum;)Z"⟩
def RX5 : String := "StrandBoxesModel"
def TX5 : u_T := fun k => match k with
  | 0 => ("StrandBoxesModel", "table", "[I", true)
  | 1 => ("StrandBoxesModel", "lastLetter", "[I", true)
  | 2 => ("StrandBoxesModel", "ahead", "[I", true)
  | 3 => ("StrandBoxesModel", "letters", "[I", true)
  | 4 => ("StrandBoxesModel", "strands", "[I", true)
  | 5 => ("StrandBoxesModel", "terms", "[I", true)
  | 6 => ("StrandBoxesModel", "termBox", "[I", true)
  | 7 => ("StrandBoxesModel", "termPower", "[I", true)
  | 8 => ("StrandBoxesModel", "termFactor", "[J", true)
  | 9 => ("StrandBoxesModel", "rowStrands", "I", false)
  | 10 => ("StrandBoxesModel", "crossings", "I", false)
  | 11 => ("StrandBoxesModel", "crossing", "[I", true)
  | 12 => ("StrandBoxesModel", "taken", "[Z", true)
  | 13 => ("StrandBoxesModel", "made", "[I", true)
  | 14 => ("StrandBoxesModel", "met", "[Z", true)
  | 15 => ("StrandBoxesModel", "rings", "I", false)
  | 16 => ("StrandBoxesModel", "queue", "[I", true)
  | 17 => ("StrandBoxesModel", "size", "I", false)
  | 18 => ("StrandBoxesModel", "rowBox", "[I", true)
  | 19 => ("StrandBoxesModel", "rowPower", "[I", true)
  | 20 => ("StrandBoxesModel", "rowFactor", "[J", true)
  | 21 => ("StrandBoxesModel", "halfA", "[I", true)
  | 22 => ("StrandBoxesModel", "halfB", "[I", true)
  | 23 => ("StrandBoxesModel", "forms", "[I", true)
  | 24 => ("StrandBoxesModel", "all", "[I", true)
  | 25 => ("StrandBoxesModel", "state", "[I", true)
  | _ => ("StrandBoxesModel", "next", "[I", true)
def tyX5 : Nat → FieldType := fun k => match k with
  | 0 => .array .int
  | 1 => .array .int
  | 2 => .array .int
  | 3 => .array .int
  | 4 => .array .int
  | 5 => .array .int
  | 6 => .array .int
  | 7 => .array .int
  | 8 => .array .long
  | 9 => .int
  | 10 => .int
  | 11 => .array .int
  | 12 => .array .boolean
  | 13 => .array .int
  | 14 => .array .boolean
  | 15 => .int
  | 16 => .array .int
  | 17 => .int
  | 18 => .array .int
  | 19 => .array .int
  | 20 => .array .long
  | 21 => .array .int
  | 22 => .array .int
  | 23 => .array .int
  | 24 => .array .int
  | 25 => .array .int
  | _ => .array .int
abbrev wsX50 : List Cond := u_ws RX5 TX5 27
theorem nmX5 : ∀ a, a < 27 → ∀ b, b < 27 → a ≠ b → (TX5 a).2.1 ≠ (TX5 b).2.1 := by decide +kernel
theorem tyX5_ok : ∀ k, k < 27 → parseFieldDescriptor (TX5 k).2.2.1 = some (tyX5 k) := by decide +kernel
abbrev cX5_init : ByteArray := prog_7_method_1_code
def yX5_init : MethodName := ⟨RX5, "<init>", "()V"⟩
abbrev cX5_in : ByteArray := prog_7_method_2_code
def yX5_in : MethodName := ⟨RX5, "in", "(JJJ)Z"⟩
abbrev cX5_isWide : ByteArray := prog_7_method_3_code
def yX5_isWide : MethodName := ⟨RX5, "isWide", "(I)Z"⟩
abbrev cX5_boxes : ByteArray := prog_7_method_4_code
def yX5_boxes : MethodName := ⟨RX5, "boxes", "(I)I"⟩
abbrev cX5_first : ByteArray := prog_7_method_5_code
def yX5_first : MethodName := ⟨RX5, "first", "(I)I"⟩
abbrev cX5_isBox : ByteArray := prog_7_method_6_code
def yX5_isBox : MethodName := ⟨RX5, "isBox", "(II)Z"⟩
abbrev cX5_at : ByteArray := prog_7_method_7_code
def yX5_at : MethodName := ⟨RX5, "at", "(II)I"⟩
abbrev cX5_decode : ByteArray := prog_7_method_8_code
def yX5_decode : MethodName := ⟨RX5, "decode", "(II)V"⟩
abbrev cX5_numberOf : ByteArray := prog_7_method_9_code
def yX5_numberOf : MethodName := ⟨RX5, "numberOf", "(I)I"⟩
abbrev cX5_lead : ByteArray := prog_7_method_10_code
def yX5_lead : MethodName := ⟨RX5, "lead", "(IIII)I"⟩
abbrev cX5_stacked : ByteArray := prog_7_method_11_code
def yX5_stacked : MethodName := ⟨RX5, "stacked", "(III)I"⟩
abbrev cX5_ringsClosed : ByteArray := prog_7_method_12_code
def yX5_ringsClosed : MethodName := ⟨RX5, "ringsClosed", "(II)I"⟩
abbrev cX5_isLetter : ByteArray := prog_7_method_13_code
def yX5_isLetter : MethodName := ⟨RX5, "isLetter", "(II)Z"⟩
abbrev cX5_plainBox : ByteArray := prog_7_method_14_code
def yX5_plainBox : MethodName := ⟨RX5, "plainBox", "(II)I"⟩
abbrev cX5_findWords : ByteArray := prog_7_method_15_code
def yX5_findWords : MethodName := ⟨RX5, "findWords", "(I)V"⟩
abbrev cX5_isPlane : ByteArray := prog_7_method_16_code
def yX5_isPlane : MethodName := ⟨RX5, "isPlane", "(II)Z"⟩
abbrev cX5_round : ByteArray := prog_7_method_17_code
def yX5_round : MethodName := ⟨RX5, "round", "(II)I"⟩
abbrev cX5_many : ByteArray := prog_7_method_18_code
def yX5_many : MethodName := ⟨RX5, "many", "(II)I"⟩
abbrev cX5_partner : ByteArray := prog_7_method_19_code
def yX5_partner : MethodName := ⟨RX5, "partner", "(III)I"⟩
abbrev cX5_through : ByteArray := prog_7_method_20_code
def yX5_through : MethodName := ⟨RX5, "through", "(II)I"⟩
abbrev cX5_upsideDown : ByteArray := prog_7_method_21_code
def yX5_upsideDown : MethodName := ⟨RX5, "upsideDown", "(II)I"⟩
abbrev cX5_about : ByteArray := prog_7_method_22_code
def yX5_about : MethodName := ⟨RX5, "about", "(III)I"⟩
abbrev cX5_stack : ByteArray := prog_7_method_23_code
def yX5_stack : MethodName := ⟨RX5, "stack", "(III)I"⟩
abbrev cX5_box : ByteArray := prog_7_method_24_code
def yX5_box : MethodName := ⟨RX5, "box", "(IJ)I"⟩
abbrev cX5_plain : ByteArray := prog_7_method_25_code
def yX5_plain : MethodName := ⟨RX5, "plain", "(II)I"⟩
abbrev cX5_word : ByteArray := prog_7_method_26_code
def yX5_word : MethodName := ⟨RX5, "word", "(III)I"⟩
abbrev cX5_isSum : ByteArray := prog_7_method_27_code
def yX5_isSum : MethodName := ⟨RX5, "isSum", "(I)Z"⟩
abbrev cX5_load : ByteArray := prog_7_method_28_code
def yX5_load : MethodName := ⟨RX5, "load", "(I)V"⟩
abbrev cX5_store : ByteArray := prog_7_method_29_code
def yX5_store : MethodName := ⟨RX5, "store", "(II)I"⟩
abbrev cX5_move : ByteArray := prog_7_method_30_code
def yX5_move : MethodName := ⟨RX5, "move", "(II)V"⟩
abbrev cX5_comes : ByteArray := prog_7_method_31_code
def yX5_comes : MethodName := ⟨RX5, "comes", "(IIJ)Z"⟩
abbrev cX5_clear : ByteArray := prog_7_method_32_code
def yX5_clear : MethodName := ⟨RX5, "clear", "(II)I"⟩
abbrev cX5_add : ByteArray := prog_7_method_33_code
def yX5_add : MethodName := ⟨RX5, "add", "(IIIJ)I"⟩
abbrev cX5_work : ByteArray := prog_7_method_34_code
def yX5_work : MethodName := ⟨RX5, "work", "(IIII)I"⟩
abbrev cX5_sum : ByteArray := prog_7_method_35_code
def yX5_sum : MethodName := ⟨RX5, "sum", "(II)I"⟩
abbrev cX5_term : ByteArray := prog_7_method_36_code
def yX5_term : MethodName := ⟨RX5, "term", "(III)J"⟩
abbrev cX5_same : ByteArray := prog_7_method_37_code
def yX5_same : MethodName := ⟨RX5, "same", "(II)I"⟩
abbrev cX5_closed : ByteArray := prog_7_method_38_code
def yX5_closed : MethodName := ⟨RX5, "closed", "(II)J"⟩
abbrev cX5_isHalf : ByteArray := prog_7_method_39_code
def yX5_isHalf : MethodName := ⟨RX5, "isHalf", "(II[I)Z"⟩
abbrev cX5_lay : ByteArray := prog_7_method_40_code
def yX5_lay : MethodName := ⟨RX5, "lay", "(III[I)I"⟩
abbrev cX5_areHalves : ByteArray := prog_7_method_41_code
def yX5_areHalves : MethodName := ⟨RX5, "areHalves", "(II)Z"⟩
abbrev cX5_halves : ByteArray := prog_7_method_42_code
def yX5_halves : MethodName := ⟨RX5, "halves", "(II)I"⟩
abbrev cX5_half : ByteArray := prog_7_method_43_code
def yX5_half : MethodName := ⟨RX5, "half", "(IIII)I"⟩
abbrev cX5_formOf : ByteArray := prog_7_method_44_code
def yX5_formOf : MethodName := ⟨RX5, "formOf", "(I)I"⟩
abbrev cX5_form : ByteArray := prog_7_method_45_code
def yX5_form : MethodName := ⟨RX5, "form", "(IIII)I"⟩
abbrev cX5_isPrime : ByteArray := prog_7_method_46_code
def yX5_isPrime : MethodName := ⟨RX5, "isPrime", "(I)Z"⟩
abbrev cX5_inverse : ByteArray := prog_7_method_47_code
def yX5_inverse : MethodName := ⟨RX5, "inverse", "(II)I"⟩
abbrev cX5_free : ByteArray := prog_7_method_48_code
def yX5_free : MethodName := ⟨RX5, "free", "(IIII)I"⟩
abbrev cX5_reduce : ByteArray := prog_7_method_49_code
def yX5_reduce : MethodName := ⟨RX5, "reduce", "(IIIII)V"⟩
abbrev cX5_row : ByteArray := prog_7_method_50_code
def yX5_row : MethodName := ⟨RX5, "row", "(I)I"⟩
abbrev cX5_cross : ByteArray := prog_7_method_51_code
def yX5_cross : MethodName := ⟨RX5, "cross", "(I)I"⟩
abbrev cX5_back : ByteArray := prog_7_method_52_code
def yX5_back : MethodName := ⟨RX5, "back", "()I"⟩
abbrev cX5_addState : ByteArray := prog_7_method_53_code
def yX5_addState : MethodName := ⟨RX5, "addState", "(I)V"⟩
abbrev cX5_power : ByteArray := prog_7_method_54_code
def yX5_power : MethodName := ⟨RX5, "power", "(I)I"⟩
def RJ9 : String := "java/lang/Math"
def TJ9 : u_T := fun k => match k with
  | _ => ("", "", "", false)
def tyJ9 : Nat → FieldType := fun k => match k with
  | _ => .int
abbrev wsJ90 : List Cond := u_ws RJ9 TJ9 0
theorem nmJ9 : ∀ a, a < 0 → ∀ b, b < 0 → a ≠ b → (TJ9 a).2.1 ≠ (TJ9 b).2.1 := by decide +kernel
theorem tyJ9_ok : ∀ k, k < 0 → parseFieldDescriptor (TJ9 k).2.2.1 = some (tyJ9 k) := by decide +kernel
abbrev cJ9_floorMod_7cf53 : ByteArray := prog_8_method_50_code
def yJ9_floorMod_7cf53 : MethodName := ⟨RJ9, "floorMod", "(II)I"⟩
abbrev cJ9_abs_0f7a4 : ByteArray := prog_8_method_59_code
def yJ9_abs_0f7a4 : MethodName := ⟨RJ9, "abs", "(I)I"⟩
abbrev cJ9_abs_067f4 : ByteArray := prog_8_method_61_code
def yJ9_abs_067f4 : MethodName := ⟨RJ9, "abs", "(J)J"⟩
abbrev cJ9_min_7cf53 : ByteArray := prog_8_method_69_code
def yJ9_min_7cf53 : MethodName := ⟨RJ9, "min", "(II)I"⟩
def RJ10 : String := "java/lang/System"
def TJ10 : u_T := fun k => match k with
  | _ => ("", "", "", false)
def tyJ10 : Nat → FieldType := fun k => match k with
  | _ => .int
abbrev wsJ100 : List Cond := u_ws RJ10 TJ10 0
theorem nmJ10 : ∀ a, a < 0 → ∀ b, b < 0 → a ≠ b → (TJ10 a).2.1 ≠ (TJ10 b).2.1 := by decide +kernel
theorem tyJ10_ok : ∀ k, k < 0 → parseFieldDescriptor (TJ10 k).2.2.1 = some (tyJ10 k) := by decide +kernel
def RL : String := "StrandBoxesLaw"
abbrev cL_law : ByteArray := code
def yL_law : MethodName := ⟨RL, "law", "([I)Z"⟩
abbrev vwCl : List vw_C := [(RX0, TX0, 11), (RX1, TX1, 5), (RX2, TX2, 7), (RX3, TX3, 5), (RX4, TX4, 5), (RX5, TX5, 27)]
abbrev am_V : Type := (Int ⊕ Int) ⊕ Option (Option Nat)
abbrev vI (x : Int) : am_V := .inl (.inl x)
abbrev vL (x : Int) : am_V := .inl (.inr x)
abbrev vR (k : Nat) : am_V := .inr (some (some k))
abbrev vN : am_V := .inr (some none)
/-- no value: a local that is not set -/
abbrev vU : am_V := .inr none
/-- a cell: its kind, its length, its places. Kinds: 0 int[], 1 boolean[], 2 long[], 3 int[][], 4 Boxes[], 5 Halves[], 6 Sum[], 10 + c an object of class c -/
abbrev am_K : Type := Nat × Nat × (Nat → am_V)
/-- how many cells, how many slots, the cells -/
abbrev am_H : Type := Nat × Nat × (Nat → am_K)
abbrev am_I : Type := Instr × Nat × Nat × Nat
abbrev am_C : Type := List (List (Option am_I))
/-- pc, locals, stack, heap -/
abbrev am_S : Type := Nat × List am_V × List am_V × am_H
/-- a step's end: a state; a call (method, arguments, the state behind it without the answer); the method's end -/
abbrev am_R : Type := Option (am_S ⊕ ((Nat × List am_V × am_S) ⊕ (Option am_V × am_H)))
abbrev am_F : Type := Nat → Nat → Nat → am_S → am_R
def am_w (x : Int) : Int := Int.bmod x 4294967296
def am_wl (x : Int) : Int := Int.bmod x 18446744073709551616
-- the heap
def am_up {α : Type} (f : Nat → α) (k : Nat) (v : α) : Nat → α := fun j => if j = k then v else f j
def am_wr (h : am_H) (a i : Nat) (v : am_V) : am_H := (h.1, h.2.1, am_up h.2.2 a ((h.2.2 a).1, (h.2.2 a).2.1, am_up (h.2.2 a).2.2 i v))
def am_mk (h : am_H) (kd n : Nat) (c : Nat → am_V) : am_H := (h.1 + 1, h.2.1 + n, am_up h.2.2 h.1 (kd, n, c))
-- instructions
def am_push (v : am_V) : am_F := fun len _ _ s => some (.inl (s.1 + len, s.2.1, v :: s.2.2.1, s.2.2.2))
/-- kinds of values: 0 int, 1 long, 2 reference -/
def am_is (k : Nat) (v : am_V) : Bool := match v with
  | .inl (.inl _) => k == 0
  | .inl (.inr _) => k == 1
  | .inr (some (some _)) => k == 2
  | .inr _ => false
def am_load (k i : Nat) : am_F := fun len _ _ s => match s.2.1[i]? with
  | some v => if am_is k v then some (.inl (s.1 + len, s.2.1, v :: s.2.2.1, s.2.2.2)) else none
  | none => none
/-- a long just below the place i is no value any more -/
def am_cl (ls : List am_V) (i : Nat) : List am_V := match i with
  | 0 => ls
  | j + 1 => (match ls[j]? with
    | some (.inl (.inr _)) => ls.set j vU
    | _ => ls)
def am_stor (k i : Nat) : am_F := fun len _ _ s => match s.2.2.1 with
  | v :: st => if am_is k v && decide (i < s.2.1.length) then some (.inl (s.1 + len, (am_cl s.2.1 i).set i v, st, s.2.2.2)) else none
  | _ => none
def am_storl (i : Nat) : am_F := fun len _ _ s => match s.2.2.1 with
  | (.inl (.inr x)) :: st => if i + 1 < s.2.1.length then some (.inl (s.1 + len, ((am_cl s.2.1 i).set i (vL x)).set (i + 1) vU, st, s.2.2.2)) else none
  | _ => none
def am_iinc (i : Nat) (n : Int) : am_F := fun len _ _ s => match s.2.1[i]? with
  | some (.inl (.inl x)) => some (.inl (s.1 + len, (am_cl s.2.1 i).set i (vI (am_w (x + n))), s.2.2.1, s.2.2.2))
  | _ => none
def am_bin (f : Int → Int → Option Int) : am_F := fun len _ _ s => match s.2.2.1 with
  | (.inl (.inl y)) :: (.inl (.inl x)) :: st => (f x y).map (fun z => .inl (s.1 + len, s.2.1, vI z :: st, s.2.2.2))
  | _ => none
def am_binl (f : Int → Int → Option Int) : am_F := fun len _ _ s => match s.2.2.1 with
  | (.inl (.inr y)) :: (.inl (.inr x)) :: st => (f x y).map (fun z => .inl (s.1 + len, s.2.1, vL z :: st, s.2.2.2))
  | _ => none
def am_shl (f : Int → Int → Option Int) : am_F := fun len _ _ s => match s.2.2.1 with
  | (.inl (.inl y)) :: (.inl (.inr x)) :: st => (f x y).map (fun z => .inl (s.1 + len, s.2.1, vL z :: st, s.2.2.2))
  | _ => none
def am_un (f : Int → Int) : am_F := fun len _ _ s => match s.2.2.1 with
  | (.inl (.inl x)) :: st => some (.inl (s.1 + len, s.2.1, vI (f x) :: st, s.2.2.2))
  | _ => none
def am_unl (f : Int → Int) : am_F := fun len _ _ s => match s.2.2.1 with
  | (.inl (.inr x)) :: st => some (.inl (s.1 + len, s.2.1, vL (f x) :: st, s.2.2.2))
  | _ => none
def am_i2l : am_F := fun len _ _ s => match s.2.2.1 with
  | (.inl (.inl x)) :: st => some (.inl (s.1 + len, s.2.1, vL x :: st, s.2.2.2))
  | _ => none
def am_l2i : am_F := fun len _ _ s => match s.2.2.1 with
  | (.inl (.inr x)) :: st => some (.inl (s.1 + len, s.2.1, vI (am_w x) :: st, s.2.2.2))
  | _ => none
def am_lcmp : am_F := fun len _ _ s => match s.2.2.1 with
  | (.inl (.inr y)) :: (.inl (.inr x)) :: st => some (.inl (s.1 + len, s.2.1, vI (if x < y then -1 else if x = y then 0 else 1) :: st, s.2.2.2))
  | _ => none
def am_dup : am_F := fun len _ _ s => match s.2.2.1 with
  | v :: st => if am_is 0 v || am_is 2 v then some (.inl (s.1 + len, s.2.1, v :: v :: st, s.2.2.2)) else none
  | _ => none
def am_dup2 : am_F := fun len _ _ s => match s.2.2.1 with
  | v :: w :: st => if (am_is 0 v || am_is 2 v) && (am_is 0 w || am_is 2 w) then some (.inl (s.1 + len, s.2.1, v :: w :: v :: w :: st, s.2.2.2)) else none
  | _ => none
def am_pop (k : Nat) : am_F := fun len _ _ s => match s.2.2.1 with
  | v :: st => if am_is k v then some (.inl (s.1 + len, s.2.1, st, s.2.2.2)) else none
  | _ => none
def am_cmp (c : Jvm.ClassFile.Cond) (x y : Int) : Bool := match c with
  | .eq => decide (x = y)
  | .ne => decide (¬ x = y)
  | .lt => decide (x < y)
  | .ge => decide (¬ x < y)
  | .gt => decide (y < x)
  | .le => decide (¬ y < x)
def am_if (c : Jvm.ClassFile.Cond) : am_F := fun len x _ s => match s.2.2.1 with
  | (.inl (.inl a)) :: st => some (.inl ((if am_cmp c a 0 then x else s.1 + len), s.2.1, st, s.2.2.2))
  | _ => none
def am_icmp (c : Jvm.ClassFile.Cond) : am_F := fun len x _ s => match s.2.2.1 with
  | (.inl (.inl b)) :: (.inl (.inl a)) :: st => some (.inl ((if am_cmp c a b then x else s.1 + len), s.2.1, st, s.2.2.2))
  | _ => none
def am_goto : am_F := fun _ x _ s => some (.inl (x, s.2.1, s.2.2.1, s.2.2.2))
def am_sw (d lo hi : Int) (offs : Array Int) : am_F := fun _ _ _ s => match s.2.2.1 with
  | (.inl (.inl a)) :: st => if a < lo ∨ hi < a then some (.inl (((s.1 : Int) + d).toNat, s.2.1, st, s.2.2.2)) else (match offs[(a - lo).toNat]? with
    | some o => some (.inl (((s.1 : Int) + o).toNat, s.2.1, st, s.2.2.2))
    | none => none)
  | _ => none
/-- the kind of a field's values: 0 int, 1 boolean, 2 long, 3 a reference -/
abbrev am_ft : Type := Nat → Nat → Nat
def am_fok (k : Nat) (v : am_V) : Bool := match v with
  | .inl (.inl x) => k == 0 || (k == 1 && (decide (x = 0) || decide (x = 1)))
  | .inl (.inr _) => k == 2
  | .inr (some _) => k == 3
  | .inr none => false
def am_gf : am_F := fun len x y s => match s.2.2.1 with
  | (.inr (some (some a))) :: st => if a < s.2.2.2.1 ∧ (s.2.2.2.2.2 a).1 = 10 + x ∧ y < (s.2.2.2.2.2 a).2.1 then some (.inl (s.1 + len, s.2.1, (s.2.2.2.2.2 a).2.2 y :: st, s.2.2.2)) else none
  | _ => none
def am_pf (ft : am_ft) : am_F := fun len x y s => match s.2.2.1 with
  | v :: (.inr (some (some a))) :: st => if a < s.2.2.2.1 ∧ (s.2.2.2.2.2 a).1 = 10 + x ∧ y < (s.2.2.2.2.2 a).2.1 ∧ am_fok (ft x y) v = true then some (.inl (s.1 + len, s.2.1, st, am_wr s.2.2.2 a y v)) else none
  | _ => none
def am_ald (ok : Nat → Bool) : am_F := fun len _ _ s => match s.2.2.1 with
  | (.inl (.inl i)) :: (.inr (some (some a))) :: st => if a < s.2.2.2.1 ∧ ok (s.2.2.2.2.2 a).1 = true ∧ 0 ≤ i ∧ i < ((s.2.2.2.2.2 a).2.1 : Int) then some (.inl (s.1 + len, s.2.1, (s.2.2.2.2.2 a).2.2 i.toNat :: st, s.2.2.2)) else none
  | _ => none
def am_ast (k : Nat) (vk : Nat) : am_F := fun len _ _ s => match s.2.2.1 with
  | v :: (.inl (.inl i)) :: (.inr (some (some a))) :: st => if a < s.2.2.2.1 ∧ (s.2.2.2.2.2 a).1 = k ∧ am_fok vk v = true ∧ 0 ≤ i ∧ i < ((s.2.2.2.2.2 a).2.1 : Int) then some (.inl (s.1 + len, s.2.1, st, am_wr s.2.2.2 a i.toNat v)) else none
  | _ => none
/-- the class of what an array of kind k holds -/
def am_comp (k : Nat) : Nat := match k with
  | 4 => 10
  | 5 => 12
  | _ => 13
def am_aast : am_F := fun len _ _ s => match s.2.2.1 with
  | (.inr (some (some v))) :: (.inl (.inl i)) :: (.inr (some (some a))) :: st => if a < s.2.2.2.1 ∧ v < s.2.2.2.1 ∧ 4 ≤ (s.2.2.2.2.2 a).1 ∧ (s.2.2.2.2.2 a).1 < 7 ∧ (s.2.2.2.2.2 v).1 = am_comp (s.2.2.2.2.2 a).1 ∧ 0 ≤ i ∧ i < ((s.2.2.2.2.2 a).2.1 : Int) then some (.inl (s.1 + len, s.2.1, st, am_wr s.2.2.2 a i.toNat (vR v))) else none
  | _ => none
def am_len : am_F := fun len _ _ s => match s.2.2.1 with
  | (.inr (some (some a))) :: st => if a < s.2.2.2.1 ∧ (s.2.2.2.2.2 a).1 < 7 then some (.inl (s.1 + len, s.2.1, vI ((s.2.2.2.2.2 a).2.1 : Int) :: st, s.2.2.2)) else none
  | _ => none
def am_dv (kd : Nat) : am_V := match kd with
  | 0 => vI 0
  | 1 => vI 0
  | 2 => vL 0
  | _ => vN
def am_new (ft : am_ft) : am_F := fun len x y s => some (.inl (s.1 + len, s.2.1, vR s.2.2.2.1 :: s.2.2.1, am_mk s.2.2.2 (10 + x) y (fun j => am_dv (ft x j))))
def am_newa (lo hi : Nat) : am_F := fun len x _ s => match s.2.2.1 with
  | (.inl (.inl n)) :: st => if 0 ≤ n ∧ n ≤ 1024 ∧ lo ≤ x ∧ x ≤ hi then some (.inl (s.1 + len, s.2.1, vR s.2.2.2.1 :: st, am_mk s.2.2.2 x n.toNat (fun _ => am_dv x))) else none
  | _ => none
/-- a row of n rows of k places: the outer cell, the rows behind it -/
def am_grid (h : am_H) (n k : Nat) : am_H := (h.1 + 1 + n, h.2.1 + n + n * k, fun j => if j = h.1 then (3, n, fun i => if i < n then vR (h.1 + 1 + i) else vN) else if h.1 < j ∧ j < h.1 + 1 + n then (0, k, fun _ => vI 0) else h.2.2 j)
def am_mna : am_F := fun len _ _ s => match s.2.2.1 with
  | (.inl (.inl k)) :: (.inl (.inl n)) :: st => if 0 ≤ n ∧ n ≤ 1024 ∧ 0 ≤ k ∧ k ≤ 1024 then some (.inl (s.1 + len, s.2.1, vR s.2.2.2.1 :: st, am_grid s.2.2.2 n.toNat k.toNat)) else none
  | _ => none
def am_cpy {α : Type} (f g : Nat → α) (sp dp n : Nat) : Nat → α := fun j => if dp ≤ j ∧ j < dp + n then f (sp + (j - dp)) else g j
def am_acopy : am_F := fun len _ _ s => match s.2.2.1 with
  | (.inl (.inl n)) :: (.inl (.inl dp)) :: (.inr (some (some b))) :: (.inl (.inl sp)) :: (.inr (some (some a))) :: [] =>
    if a < s.2.2.2.1 ∧ b < s.2.2.2.1 ∧ (s.2.2.2.2.2 a).1 = (s.2.2.2.2.2 b).1 ∧ ((s.2.2.2.2.2 a).1 = 0 ∨ (s.2.2.2.2.2 a).1 = 2) ∧ 0 ≤ n ∧ 0 ≤ sp ∧ 0 ≤ dp ∧ sp + n ≤ ((s.2.2.2.2.2 a).2.1 : Int) ∧ dp + n ≤ ((s.2.2.2.2.2 b).2.1 : Int) then
      some (.inl (s.1 + len, s.2.1, [], (s.2.2.2.1, s.2.2.2.2.1, am_up s.2.2.2.2.2 b ((s.2.2.2.2.2 b).1, (s.2.2.2.2.2 b).2.1, am_cpy (s.2.2.2.2.2 a).2.2 (s.2.2.2.2.2 b).2.2 sp.toNat dp.toNat n.toNat)))) else none
  | _ => none
def am_cat (v : am_V) : Nat := match v with
  | .inl (.inr _) => 2
  | _ => 1
/-- from 1000 on: a call on an object of class x / 1000 - 1 -/
def am_rcv (h : am_H) (x : Nat) (as : List am_V) : Bool := if x < 1000 then true else (match as with
  | .inr (some (some a)) :: _ => decide (a < h.1) && decide ((h.2.2 a).1 = 9 + x / 1000)
  | _ => false)
/-- a call: x % 1000 the method's number, y how many arguments. 900: Object.<init>; 901: arraycopy -/
def am_inv : am_F := fun len x y s =>
  if x = 900 then (match s.2.2.1 with
    | (.inr (some (some _))) :: [] => some (.inl (s.1 + len, s.2.1, [], s.2.2.2))
    | _ => none)
  else if x = 901 then am_acopy len x y s
  else if y ≤ s.2.2.1.length ∧ ((s.2.2.1.drop y).map am_cat).sum ≤ 8 ∧ am_rcv s.2.2.2 x (s.2.2.1.take y).reverse = true then some (.inr (.inl (x % 1000, (s.2.2.1.take y).reverse, s.1 + len, s.2.1, s.2.2.1.drop y, s.2.2.2))) else none
/-- x: 0 an int, 1 a boolean, 2 a long -/
def am_ret : am_F := fun _ x _ s => match s.2.2.1 with
  | [v] => if am_fok x v then some (.inr (.inr (some v, s.2.2.2))) else none
  | _ => none
def am_retv : am_F := fun _ _ _ s => match s.2.2.1 with
  | [] => some (.inr (.inr (none, s.2.2.2)))
  | _ => none
def am_no : am_F := fun _ _ _ _ => none
def am_cst (x y : Nat) : Int := if x = 0 then (y : Int) else Int.negSucc y
def am_ldc : am_F := fun len x y s => some (.inl (s.1 + len, s.2.1, vI (am_cst x y) :: s.2.2.1, s.2.2.2))
def am_ldc2 : am_F := fun len x y s => some (.inl (s.1 + len, s.2.1, vL (am_cst x y) :: s.2.2.1, s.2.2.2))
def am_div (x y : Int) : Option Int := if y = 0 then none else some (am_w (x.tdiv y))
def am_rem (x y : Int) : Option Int := if y = 0 then none else some (x.tmod y)
def am_divl (x y : Int) : Option Int := if y = 0 then none else some (am_wl (x.tdiv y))
def am_and (x y : Int) : Int := (Int32.ofInt x &&& Int32.ofInt y).toInt
def am_xor (x y : Int) : Int := (Int32.ofInt x ^^^ Int32.ofInt y).toInt
def am_andl (x y : Int) : Int := (Int64.ofInt x &&& Int64.ofInt y).toInt
def am_orl (x y : Int) : Int := (Int64.ofInt x ||| Int64.ofInt y).toInt
def am_shi (x y : Int) : Int := (Int32.ofInt x <<< (Int32.ofInt y &&& 31)).toInt
def am_shri (x y : Int) : Int := (Int32.ofInt x >>> (Int32.ofInt y &&& 31)).toInt
def am_shlL (x y : Int) : Int := (Int64.ofInt x <<< ((Int32.ofInt y).toInt64 &&& 63)).toInt
def am_shrL (x y : Int) : Int := (Int64.ofInt x >>> ((Int32.ofInt y).toInt64 &&& 63)).toInt
def am_ushL (x y : Int) : Int := ((Int64.ofInt x).toUInt64 >>> ((Int32.ofInt y).toInt64.toUInt64 &&& Int64.toUInt64 63)).toInt64.toInt
def am_sem (ft : am_ft) (ins : Instr) : am_F := match ins with
  | .iconst n => am_push (vI n)
  | .bipush n => am_push (vI n)
  | .sipush n => am_push (vI n)
  | .lconst n => am_push (vL (n.val : Int))
  | .ldc _ => am_ldc
  | .ldc2_w _ => am_ldc2
  | .iload_n k => am_load 0 k.val
  | .iload k => am_load 0 k
  | .lload_n k => am_load 1 k.val
  | .lload k => am_load 1 k
  | .aload_n k => am_load 2 k.val
  | .aload k => am_load 2 k
  | .istore_n k => am_stor 0 k.val
  | .istore k => am_stor 0 k
  | .lstore_n k => am_storl k.val
  | .lstore k => am_storl k
  | .astore_n k => am_stor 2 k.val
  | .astore k => am_stor 2 k
  | .iinc k n => am_iinc k n
  | .iadd => am_bin (fun x y => some (am_w (x + y)))
  | .isub => am_bin (fun x y => some (am_w (x - y)))
  | .imul => am_bin (fun x y => some (am_w (x * y)))
  | .idiv => am_bin am_div
  | .irem => am_bin am_rem
  | .ineg => am_un (fun x => am_w (-x))
  | .iand => am_bin (fun x y => some (am_and x y))
  | .ixor => am_bin (fun x y => some (am_xor x y))
  | .ishl => am_bin (fun x y => some (am_shi x y))
  | .ishr => am_bin (fun x y => some (am_shri x y))
  | .ladd => am_binl (fun x y => some (am_wl (x + y)))
  | .lmul => am_binl (fun x y => some (am_wl (x * y)))
  | .ldiv => am_binl am_divl
  | .lneg => am_unl (fun x => am_wl (-x))
  | .land => am_binl (fun x y => some (am_andl x y))
  | .lor => am_binl (fun x y => some (am_orl x y))
  | .lshl => am_shl (fun x y => some (am_shlL x y))
  | .lshr => am_shl (fun x y => some (am_shrL x y))
  | .lushr => am_shl (fun x y => some (am_ushL x y))
  | .lcmp => am_lcmp
  | .i2l => am_i2l
  | .l2i => am_l2i
  | .ifCond c _ => am_if c
  | .if_icmp c _ => am_icmp c
  | .goto _ => am_goto
  | .tableswitch d lo hi offs => am_sw d lo hi offs
  | .getfield _ => am_gf
  | .putfield _ => am_pf ft
  | .iaload => am_ald (fun k => k == 0)
  | .baload => am_ald (fun k => k == 1)
  | .laload => am_ald (fun k => k == 2)
  | .aaload => am_ald (fun k => decide (3 ≤ k) && decide (k < 7))
  | .iastore => am_ast 0 0
  | .bastore => am_ast 1 1
  | .lastore => am_ast 2 2
  | .aastore => am_aast
  | .arraylength => am_len
  | .new _ => am_new ft
  | .newarray _ => am_newa 0 2
  | .anewarray _ => am_newa 4 6
  | .multianewarray _ _ => am_mna
  | .dup => am_dup
  | .dup2 => am_dup2
  | .pop => am_pop 0
  | .pop2 => am_pop 1
  | .invokevirtual _ => am_inv
  | .invokestatic _ => am_inv
  | .invokespecial _ => am_inv
  | .ireturn => am_ret
  | .lreturn => am_ret
  | .return_ => am_retv
  | _ => am_no
/-- a program: the fields' kinds; code and number of locals of each method -/
abbrev am_P : Type := am_ft × List (am_C × Nat)
def am_row (C : am_C) (pc : Nat) : Option am_I := (C[pc / 32]?).bind (fun l => (l[pc % 32]?).bind (fun o => o))
def am_1 (ft : am_ft) (C : am_C) (s : am_S) : am_R := match am_row C s.1 with
  | some row => am_sem ft row.1 row.2.1 row.2.2.1 row.2.2.2 s
  | none => none
/-- the locals at a method's entry -/
def am_pad : Nat → List am_V → List am_V
  | 0, _ => []
  | n + 1, [] => vU :: am_pad n []
  | n + 1, .inl (.inr x) :: l => vL x :: (match n with | 0 => [] | n + 1 => vU :: am_pad n l)
  | n + 1, v :: l => v :: am_pad n l
/-- a run of at most n steps from a state to the method's end -/
def am_x (P : am_P) : Nat → am_C → am_S → Option (Option am_V × am_H)
  | 0, _, _ => none
  | n + 1, C, s => match am_1 P.1 C s with
    | none => none
    | some (.inl t) => am_x P n C t
    | some (.inr (.inl q)) => (match P.2[q.1]? with
      | none => none
      | some M => if (q.2.1.map am_cat).sum ≤ M.2 then (match am_x P n M.1 (0, am_pad M.2 q.2.1, [], q.2.2.2.2.2) with
        | none => none
        | some r => am_x P n C (q.2.2.1, q.2.2.2.1, r.1.toList ++ q.2.2.2.2.1, r.2)) else none)
    | some (.inr (.inr r)) => some r
